theorem dX0_init_0 : decode cX0_init 0 = .ok (.aload_n 0, 1) := by decide +kernel
theorem dX0_init_1 : decode cX0_init 1 = .ok (.invokespecial 3, 3) := by decide +kernel
theorem dX0_init_4 : decode cX0_init 4 = .ok (.aload_n 0, 1) := by decide +kernel
theorem dX0_init_5 : decode cX0_init 5 = .ok (.sipush 200, 3) := by decide +kernel
theorem dX0_init_8 : decode cX0_init 8 = .ok (.newarray .int, 2) := by decide +kernel
theorem dX0_init_10 : decode cX0_init 10 = .ok (.putfield 9, 3) := by decide +kernel
theorem dX0_init_13 : decode cX0_init 13 = .ok (.aload_n 0, 1) := by decide +kernel
theorem dX0_init_14 : decode cX0_init 14 = .ok (.sipush 200, 3) := by decide +kernel
theorem dX0_init_17 : decode cX0_init 17 = .ok (.anewarray 15, 3) := by decide +kernel
theorem dX0_init_20 : decode cX0_init 20 = .ok (.putfield 17, 3) := by decide +kernel
theorem dX0_init_23 : decode cX0_init 23 = .ok (.aload_n 0, 1) := by decide +kernel
theorem dX0_init_24 : decode cX0_init 24 = .ok (.sipush 200, 3) := by decide +kernel
theorem dX0_init_27 : decode cX0_init 27 = .ok (.newarray .int, 2) := by decide +kernel
theorem dX0_init_29 : decode cX0_init 29 = .ok (.putfield 21, 3) := by decide +kernel
theorem dX0_init_32 : decode cX0_init 32 = .ok (.aload_n 0, 1) := by decide +kernel
theorem dX0_init_33 : decode cX0_init 33 = .ok (.sipush 200, 3) := by decide +kernel
theorem dX0_init_36 : decode cX0_init 36 = .ok (.newarray .int, 2) := by decide +kernel
theorem dX0_init_38 : decode cX0_init 38 = .ok (.putfield 24, 3) := by decide +kernel
theorem dX0_init_41 : decode cX0_init 41 = .ok (.aload_n 0, 1) := by decide +kernel
theorem dX0_init_42 : decode cX0_init 42 = .ok (.sipush 200, 3) := by decide +kernel
theorem dX0_init_45 : decode cX0_init 45 = .ok (.newarray .int, 2) := by decide +kernel
theorem dX0_init_47 : decode cX0_init 47 = .ok (.putfield 27, 3) := by decide +kernel
theorem dX0_init_50 : decode cX0_init 50 = .ok (.return_, 1) := by decide +kernel
theorem dX0_add_0 : decode cX0_add 0 = .ok (.aload_n 0, 1) := by decide +kernel
theorem dX0_add_1 : decode cX0_add 1 = .ok (.getfield 9, 3) := by decide +kernel
theorem dX0_add_4 : decode cX0_add 4 = .ok (.aload_n 0, 1) := by decide +kernel
theorem dX0_add_5 : decode cX0_add 5 = .ok (.getfield 30, 3) := by decide +kernel
theorem dX0_add_8 : decode cX0_add 8 = .ok (.iload_n 1, 1) := by decide +kernel
theorem dX0_add_9 : decode cX0_add 9 = .ok (.iastore, 1) := by decide +kernel
theorem dX0_add_10 : decode cX0_add 10 = .ok (.aload_n 0, 1) := by decide +kernel
theorem dX0_add_11 : decode cX0_add 11 = .ok (.getfield 17, 3) := by decide +kernel
theorem dX0_add_14 : decode cX0_add 14 = .ok (.aload_n 0, 1) := by decide +kernel
theorem dX0_add_15 : decode cX0_add 15 = .ok (.getfield 30, 3) := by decide +kernel
theorem dX0_add_18 : decode cX0_add 18 = .ok (.aload_n 2, 1) := by decide +kernel
theorem dX0_add_19 : decode cX0_add 19 = .ok (.aastore, 1) := by decide +kernel
theorem dX0_add_20 : decode cX0_add 20 = .ok (.aload_n 0, 1) := by decide +kernel
theorem dX0_add_21 : decode cX0_add 21 = .ok (.getfield 21, 3) := by decide +kernel
theorem dX0_add_24 : decode cX0_add 24 = .ok (.aload_n 0, 1) := by decide +kernel
theorem dX0_add_25 : decode cX0_add 25 = .ok (.getfield 30, 3) := by decide +kernel
theorem dX0_add_28 : decode cX0_add 28 = .ok (.iload_n 3, 1) := by decide +kernel
theorem dX0_add_29 : decode cX0_add 29 = .ok (.iastore, 1) := by decide +kernel
theorem dX0_add_30 : decode cX0_add 30 = .ok (.aload_n 0, 1) := by decide +kernel
theorem dX0_add_31 : decode cX0_add 31 = .ok (.getfield 24, 3) := by decide +kernel
theorem dX0_add_34 : decode cX0_add 34 = .ok (.aload_n 0, 1) := by decide +kernel
theorem dX0_add_35 : decode cX0_add 35 = .ok (.getfield 30, 3) := by decide +kernel
theorem dX0_add_38 : decode cX0_add 38 = .ok (.iload 4, 2) := by decide +kernel
theorem dX0_add_40 : decode cX0_add 40 = .ok (.iastore, 1) := by decide +kernel
theorem dX0_add_41 : decode cX0_add 41 = .ok (.aload_n 0, 1) := by decide +kernel
theorem dX0_add_42 : decode cX0_add 42 = .ok (.aload_n 0, 1) := by decide +kernel
theorem dX0_add_43 : decode cX0_add 43 = .ok (.getfield 30, 3) := by decide +kernel
theorem dX0_add_46 : decode cX0_add 46 = .ok (.iconst 1, 1) := by decide +kernel
theorem dX0_add_47 : decode cX0_add 47 = .ok (.iadd, 1) := by decide +kernel
theorem dX0_add_48 : decode cX0_add 48 = .ok (.sipush 200, 3) := by decide +kernel
theorem dX0_add_51 : decode cX0_add 51 = .ok (.irem, 1) := by decide +kernel
theorem dX0_add_52 : decode cX0_add 52 = .ok (.putfield 30, 3) := by decide +kernel
theorem dX0_add_55 : decode cX0_add 55 = .ok (.aload_n 0, 1) := by decide +kernel
theorem dX0_add_56 : decode cX0_add 56 = .ok (.aload_n 0, 1) := by decide +kernel
theorem dX0_add_57 : decode cX0_add 57 = .ok (.getfield 34, 3) := by decide +kernel
theorem dX0_add_60 : decode cX0_add 60 = .ok (.iconst 1, 1) := by decide +kernel
theorem dX0_add_61 : decode cX0_add 61 = .ok (.iadd, 1) := by decide +kernel
theorem dX0_add_62 : decode cX0_add 62 = .ok (.sipush 200, 3) := by decide +kernel
theorem dX0_add_65 : decode cX0_add 65 = .ok (.invokestatic 37, 3) := by decide +kernel
theorem dX0_add_68 : decode cX0_add 68 = .ok (.putfield 34, 3) := by decide +kernel
theorem dX0_add_71 : decode cX0_add 71 = .ok (.aload_n 0, 1) := by decide +kernel
theorem dX0_add_72 : decode cX0_add 72 = .ok (.dup, 1) := by decide +kernel
theorem dX0_add_73 : decode cX0_add 73 = .ok (.getfield 43, 3) := by decide +kernel
theorem dX0_add_76 : decode cX0_add 76 = .ok (.iconst 1, 1) := by decide +kernel
theorem dX0_add_77 : decode cX0_add 77 = .ok (.iadd, 1) := by decide +kernel
theorem dX0_add_78 : decode cX0_add 78 = .ok (.putfield 43, 3) := by decide +kernel
theorem dX0_add_81 : decode cX0_add 81 = .ok (.return_, 1) := by decide +kernel
theorem dX0_unmark_0 : decode cX0_unmark 0 = .ok (.aload_n 0, 1) := by decide +kernel
theorem dX0_unmark_1 : decode cX0_unmark 1 = .ok (.getfield 27, 3) := by decide +kernel
theorem dX0_unmark_4 : decode cX0_unmark 4 = .ok (.iconst 0, 1) := by decide +kernel
theorem dX0_unmark_5 : decode cX0_unmark 5 = .ok (.invokestatic 46, 3) := by decide +kernel
theorem dX0_unmark_8 : decode cX0_unmark 8 = .ok (.return_, 1) := by decide +kernel
theorem dX0_markNotHeldTo_0 : decode cX0_markNotHeldTo 0 = .ok (.iconst 0, 1) := by decide +kernel
theorem dX0_markNotHeldTo_1 : decode cX0_markNotHeldTo 1 = .ok (.istore_n 3, 1) := by decide +kernel
theorem dX0_markNotHeldTo_2 : decode cX0_markNotHeldTo 2 = .ok (.iload_n 3, 1) := by decide +kernel
theorem dX0_markNotHeldTo_3 : decode cX0_markNotHeldTo 3 = .ok (.aload_n 0, 1) := by decide +kernel
theorem dX0_markNotHeldTo_4 : decode cX0_markNotHeldTo 4 = .ok (.getfield 34, 3) := by decide +kernel
theorem dX0_markNotHeldTo_7 : decode cX0_markNotHeldTo 7 = .ok (.if_icmp .ge 117, 3) := by decide +kernel
theorem dX0_markNotHeldTo_10 : decode cX0_markNotHeldTo 10 = .ok (.aload_n 0, 1) := by decide +kernel
theorem dX0_markNotHeldTo_11 : decode cX0_markNotHeldTo 11 = .ok (.getfield 17, 3) := by decide +kernel
theorem dX0_markNotHeldTo_14 : decode cX0_markNotHeldTo 14 = .ok (.iload_n 3, 1) := by decide +kernel
theorem dX0_markNotHeldTo_15 : decode cX0_markNotHeldTo 15 = .ok (.aaload, 1) := by decide +kernel
theorem dX0_markNotHeldTo_16 : decode cX0_markNotHeldTo 16 = .ok (.aload_n 1, 1) := by decide +kernel
theorem dX0_markNotHeldTo_17 : decode cX0_markNotHeldTo 17 = .ok (.getfield 52, 3) := by decide +kernel
theorem dX0_markNotHeldTo_20 : decode cX0_markNotHeldTo 20 = .ok (.invokevirtual 58, 3) := by decide +kernel
theorem dX0_markNotHeldTo_23 : decode cX0_markNotHeldTo 23 = .ok (.ifCond .ne 22, 3) := by decide +kernel
theorem dX0_markNotHeldTo_26 : decode cX0_markNotHeldTo 26 = .ok (.aload_n 0, 1) := by decide +kernel
theorem dX0_markNotHeldTo_27 : decode cX0_markNotHeldTo 27 = .ok (.getfield 17, 3) := by decide +kernel
theorem dX0_markNotHeldTo_30 : decode cX0_markNotHeldTo 30 = .ok (.iload_n 3, 1) := by decide +kernel
theorem dX0_markNotHeldTo_31 : decode cX0_markNotHeldTo 31 = .ok (.aaload, 1) := by decide +kernel
theorem dX0_markNotHeldTo_32 : decode cX0_markNotHeldTo 32 = .ok (.aload_n 1, 1) := by decide +kernel
theorem dX0_markNotHeldTo_33 : decode cX0_markNotHeldTo 33 = .ok (.getfield 52, 3) := by decide +kernel
theorem dX0_markNotHeldTo_36 : decode cX0_markNotHeldTo 36 = .ok (.invokevirtual 62, 3) := by decide +kernel
theorem dX0_markNotHeldTo_39 : decode cX0_markNotHeldTo 39 = .ok (.ifCond .ne 6, 3) := by decide +kernel
theorem dX0_markNotHeldTo_42 : decode cX0_markNotHeldTo 42 = .ok (.goto 76, 3) := by decide +kernel
theorem dX0_markNotHeldTo_45 : decode cX0_markNotHeldTo 45 = .ok (.aload_n 2, 1) := by decide +kernel
theorem dX0_markNotHeldTo_46 : decode cX0_markNotHeldTo 46 = .ok (.aload_n 0, 1) := by decide +kernel
theorem dX0_markNotHeldTo_47 : decode cX0_markNotHeldTo 47 = .ok (.getfield 9, 3) := by decide +kernel
theorem dX0_markNotHeldTo_50 : decode cX0_markNotHeldTo 50 = .ok (.iload_n 3, 1) := by decide +kernel
theorem dX0_markNotHeldTo_51 : decode cX0_markNotHeldTo 51 = .ok (.iaload, 1) := by decide +kernel
theorem dX0_markNotHeldTo_52 : decode cX0_markNotHeldTo 52 = .ok (.invokevirtual 65, 3) := by decide +kernel
theorem dX0_markNotHeldTo_55 : decode cX0_markNotHeldTo 55 = .ok (.ifCond .eq 26, 3) := by decide +kernel
theorem dX0_markNotHeldTo_58 : decode cX0_markNotHeldTo 58 = .ok (.aload_n 2, 1) := by decide +kernel
theorem dX0_markNotHeldTo_59 : decode cX0_markNotHeldTo 59 = .ok (.aload_n 0, 1) := by decide +kernel
theorem dX0_markNotHeldTo_60 : decode cX0_markNotHeldTo 60 = .ok (.getfield 9, 3) := by decide +kernel
theorem dX0_markNotHeldTo_63 : decode cX0_markNotHeldTo 63 = .ok (.iload_n 3, 1) := by decide +kernel
theorem dX0_markNotHeldTo_64 : decode cX0_markNotHeldTo 64 = .ok (.iaload, 1) := by decide +kernel
theorem dX0_markNotHeldTo_65 : decode cX0_markNotHeldTo 65 = .ok (.invokevirtual 71, 3) := by decide +kernel
theorem dX0_markNotHeldTo_68 : decode cX0_markNotHeldTo 68 = .ok (.aload_n 0, 1) := by decide +kernel
theorem dX0_markNotHeldTo_69 : decode cX0_markNotHeldTo 69 = .ok (.getfield 24, 3) := by decide +kernel
theorem dX0_markNotHeldTo_72 : decode cX0_markNotHeldTo 72 = .ok (.iload_n 3, 1) := by decide +kernel
theorem dX0_markNotHeldTo_73 : decode cX0_markNotHeldTo 73 = .ok (.iaload, 1) := by decide +kernel
theorem dX0_markNotHeldTo_74 : decode cX0_markNotHeldTo 74 = .ok (.if_icmp .eq 7, 3) := by decide +kernel
theorem dX0_markNotHeldTo_77 : decode cX0_markNotHeldTo 77 = .ok (.iconst 1, 1) := by decide +kernel
theorem dX0_markNotHeldTo_78 : decode cX0_markNotHeldTo 78 = .ok (.goto 4, 3) := by decide +kernel
theorem dX0_markNotHeldTo_81 : decode cX0_markNotHeldTo 81 = .ok (.iconst 0, 1) := by decide +kernel
theorem dX0_markNotHeldTo_82 : decode cX0_markNotHeldTo 82 = .ok (.istore 4, 2) := by decide +kernel
theorem dX0_markNotHeldTo_84 : decode cX0_markNotHeldTo 84 = .ok (.aload_n 1, 1) := by decide +kernel
theorem dX0_markNotHeldTo_85 : decode cX0_markNotHeldTo 85 = .ok (.getfield 75, 3) := by decide +kernel
theorem dX0_markNotHeldTo_88 : decode cX0_markNotHeldTo 88 = .ok (.aload_n 0, 1) := by decide +kernel
theorem dX0_markNotHeldTo_89 : decode cX0_markNotHeldTo 89 = .ok (.getfield 21, 3) := by decide +kernel
theorem dX0_markNotHeldTo_92 : decode cX0_markNotHeldTo 92 = .ok (.iload_n 3, 1) := by decide +kernel
theorem dX0_markNotHeldTo_93 : decode cX0_markNotHeldTo 93 = .ok (.iaload, 1) := by decide +kernel
theorem dX0_markNotHeldTo_94 : decode cX0_markNotHeldTo 94 = .ok (.invokevirtual 79, 3) := by decide +kernel
theorem dX0_markNotHeldTo_97 : decode cX0_markNotHeldTo 97 = .ok (.aload_n 0, 1) := by decide +kernel
theorem dX0_markNotHeldTo_98 : decode cX0_markNotHeldTo 98 = .ok (.getfield 9, 3) := by decide +kernel
theorem dX0_markNotHeldTo_101 : decode cX0_markNotHeldTo 101 = .ok (.iload_n 3, 1) := by decide +kernel
theorem dX0_markNotHeldTo_102 : decode cX0_markNotHeldTo 102 = .ok (.iaload, 1) := by decide +kernel
theorem dX0_markNotHeldTo_103 : decode cX0_markNotHeldTo 103 = .ok (.if_icmp .ne 8, 3) := by decide +kernel
theorem dX0_markNotHeldTo_106 : decode cX0_markNotHeldTo 106 = .ok (.iload 4, 2) := by decide +kernel
theorem dX0_markNotHeldTo_108 : decode cX0_markNotHeldTo 108 = .ok (.ifCond .eq 10, 3) := by decide +kernel
theorem dX0_markNotHeldTo_111 : decode cX0_markNotHeldTo 111 = .ok (.aload_n 0, 1) := by decide +kernel
theorem dX0_markNotHeldTo_112 : decode cX0_markNotHeldTo 112 = .ok (.getfield 27, 3) := by decide +kernel
theorem dX0_markNotHeldTo_115 : decode cX0_markNotHeldTo 115 = .ok (.iload_n 3, 1) := by decide +kernel
theorem dX0_markNotHeldTo_116 : decode cX0_markNotHeldTo 116 = .ok (.iconst 1, 1) := by decide +kernel
theorem dX0_markNotHeldTo_117 : decode cX0_markNotHeldTo 117 = .ok (.iastore, 1) := by decide +kernel
theorem dX0_markNotHeldTo_118 : decode cX0_markNotHeldTo 118 = .ok (.iinc 3 1, 3) := by decide +kernel
theorem dX0_markNotHeldTo_121 : decode cX0_markNotHeldTo 121 = .ok (.goto (-119), 3) := by decide +kernel
theorem dX0_markNotHeldTo_124 : decode cX0_markNotHeldTo 124 = .ok (.return_, 1) := by decide +kernel
theorem dX0_marked_0 : decode cX0_marked 0 = .ok (.iconst 0, 1) := by decide +kernel
theorem dX0_marked_1 : decode cX0_marked 1 = .ok (.istore_n 1, 1) := by decide +kernel
theorem dX0_marked_2 : decode cX0_marked 2 = .ok (.aload_n 0, 1) := by decide +kernel
theorem dX0_marked_3 : decode cX0_marked 3 = .ok (.getfield 27, 3) := by decide +kernel
theorem dX0_marked_6 : decode cX0_marked 6 = .ok (.astore_n 2, 1) := by decide +kernel
theorem dX0_marked_7 : decode cX0_marked 7 = .ok (.aload_n 2, 1) := by decide +kernel
theorem dX0_marked_8 : decode cX0_marked 8 = .ok (.arraylength, 1) := by decide +kernel
theorem dX0_marked_9 : decode cX0_marked 9 = .ok (.istore_n 3, 1) := by decide +kernel
theorem dX0_marked_10 : decode cX0_marked 10 = .ok (.iconst 0, 1) := by decide +kernel
theorem dX0_marked_11 : decode cX0_marked 11 = .ok (.istore 4, 2) := by decide +kernel
theorem dX0_marked_13 : decode cX0_marked 13 = .ok (.iload 4, 2) := by decide +kernel
theorem dX0_marked_15 : decode cX0_marked 15 = .ok (.iload_n 3, 1) := by decide +kernel
theorem dX0_marked_16 : decode cX0_marked 16 = .ok (.if_icmp .ge 20, 3) := by decide +kernel
theorem dX0_marked_19 : decode cX0_marked 19 = .ok (.aload_n 2, 1) := by decide +kernel
theorem dX0_marked_20 : decode cX0_marked 20 = .ok (.iload 4, 2) := by decide +kernel
theorem dX0_marked_22 : decode cX0_marked 22 = .ok (.iaload, 1) := by decide +kernel
theorem dX0_marked_23 : decode cX0_marked 23 = .ok (.istore 5, 2) := by decide +kernel
theorem dX0_marked_25 : decode cX0_marked 25 = .ok (.iload_n 1, 1) := by decide +kernel
theorem dX0_marked_26 : decode cX0_marked 26 = .ok (.iload 5, 2) := by decide +kernel
theorem dX0_marked_28 : decode cX0_marked 28 = .ok (.iadd, 1) := by decide +kernel
theorem dX0_marked_29 : decode cX0_marked 29 = .ok (.istore_n 1, 1) := by decide +kernel
theorem dX0_marked_30 : decode cX0_marked 30 = .ok (.iinc 4 1, 3) := by decide +kernel
theorem dX0_marked_33 : decode cX0_marked 33 = .ok (.goto (-20), 3) := by decide +kernel
theorem dX0_marked_36 : decode cX0_marked 36 = .ok (.iload_n 1, 1) := by decide +kernel
theorem dX0_marked_37 : decode cX0_marked 37 = .ok (.ireturn, 1) := by decide +kernel
theorem dX1_init_0 : decode cX1_init 0 = .ok (.aload_n 0, 1) := by decide +kernel
theorem dX1_init_1 : decode cX1_init 1 = .ok (.invokespecial 3, 3) := by decide +kernel
theorem dX1_init_4 : decode cX1_init 4 = .ok (.aload_n 0, 1) := by decide +kernel
theorem dX1_init_5 : decode cX1_init 5 = .ok (.sipush 200, 3) := by decide +kernel
theorem dX1_init_8 : decode cX1_init 8 = .ok (.anewarray 9, 3) := by decide +kernel
theorem dX1_init_11 : decode cX1_init 11 = .ok (.putfield 11, 3) := by decide +kernel
theorem dX1_init_14 : decode cX1_init 14 = .ok (.aload_n 0, 1) := by decide +kernel
theorem dX1_init_15 : decode cX1_init 15 = .ok (.new 9, 3) := by decide +kernel
theorem dX1_init_18 : decode cX1_init 18 = .ok (.dup, 1) := by decide +kernel
theorem dX1_init_19 : decode cX1_init 19 = .ok (.invokespecial 17, 3) := by decide +kernel
theorem dX1_init_22 : decode cX1_init 22 = .ok (.putfield 18, 3) := by decide +kernel
theorem dX1_init_25 : decode cX1_init 25 = .ok (.aload_n 0, 1) := by decide +kernel
theorem dX1_init_26 : decode cX1_init 26 = .ok (.new 9, 3) := by decide +kernel
theorem dX1_init_29 : decode cX1_init 29 = .ok (.dup, 1) := by decide +kernel
theorem dX1_init_30 : decode cX1_init 30 = .ok (.invokespecial 17, 3) := by decide +kernel
theorem dX1_init_33 : decode cX1_init 33 = .ok (.putfield 22, 3) := by decide +kernel
theorem dX1_init_36 : decode cX1_init 36 = .ok (.iconst 0, 1) := by decide +kernel
theorem dX1_init_37 : decode cX1_init 37 = .ok (.istore_n 1, 1) := by decide +kernel
theorem dX1_init_38 : decode cX1_init 38 = .ok (.iload_n 1, 1) := by decide +kernel
theorem dX1_init_39 : decode cX1_init 39 = .ok (.sipush 200, 3) := by decide +kernel
theorem dX1_init_42 : decode cX1_init 42 = .ok (.if_icmp .ge 22, 3) := by decide +kernel
theorem dX1_init_45 : decode cX1_init 45 = .ok (.aload_n 0, 1) := by decide +kernel
theorem dX1_init_46 : decode cX1_init 46 = .ok (.getfield 11, 3) := by decide +kernel
theorem dX1_init_49 : decode cX1_init 49 = .ok (.iload_n 1, 1) := by decide +kernel
theorem dX1_init_50 : decode cX1_init 50 = .ok (.new 9, 3) := by decide +kernel
theorem dX1_init_53 : decode cX1_init 53 = .ok (.dup, 1) := by decide +kernel
theorem dX1_init_54 : decode cX1_init 54 = .ok (.invokespecial 17, 3) := by decide +kernel
theorem dX1_init_57 : decode cX1_init 57 = .ok (.aastore, 1) := by decide +kernel
theorem dX1_init_58 : decode cX1_init 58 = .ok (.iinc 1 1, 3) := by decide +kernel
theorem dX1_init_61 : decode cX1_init 61 = .ok (.goto (-23), 3) := by decide +kernel
theorem dX1_init_64 : decode cX1_init 64 = .ok (.return_, 1) := by decide +kernel
theorem dX1_send_0 : decode cX1_send 0 = .ok (.aload_n 0, 1) := by decide +kernel
theorem dX1_send_1 : decode cX1_send 1 = .ok (.getfield 22, 3) := by decide +kernel
theorem dX1_send_4 : decode cX1_send 4 = .ok (.astore 4, 2) := by decide +kernel
theorem dX1_send_6 : decode cX1_send 6 = .ok (.aload_n 0, 1) := by decide +kernel
theorem dX1_send_7 : decode cX1_send 7 = .ok (.getfield 25, 3) := by decide +kernel
theorem dX1_send_10 : decode cX1_send 10 = .ok (.sipush 200, 3) := by decide +kernel
theorem dX1_send_13 : decode cX1_send 13 = .ok (.if_icmp .ge 27, 3) := by decide +kernel
theorem dX1_send_16 : decode cX1_send 16 = .ok (.aload_n 0, 1) := by decide +kernel
theorem dX1_send_17 : decode cX1_send 17 = .ok (.getfield 11, 3) := by decide +kernel
theorem dX1_send_20 : decode cX1_send 20 = .ok (.aload_n 0, 1) := by decide +kernel
theorem dX1_send_21 : decode cX1_send 21 = .ok (.getfield 25, 3) := by decide +kernel
theorem dX1_send_24 : decode cX1_send 24 = .ok (.aaload, 1) := by decide +kernel
theorem dX1_send_25 : decode cX1_send 25 = .ok (.astore 4, 2) := by decide +kernel
theorem dX1_send_27 : decode cX1_send 27 = .ok (.aload_n 0, 1) := by decide +kernel
theorem dX1_send_28 : decode cX1_send 28 = .ok (.dup, 1) := by decide +kernel
theorem dX1_send_29 : decode cX1_send 29 = .ok (.getfield 25, 3) := by decide +kernel
theorem dX1_send_32 : decode cX1_send 32 = .ok (.iconst 1, 1) := by decide +kernel
theorem dX1_send_33 : decode cX1_send 33 = .ok (.iadd, 1) := by decide +kernel
theorem dX1_send_34 : decode cX1_send 34 = .ok (.putfield 25, 3) := by decide +kernel
theorem dX1_send_37 : decode cX1_send 37 = .ok (.goto 13, 3) := by decide +kernel
theorem dX1_send_40 : decode cX1_send 40 = .ok (.aload_n 0, 1) := by decide +kernel
theorem dX1_send_41 : decode cX1_send 41 = .ok (.dup, 1) := by decide +kernel
theorem dX1_send_42 : decode cX1_send 42 = .ok (.getfield 29, 3) := by decide +kernel
theorem dX1_send_45 : decode cX1_send 45 = .ok (.iconst 1, 1) := by decide +kernel
theorem dX1_send_46 : decode cX1_send 46 = .ok (.iadd, 1) := by decide +kernel
theorem dX1_send_47 : decode cX1_send 47 = .ok (.putfield 29, 3) := by decide +kernel
theorem dX1_send_50 : decode cX1_send 50 = .ok (.aload 4, 2) := by decide +kernel
theorem dX1_send_52 : decode cX1_send 52 = .ok (.aload_n 0, 1) := by decide +kernel
theorem dX1_send_53 : decode cX1_send 53 = .ok (.getfield 32, 3) := by decide +kernel
theorem dX1_send_56 : decode cX1_send 56 = .ok (.putfield 35, 3) := by decide +kernel
theorem dX1_send_59 : decode cX1_send 59 = .ok (.aload_n 0, 1) := by decide +kernel
theorem dX1_send_60 : decode cX1_send 60 = .ok (.dup, 1) := by decide +kernel
theorem dX1_send_61 : decode cX1_send 61 = .ok (.getfield 32, 3) := by decide +kernel
theorem dX1_send_64 : decode cX1_send 64 = .ok (.iconst 1, 1) := by decide +kernel
theorem dX1_send_65 : decode cX1_send 65 = .ok (.iadd, 1) := by decide +kernel
theorem dX1_send_66 : decode cX1_send 66 = .ok (.putfield 32, 3) := by decide +kernel
theorem dX1_send_69 : decode cX1_send 69 = .ok (.aload 4, 2) := by decide +kernel
theorem dX1_send_71 : decode cX1_send 71 = .ok (.iload_n 1, 1) := by decide +kernel
theorem dX1_send_72 : decode cX1_send 72 = .ok (.putfield 38, 3) := by decide +kernel
theorem dX1_send_75 : decode cX1_send 75 = .ok (.aload 4, 2) := by decide +kernel
theorem dX1_send_77 : decode cX1_send 77 = .ok (.iload_n 2, 1) := by decide +kernel
theorem dX1_send_78 : decode cX1_send 78 = .ok (.putfield 41, 3) := by decide +kernel
theorem dX1_send_81 : decode cX1_send 81 = .ok (.aload 4, 2) := by decide +kernel
theorem dX1_send_83 : decode cX1_send 83 = .ok (.iload_n 3, 1) := by decide +kernel
theorem dX1_send_84 : decode cX1_send 84 = .ok (.putfield 44, 3) := by decide +kernel
theorem dX1_send_87 : decode cX1_send 87 = .ok (.aload 4, 2) := by decide +kernel
theorem dX1_send_89 : decode cX1_send 89 = .ok (.areturn, 1) := by decide +kernel
theorem dX1_placeOf_0 : decode cX1_placeOf 0 = .ok (.iconst 0, 1) := by decide +kernel
theorem dX1_placeOf_1 : decode cX1_placeOf 1 = .ok (.istore_n 2, 1) := by decide +kernel
theorem dX1_placeOf_2 : decode cX1_placeOf 2 = .ok (.iload_n 2, 1) := by decide +kernel
theorem dX1_placeOf_3 : decode cX1_placeOf 3 = .ok (.aload_n 0, 1) := by decide +kernel
theorem dX1_placeOf_4 : decode cX1_placeOf 4 = .ok (.getfield 25, 3) := by decide +kernel
theorem dX1_placeOf_7 : decode cX1_placeOf 7 = .ok (.if_icmp .ge 24, 3) := by decide +kernel
theorem dX1_placeOf_10 : decode cX1_placeOf 10 = .ok (.aload_n 0, 1) := by decide +kernel
theorem dX1_placeOf_11 : decode cX1_placeOf 11 = .ok (.getfield 11, 3) := by decide +kernel
theorem dX1_placeOf_14 : decode cX1_placeOf 14 = .ok (.iload_n 2, 1) := by decide +kernel
theorem dX1_placeOf_15 : decode cX1_placeOf 15 = .ok (.aaload, 1) := by decide +kernel
theorem dX1_placeOf_16 : decode cX1_placeOf 16 = .ok (.getfield 35, 3) := by decide +kernel
theorem dX1_placeOf_19 : decode cX1_placeOf 19 = .ok (.iload_n 1, 1) := by decide +kernel
theorem dX1_placeOf_20 : decode cX1_placeOf 20 = .ok (.if_icmp .ne 5, 3) := by decide +kernel
theorem dX1_placeOf_23 : decode cX1_placeOf 23 = .ok (.iload_n 2, 1) := by decide +kernel
theorem dX1_placeOf_24 : decode cX1_placeOf 24 = .ok (.ireturn, 1) := by decide +kernel
theorem dX1_placeOf_25 : decode cX1_placeOf 25 = .ok (.iinc 2 1, 3) := by decide +kernel
theorem dX1_placeOf_28 : decode cX1_placeOf 28 = .ok (.goto (-26), 3) := by decide +kernel
theorem dX1_placeOf_31 : decode cX1_placeOf 31 = .ok (.iconst (-1), 1) := by decide +kernel
theorem dX1_placeOf_32 : decode cX1_placeOf 32 = .ok (.ireturn, 1) := by decide +kernel
theorem dX1_takeOut_0 : decode cX1_takeOut 0 = .ok (.aload_n 0, 1) := by decide +kernel
theorem dX1_takeOut_1 : decode cX1_takeOut 1 = .ok (.getfield 11, 3) := by decide +kernel
theorem dX1_takeOut_4 : decode cX1_takeOut 4 = .ok (.iload_n 1, 1) := by decide +kernel
theorem dX1_takeOut_5 : decode cX1_takeOut 5 = .ok (.aaload, 1) := by decide +kernel
theorem dX1_takeOut_6 : decode cX1_takeOut 6 = .ok (.astore_n 2, 1) := by decide +kernel
theorem dX1_takeOut_7 : decode cX1_takeOut 7 = .ok (.aload_n 0, 1) := by decide +kernel
theorem dX1_takeOut_8 : decode cX1_takeOut 8 = .ok (.dup, 1) := by decide +kernel
theorem dX1_takeOut_9 : decode cX1_takeOut 9 = .ok (.getfield 25, 3) := by decide +kernel
theorem dX1_takeOut_12 : decode cX1_takeOut 12 = .ok (.iconst 1, 1) := by decide +kernel
theorem dX1_takeOut_13 : decode cX1_takeOut 13 = .ok (.isub, 1) := by decide +kernel
theorem dX1_takeOut_14 : decode cX1_takeOut 14 = .ok (.putfield 25, 3) := by decide +kernel
theorem dX1_takeOut_17 : decode cX1_takeOut 17 = .ok (.iload_n 1, 1) := by decide +kernel
theorem dX1_takeOut_18 : decode cX1_takeOut 18 = .ok (.istore_n 3, 1) := by decide +kernel
theorem dX1_takeOut_19 : decode cX1_takeOut 19 = .ok (.iload_n 3, 1) := by decide +kernel
theorem dX1_takeOut_20 : decode cX1_takeOut 20 = .ok (.aload_n 0, 1) := by decide +kernel
theorem dX1_takeOut_21 : decode cX1_takeOut 21 = .ok (.getfield 25, 3) := by decide +kernel
theorem dX1_takeOut_24 : decode cX1_takeOut 24 = .ok (.if_icmp .ge 23, 3) := by decide +kernel
theorem dX1_takeOut_27 : decode cX1_takeOut 27 = .ok (.aload_n 0, 1) := by decide +kernel
theorem dX1_takeOut_28 : decode cX1_takeOut 28 = .ok (.getfield 11, 3) := by decide +kernel
theorem dX1_takeOut_31 : decode cX1_takeOut 31 = .ok (.iload_n 3, 1) := by decide +kernel
theorem dX1_takeOut_32 : decode cX1_takeOut 32 = .ok (.aload_n 0, 1) := by decide +kernel
theorem dX1_takeOut_33 : decode cX1_takeOut 33 = .ok (.getfield 11, 3) := by decide +kernel
theorem dX1_takeOut_36 : decode cX1_takeOut 36 = .ok (.iload_n 3, 1) := by decide +kernel
theorem dX1_takeOut_37 : decode cX1_takeOut 37 = .ok (.iconst 1, 1) := by decide +kernel
theorem dX1_takeOut_38 : decode cX1_takeOut 38 = .ok (.iadd, 1) := by decide +kernel
theorem dX1_takeOut_39 : decode cX1_takeOut 39 = .ok (.aaload, 1) := by decide +kernel
theorem dX1_takeOut_40 : decode cX1_takeOut 40 = .ok (.aastore, 1) := by decide +kernel
theorem dX1_takeOut_41 : decode cX1_takeOut 41 = .ok (.iinc 3 1, 3) := by decide +kernel
theorem dX1_takeOut_44 : decode cX1_takeOut 44 = .ok (.goto (-25), 3) := by decide +kernel
theorem dX1_takeOut_47 : decode cX1_takeOut 47 = .ok (.aload_n 0, 1) := by decide +kernel
theorem dX1_takeOut_48 : decode cX1_takeOut 48 = .ok (.getfield 11, 3) := by decide +kernel
theorem dX1_takeOut_51 : decode cX1_takeOut 51 = .ok (.aload_n 0, 1) := by decide +kernel
theorem dX1_takeOut_52 : decode cX1_takeOut 52 = .ok (.getfield 25, 3) := by decide +kernel
theorem dX1_takeOut_55 : decode cX1_takeOut 55 = .ok (.aload_n 0, 1) := by decide +kernel
theorem dX1_takeOut_56 : decode cX1_takeOut 56 = .ok (.getfield 18, 3) := by decide +kernel
theorem dX1_takeOut_59 : decode cX1_takeOut 59 = .ok (.aastore, 1) := by decide +kernel
theorem dX1_takeOut_60 : decode cX1_takeOut 60 = .ok (.aload_n 0, 1) := by decide +kernel
theorem dX1_takeOut_61 : decode cX1_takeOut 61 = .ok (.aload_n 2, 1) := by decide +kernel
theorem dX1_takeOut_62 : decode cX1_takeOut 62 = .ok (.putfield 18, 3) := by decide +kernel
theorem dX1_takeOut_65 : decode cX1_takeOut 65 = .ok (.aload_n 2, 1) := by decide +kernel
theorem dX1_takeOut_66 : decode cX1_takeOut 66 = .ok (.areturn, 1) := by decide +kernel
theorem dX2_init_0 : decode cX2_init 0 = .ok (.aload_n 0, 1) := by decide +kernel
theorem dX2_init_1 : decode cX2_init 1 = .ok (.invokespecial 3, 3) := by decide +kernel
theorem dX2_init_4 : decode cX2_init 4 = .ok (.aload_n 0, 1) := by decide +kernel
theorem dX2_init_5 : decode cX2_init 5 = .ok (.iconst 0, 1) := by decide +kernel
theorem dX2_init_6 : decode cX2_init 6 = .ok (.putfield 9, 3) := by decide +kernel
theorem dX2_init_9 : decode cX2_init 9 = .ok (.aload_n 0, 1) := by decide +kernel
theorem dX2_init_10 : decode cX2_init 10 = .ok (.iconst 0, 1) := by decide +kernel
theorem dX2_init_11 : decode cX2_init 11 = .ok (.putfield 15, 3) := by decide +kernel
theorem dX2_init_14 : decode cX2_init 14 = .ok (.aload_n 0, 1) := by decide +kernel
theorem dX2_init_15 : decode cX2_init 15 = .ok (.bipush 64, 2) := by decide +kernel
theorem dX2_init_17 : decode cX2_init 17 = .ok (.anewarray 18, 3) := by decide +kernel
theorem dX2_init_20 : decode cX2_init 20 = .ok (.putfield 20, 3) := by decide +kernel
theorem dX2_init_23 : decode cX2_init 23 = .ok (.aload_n 0, 1) := by decide +kernel
theorem dX2_init_24 : decode cX2_init 24 = .ok (.bipush 64, 2) := by decide +kernel
theorem dX2_init_26 : decode cX2_init 26 = .ok (.newarray .int, 2) := by decide +kernel
theorem dX2_init_28 : decode cX2_init 28 = .ok (.putfield 24, 3) := by decide +kernel
theorem dX2_init_31 : decode cX2_init 31 = .ok (.aload_n 0, 1) := by decide +kernel
theorem dX2_init_32 : decode cX2_init 32 = .ok (.bipush 64, 2) := by decide +kernel
theorem dX2_init_34 : decode cX2_init 34 = .ok (.newarray .int, 2) := by decide +kernel
theorem dX2_init_36 : decode cX2_init 36 = .ok (.putfield 28, 3) := by decide +kernel
theorem dX2_init_39 : decode cX2_init 39 = .ok (.aload_n 0, 1) := by decide +kernel
theorem dX2_init_40 : decode cX2_init 40 = .ok (.bipush 64, 2) := by decide +kernel
theorem dX2_init_42 : decode cX2_init 42 = .ok (.newarray .int, 2) := by decide +kernel
theorem dX2_init_44 : decode cX2_init 44 = .ok (.putfield 31, 3) := by decide +kernel
theorem dX2_init_47 : decode cX2_init 47 = .ok (.aload_n 0, 1) := by decide +kernel
theorem dX2_init_48 : decode cX2_init 48 = .ok (.iload_n 1, 1) := by decide +kernel
theorem dX2_init_49 : decode cX2_init 49 = .ok (.putfield 34, 3) := by decide +kernel
theorem dX2_init_52 : decode cX2_init 52 = .ok (.return_, 1) := by decide +kernel
theorem dX2_ask_0 : decode cX2_ask 0 = .ok (.aload_n 0, 1) := by decide +kernel
theorem dX2_ask_1 : decode cX2_ask 1 = .ok (.dup, 1) := by decide +kernel
theorem dX2_ask_2 : decode cX2_ask 2 = .ok (.getfield 37, 3) := by decide +kernel
theorem dX2_ask_5 : decode cX2_ask 5 = .ok (.iconst 1, 1) := by decide +kernel
theorem dX2_ask_6 : decode cX2_ask 6 = .ok (.iadd, 1) := by decide +kernel
theorem dX2_ask_7 : decode cX2_ask 7 = .ok (.putfield 37, 3) := by decide +kernel
theorem dX2_ask_10 : decode cX2_ask 10 = .ok (.aload_n 0, 1) := by decide +kernel
theorem dX2_ask_11 : decode cX2_ask 11 = .ok (.iload_n 1, 1) := by decide +kernel
theorem dX2_ask_12 : decode cX2_ask 12 = .ok (.putfield 9, 3) := by decide +kernel
theorem dX2_ask_15 : decode cX2_ask 15 = .ok (.aload_n 0, 1) := by decide +kernel
theorem dX2_ask_16 : decode cX2_ask 16 = .ok (.iconst 1, 1) := by decide +kernel
theorem dX2_ask_17 : decode cX2_ask 17 = .ok (.putfield 15, 3) := by decide +kernel
theorem dX2_ask_20 : decode cX2_ask 20 = .ok (.aload_n 0, 1) := by decide +kernel
theorem dX2_ask_21 : decode cX2_ask 21 = .ok (.iconst 0, 1) := by decide +kernel
theorem dX2_ask_22 : decode cX2_ask 22 = .ok (.putfield 40, 3) := by decide +kernel
theorem dX2_ask_25 : decode cX2_ask 25 = .ok (.aload_n 0, 1) := by decide +kernel
theorem dX2_ask_26 : decode cX2_ask 26 = .ok (.iconst 0, 1) := by decide +kernel
theorem dX2_ask_27 : decode cX2_ask 27 = .ok (.putfield 43, 3) := by decide +kernel
theorem dX2_ask_30 : decode cX2_ask 30 = .ok (.return_, 1) := by decide +kernel
theorem dX2_hear_0 : decode cX2_hear 0 = .ok (.aload_n 0, 1) := by decide +kernel
theorem dX2_hear_1 : decode cX2_hear 1 = .ok (.getfield 15, 3) := by decide +kernel
theorem dX2_hear_4 : decode cX2_hear 4 = .ok (.iconst 1, 1) := by decide +kernel
theorem dX2_hear_5 : decode cX2_hear 5 = .ok (.if_icmp .ne 14, 3) := by decide +kernel
theorem dX2_hear_8 : decode cX2_hear 8 = .ok (.aload_n 1, 1) := by decide +kernel
theorem dX2_hear_9 : decode cX2_hear 9 = .ok (.getfield 46, 3) := by decide +kernel
theorem dX2_hear_12 : decode cX2_hear 12 = .ok (.aload_n 0, 1) := by decide +kernel
theorem dX2_hear_13 : decode cX2_hear 13 = .ok (.getfield 9, 3) := by decide +kernel
theorem dX2_hear_16 : decode cX2_hear 16 = .ok (.if_icmp .eq 5, 3) := by decide +kernel
theorem dX2_hear_19 : decode cX2_hear 19 = .ok (.iconst 0, 1) := by decide +kernel
theorem dX2_hear_20 : decode cX2_hear 20 = .ok (.ireturn, 1) := by decide +kernel
theorem dX2_hear_21 : decode cX2_hear 21 = .ok (.aload_n 0, 1) := by decide +kernel
theorem dX2_hear_22 : decode cX2_hear 22 = .ok (.aload_n 1, 1) := by decide +kernel
theorem dX2_hear_23 : decode cX2_hear 23 = .ok (.getfield 51, 3) := by decide +kernel
theorem dX2_hear_26 : decode cX2_hear 26 = .ok (.aload_n 1, 1) := by decide +kernel
theorem dX2_hear_27 : decode cX2_hear 27 = .ok (.getfield 55, 3) := by decide +kernel
theorem dX2_hear_30 : decode cX2_hear 30 = .ok (.invokevirtual 58, 3) := by decide +kernel
theorem dX2_hear_33 : decode cX2_hear 33 = .ok (.istore_n 2, 1) := by decide +kernel
theorem dX2_hear_34 : decode cX2_hear 34 = .ok (.aload_n 1, 1) := by decide +kernel
theorem dX2_hear_35 : decode cX2_hear 35 = .ok (.getfield 51, 3) := by decide +kernel
theorem dX2_hear_38 : decode cX2_hear 38 = .ok (.aload_n 0, 1) := by decide +kernel
theorem dX2_hear_39 : decode cX2_hear 39 = .ok (.getfield 34, 3) := by decide +kernel
theorem dX2_hear_42 : decode cX2_hear 42 = .ok (.invokevirtual 62, 3) := by decide +kernel
theorem dX2_hear_45 : decode cX2_hear 45 = .ok (.istore_n 3, 1) := by decide +kernel
theorem dX2_hear_46 : decode cX2_hear 46 = .ok (.aload_n 0, 1) := by decide +kernel
theorem dX2_hear_47 : decode cX2_hear 47 = .ok (.getfield 28, 3) := by decide +kernel
theorem dX2_hear_50 : decode cX2_hear 50 = .ok (.iload_n 2, 1) := by decide +kernel
theorem dX2_hear_51 : decode cX2_hear 51 = .ok (.dup2, 1) := by decide +kernel
theorem dX2_hear_52 : decode cX2_hear 52 = .ok (.iaload, 1) := by decide +kernel
theorem dX2_hear_53 : decode cX2_hear 53 = .ok (.iconst 1, 1) := by decide +kernel
theorem dX2_hear_54 : decode cX2_hear 54 = .ok (.aload_n 1, 1) := by decide +kernel
theorem dX2_hear_55 : decode cX2_hear 55 = .ok (.getfield 66, 3) := by decide +kernel
theorem dX2_hear_58 : decode cX2_hear 58 = .ok (.ishl, 1) := by decide +kernel
theorem dX2_hear_59 : decode cX2_hear 59 = .ok (.ior, 1) := by decide +kernel
theorem dX2_hear_60 : decode cX2_hear 60 = .ok (.iastore, 1) := by decide +kernel
theorem dX2_hear_61 : decode cX2_hear 61 = .ok (.aload_n 1, 1) := by decide +kernel
theorem dX2_hear_62 : decode cX2_hear 62 = .ok (.getfield 66, 3) := by decide +kernel
theorem dX2_hear_65 : decode cX2_hear 65 = .ok (.iload_n 3, 1) := by decide +kernel
theorem dX2_hear_66 : decode cX2_hear 66 = .ok (.if_icmp .ne 13, 3) := by decide +kernel
theorem dX2_hear_69 : decode cX2_hear 69 = .ok (.aload_n 0, 1) := by decide +kernel
theorem dX2_hear_70 : decode cX2_hear 70 = .ok (.getfield 31, 3) := by decide +kernel
theorem dX2_hear_73 : decode cX2_hear 73 = .ok (.iload_n 2, 1) := by decide +kernel
theorem dX2_hear_74 : decode cX2_hear 74 = .ok (.aload_n 1, 1) := by decide +kernel
theorem dX2_hear_75 : decode cX2_hear 75 = .ok (.getfield 69, 3) := by decide +kernel
theorem dX2_hear_78 : decode cX2_hear 78 = .ok (.iastore, 1) := by decide +kernel
theorem dX2_hear_79 : decode cX2_hear 79 = .ok (.aload_n 0, 1) := by decide +kernel
theorem dX2_hear_80 : decode cX2_hear 80 = .ok (.getfield 28, 3) := by decide +kernel
theorem dX2_hear_83 : decode cX2_hear 83 = .ok (.iload_n 2, 1) := by decide +kernel
theorem dX2_hear_84 : decode cX2_hear 84 = .ok (.iaload, 1) := by decide +kernel
theorem dX2_hear_85 : decode cX2_hear 85 = .ok (.invokestatic 72, 3) := by decide +kernel
theorem dX2_hear_88 : decode cX2_hear 88 = .ok (.aload_n 0, 1) := by decide +kernel
theorem dX2_hear_89 : decode cX2_hear 89 = .ok (.getfield 34, 3) := by decide +kernel
theorem dX2_hear_92 : decode cX2_hear 92 = .ok (.iconst 2, 1) := by decide +kernel
theorem dX2_hear_93 : decode cX2_hear 93 = .ok (.idiv, 1) := by decide +kernel
theorem dX2_hear_94 : decode cX2_hear 94 = .ok (.if_icmp .le 16, 3) := by decide +kernel
theorem dX2_hear_97 : decode cX2_hear 97 = .ok (.aload_n 0, 1) := by decide +kernel
theorem dX2_hear_98 : decode cX2_hear 98 = .ok (.getfield 28, 3) := by decide +kernel
theorem dX2_hear_101 : decode cX2_hear 101 = .ok (.iload_n 2, 1) := by decide +kernel
theorem dX2_hear_102 : decode cX2_hear 102 = .ok (.iaload, 1) := by decide +kernel
theorem dX2_hear_103 : decode cX2_hear 103 = .ok (.iconst 1, 1) := by decide +kernel
theorem dX2_hear_104 : decode cX2_hear 104 = .ok (.iload_n 3, 1) := by decide +kernel
theorem dX2_hear_105 : decode cX2_hear 105 = .ok (.ishl, 1) := by decide +kernel
theorem dX2_hear_106 : decode cX2_hear 106 = .ok (.iand, 1) := by decide +kernel
theorem dX2_hear_107 : decode cX2_hear 107 = .ok (.ifCond .ne 5, 3) := by decide +kernel
theorem dX2_hear_110 : decode cX2_hear 110 = .ok (.iconst 0, 1) := by decide +kernel
theorem dX2_hear_111 : decode cX2_hear 111 = .ok (.ireturn, 1) := by decide +kernel
theorem dX2_hear_112 : decode cX2_hear 112 = .ok (.aload_n 0, 1) := by decide +kernel
theorem dX2_hear_113 : decode cX2_hear 113 = .ok (.iconst 2, 1) := by decide +kernel
theorem dX2_hear_114 : decode cX2_hear 114 = .ok (.putfield 15, 3) := by decide +kernel
theorem dX2_hear_117 : decode cX2_hear 117 = .ok (.aload_n 0, 1) := by decide +kernel
theorem dX2_hear_118 : decode cX2_hear 118 = .ok (.aload_n 1, 1) := by decide +kernel
theorem dX2_hear_119 : decode cX2_hear 119 = .ok (.getfield 51, 3) := by decide +kernel
theorem dX2_hear_122 : decode cX2_hear 122 = .ok (.putfield 77, 3) := by decide +kernel
theorem dX2_hear_125 : decode cX2_hear 125 = .ok (.aload_n 0, 1) := by decide +kernel
theorem dX2_hear_126 : decode cX2_hear 126 = .ok (.aload_n 1, 1) := by decide +kernel
theorem dX2_hear_127 : decode cX2_hear 127 = .ok (.getfield 55, 3) := by decide +kernel
theorem dX2_hear_130 : decode cX2_hear 130 = .ok (.putfield 80, 3) := by decide +kernel
theorem dX2_hear_133 : decode cX2_hear 133 = .ok (.aload_n 0, 1) := by decide +kernel
theorem dX2_hear_134 : decode cX2_hear 134 = .ok (.aload_n 0, 1) := by decide +kernel
theorem dX2_hear_135 : decode cX2_hear 135 = .ok (.getfield 31, 3) := by decide +kernel
theorem dX2_hear_138 : decode cX2_hear 138 = .ok (.iload_n 2, 1) := by decide +kernel
theorem dX2_hear_139 : decode cX2_hear 139 = .ok (.iaload, 1) := by decide +kernel
theorem dX2_hear_140 : decode cX2_hear 140 = .ok (.putfield 83, 3) := by decide +kernel
theorem dX2_hear_143 : decode cX2_hear 143 = .ok (.iconst 1, 1) := by decide +kernel
theorem dX2_hear_144 : decode cX2_hear 144 = .ok (.ireturn, 1) := by decide +kernel
theorem dX2_placeOf_0 : decode cX2_placeOf 0 = .ok (.iconst 0, 1) := by decide +kernel
theorem dX2_placeOf_1 : decode cX2_placeOf 1 = .ok (.istore_n 3, 1) := by decide +kernel
theorem dX2_placeOf_2 : decode cX2_placeOf 2 = .ok (.iload_n 3, 1) := by decide +kernel
theorem dX2_placeOf_3 : decode cX2_placeOf 3 = .ok (.aload_n 0, 1) := by decide +kernel
theorem dX2_placeOf_4 : decode cX2_placeOf 4 = .ok (.getfield 40, 3) := by decide +kernel
theorem dX2_placeOf_7 : decode cX2_placeOf 7 = .ok (.if_icmp .ge 34, 3) := by decide +kernel
theorem dX2_placeOf_10 : decode cX2_placeOf 10 = .ok (.aload_n 0, 1) := by decide +kernel
theorem dX2_placeOf_11 : decode cX2_placeOf 11 = .ok (.getfield 24, 3) := by decide +kernel
theorem dX2_placeOf_14 : decode cX2_placeOf 14 = .ok (.iload_n 3, 1) := by decide +kernel
theorem dX2_placeOf_15 : decode cX2_placeOf 15 = .ok (.iaload, 1) := by decide +kernel
theorem dX2_placeOf_16 : decode cX2_placeOf 16 = .ok (.iload_n 2, 1) := by decide +kernel
theorem dX2_placeOf_17 : decode cX2_placeOf 17 = .ok (.if_icmp .ne 18, 3) := by decide +kernel
theorem dX2_placeOf_20 : decode cX2_placeOf 20 = .ok (.aload_n 0, 1) := by decide +kernel
theorem dX2_placeOf_21 : decode cX2_placeOf 21 = .ok (.getfield 20, 3) := by decide +kernel
theorem dX2_placeOf_24 : decode cX2_placeOf 24 = .ok (.iload_n 3, 1) := by decide +kernel
theorem dX2_placeOf_25 : decode cX2_placeOf 25 = .ok (.aaload, 1) := by decide +kernel
theorem dX2_placeOf_26 : decode cX2_placeOf 26 = .ok (.aload_n 1, 1) := by decide +kernel
theorem dX2_placeOf_27 : decode cX2_placeOf 27 = .ok (.invokevirtual 84, 3) := by decide +kernel
theorem dX2_placeOf_30 : decode cX2_placeOf 30 = .ok (.ifCond .eq 5, 3) := by decide +kernel
theorem dX2_placeOf_33 : decode cX2_placeOf 33 = .ok (.iload_n 3, 1) := by decide +kernel
theorem dX2_placeOf_34 : decode cX2_placeOf 34 = .ok (.ireturn, 1) := by decide +kernel
theorem dX2_placeOf_35 : decode cX2_placeOf 35 = .ok (.iinc 3 1, 3) := by decide +kernel
theorem dX2_placeOf_38 : decode cX2_placeOf 38 = .ok (.goto (-36), 3) := by decide +kernel
theorem dX2_placeOf_41 : decode cX2_placeOf 41 = .ok (.aload_n 0, 1) := by decide +kernel
theorem dX2_placeOf_42 : decode cX2_placeOf 42 = .ok (.getfield 43, 3) := by decide +kernel
theorem dX2_placeOf_45 : decode cX2_placeOf 45 = .ok (.istore_n 3, 1) := by decide +kernel
theorem dX2_placeOf_46 : decode cX2_placeOf 46 = .ok (.aload_n 0, 1) := by decide +kernel
theorem dX2_placeOf_47 : decode cX2_placeOf 47 = .ok (.aload_n 0, 1) := by decide +kernel
theorem dX2_placeOf_48 : decode cX2_placeOf 48 = .ok (.getfield 43, 3) := by decide +kernel
theorem dX2_placeOf_51 : decode cX2_placeOf 51 = .ok (.iconst 1, 1) := by decide +kernel
theorem dX2_placeOf_52 : decode cX2_placeOf 52 = .ok (.iadd, 1) := by decide +kernel
theorem dX2_placeOf_53 : decode cX2_placeOf 53 = .ok (.bipush 64, 2) := by decide +kernel
theorem dX2_placeOf_55 : decode cX2_placeOf 55 = .ok (.irem, 1) := by decide +kernel
theorem dX2_placeOf_56 : decode cX2_placeOf 56 = .ok (.putfield 43, 3) := by decide +kernel
theorem dX2_placeOf_59 : decode cX2_placeOf 59 = .ok (.aload_n 0, 1) := by decide +kernel
theorem dX2_placeOf_60 : decode cX2_placeOf 60 = .ok (.aload_n 0, 1) := by decide +kernel
theorem dX2_placeOf_61 : decode cX2_placeOf 61 = .ok (.getfield 40, 3) := by decide +kernel
theorem dX2_placeOf_64 : decode cX2_placeOf 64 = .ok (.iconst 1, 1) := by decide +kernel
theorem dX2_placeOf_65 : decode cX2_placeOf 65 = .ok (.iadd, 1) := by decide +kernel
theorem dX2_placeOf_66 : decode cX2_placeOf 66 = .ok (.bipush 64, 2) := by decide +kernel
theorem dX2_placeOf_68 : decode cX2_placeOf 68 = .ok (.invokestatic 88, 3) := by decide +kernel
theorem dX2_placeOf_71 : decode cX2_placeOf 71 = .ok (.putfield 40, 3) := by decide +kernel
theorem dX2_placeOf_74 : decode cX2_placeOf 74 = .ok (.aload_n 0, 1) := by decide +kernel
theorem dX2_placeOf_75 : decode cX2_placeOf 75 = .ok (.getfield 20, 3) := by decide +kernel
theorem dX2_placeOf_78 : decode cX2_placeOf 78 = .ok (.iload_n 3, 1) := by decide +kernel
theorem dX2_placeOf_79 : decode cX2_placeOf 79 = .ok (.aload_n 1, 1) := by decide +kernel
theorem dX2_placeOf_80 : decode cX2_placeOf 80 = .ok (.aastore, 1) := by decide +kernel
theorem dX2_placeOf_81 : decode cX2_placeOf 81 = .ok (.aload_n 0, 1) := by decide +kernel
theorem dX2_placeOf_82 : decode cX2_placeOf 82 = .ok (.getfield 24, 3) := by decide +kernel
theorem dX2_placeOf_85 : decode cX2_placeOf 85 = .ok (.iload_n 3, 1) := by decide +kernel
theorem dX2_placeOf_86 : decode cX2_placeOf 86 = .ok (.iload_n 2, 1) := by decide +kernel
theorem dX2_placeOf_87 : decode cX2_placeOf 87 = .ok (.iastore, 1) := by decide +kernel
theorem dX2_placeOf_88 : decode cX2_placeOf 88 = .ok (.aload_n 0, 1) := by decide +kernel
theorem dX2_placeOf_89 : decode cX2_placeOf 89 = .ok (.getfield 28, 3) := by decide +kernel
theorem dX2_placeOf_92 : decode cX2_placeOf 92 = .ok (.iload_n 3, 1) := by decide +kernel
theorem dX2_placeOf_93 : decode cX2_placeOf 93 = .ok (.iconst 0, 1) := by decide +kernel
theorem dX2_placeOf_94 : decode cX2_placeOf 94 = .ok (.iastore, 1) := by decide +kernel
theorem dX2_placeOf_95 : decode cX2_placeOf 95 = .ok (.aload_n 0, 1) := by decide +kernel
theorem dX2_placeOf_96 : decode cX2_placeOf 96 = .ok (.getfield 31, 3) := by decide +kernel
theorem dX2_placeOf_99 : decode cX2_placeOf 99 = .ok (.iload_n 3, 1) := by decide +kernel
theorem dX2_placeOf_100 : decode cX2_placeOf 100 = .ok (.iconst 0, 1) := by decide +kernel
theorem dX2_placeOf_101 : decode cX2_placeOf 101 = .ok (.iastore, 1) := by decide +kernel
theorem dX2_placeOf_102 : decode cX2_placeOf 102 = .ok (.iload_n 3, 1) := by decide +kernel
theorem dX2_placeOf_103 : decode cX2_placeOf 103 = .ok (.ireturn, 1) := by decide +kernel
theorem dX3_init_0 : decode cX3_init 0 = .ok (.aload_n 0, 1) := by decide +kernel
theorem dX3_init_1 : decode cX3_init 1 = .ok (.invokespecial 3, 3) := by decide +kernel
theorem dX3_init_4 : decode cX3_init 4 = .ok (.aload_n 0, 1) := by decide +kernel
theorem dX3_init_5 : decode cX3_init 5 = .ok (.bipush 9, 2) := by decide +kernel
theorem dX3_init_7 : decode cX3_init 7 = .ok (.newarray .int, 2) := by decide +kernel
theorem dX3_init_9 : decode cX3_init 9 = .ok (.putfield 9, 3) := by decide +kernel
theorem dX3_init_12 : decode cX3_init 12 = .ok (.aload_n 0, 1) := by decide +kernel
theorem dX3_init_13 : decode cX3_init 13 = .ok (.bipush 9, 2) := by decide +kernel
theorem dX3_init_15 : decode cX3_init 15 = .ok (.newarray .int, 2) := by decide +kernel
theorem dX3_init_17 : decode cX3_init 17 = .ok (.putfield 15, 3) := by decide +kernel
theorem dX3_init_20 : decode cX3_init 20 = .ok (.return_, 1) := by decide +kernel
theorem dX3_has_0 : decode cX3_has 0 = .ok (.aload_n 0, 1) := by decide +kernel
theorem dX3_has_1 : decode cX3_has 1 = .ok (.iload_n 1, 1) := by decide +kernel
theorem dX3_has_2 : decode cX3_has 2 = .ok (.invokevirtual 18, 3) := by decide +kernel
theorem dX3_has_5 : decode cX3_has 5 = .ok (.iconst (-1), 1) := by decide +kernel
theorem dX3_has_6 : decode cX3_has 6 = .ok (.if_icmp .eq 7, 3) := by decide +kernel
theorem dX3_has_9 : decode cX3_has 9 = .ok (.iconst 1, 1) := by decide +kernel
theorem dX3_has_10 : decode cX3_has 10 = .ok (.goto 4, 3) := by decide +kernel
theorem dX3_has_13 : decode cX3_has 13 = .ok (.iconst 0, 1) := by decide +kernel
theorem dX3_has_14 : decode cX3_has 14 = .ok (.ireturn, 1) := by decide +kernel
theorem dX3_put_0 : decode cX3_put 0 = .ok (.aload_n 0, 1) := by decide +kernel
theorem dX3_put_1 : decode cX3_put 1 = .ok (.iload_n 1, 1) := by decide +kernel
theorem dX3_put_2 : decode cX3_put 2 = .ok (.invokevirtual 22, 3) := by decide +kernel
theorem dX3_put_5 : decode cX3_put 5 = .ok (.pop, 1) := by decide +kernel
theorem dX3_put_6 : decode cX3_put 6 = .ok (.aload_n 0, 1) := by decide +kernel
theorem dX3_put_7 : decode cX3_put 7 = .ok (.getfield 25, 3) := by decide +kernel
theorem dX3_put_10 : decode cX3_put 10 = .ok (.bipush 8, 2) := by decide +kernel
theorem dX3_put_12 : decode cX3_put 12 = .ok (.if_icmp .gt 33, 3) := by decide +kernel
theorem dX3_put_15 : decode cX3_put 15 = .ok (.aload_n 0, 1) := by decide +kernel
theorem dX3_put_16 : decode cX3_put 16 = .ok (.getfield 9, 3) := by decide +kernel
theorem dX3_put_19 : decode cX3_put 19 = .ok (.aload_n 0, 1) := by decide +kernel
theorem dX3_put_20 : decode cX3_put 20 = .ok (.getfield 25, 3) := by decide +kernel
theorem dX3_put_23 : decode cX3_put 23 = .ok (.iload_n 1, 1) := by decide +kernel
theorem dX3_put_24 : decode cX3_put 24 = .ok (.iastore, 1) := by decide +kernel
theorem dX3_put_25 : decode cX3_put 25 = .ok (.aload_n 0, 1) := by decide +kernel
theorem dX3_put_26 : decode cX3_put 26 = .ok (.getfield 15, 3) := by decide +kernel
theorem dX3_put_29 : decode cX3_put 29 = .ok (.aload_n 0, 1) := by decide +kernel
theorem dX3_put_30 : decode cX3_put 30 = .ok (.getfield 25, 3) := by decide +kernel
theorem dX3_put_33 : decode cX3_put 33 = .ok (.iload_n 2, 1) := by decide +kernel
theorem dX3_put_34 : decode cX3_put 34 = .ok (.iastore, 1) := by decide +kernel
theorem dX3_put_35 : decode cX3_put 35 = .ok (.aload_n 0, 1) := by decide +kernel
theorem dX3_put_36 : decode cX3_put 36 = .ok (.dup, 1) := by decide +kernel
theorem dX3_put_37 : decode cX3_put 37 = .ok (.getfield 25, 3) := by decide +kernel
theorem dX3_put_40 : decode cX3_put 40 = .ok (.iconst 1, 1) := by decide +kernel
theorem dX3_put_41 : decode cX3_put 41 = .ok (.iadd, 1) := by decide +kernel
theorem dX3_put_42 : decode cX3_put 42 = .ok (.putfield 25, 3) := by decide +kernel
theorem dX3_put_45 : decode cX3_put 45 = .ok (.return_, 1) := by decide +kernel
theorem dX3_remove_0 : decode cX3_remove 0 = .ok (.aload_n 0, 1) := by decide +kernel
theorem dX3_remove_1 : decode cX3_remove 1 = .ok (.iload_n 1, 1) := by decide +kernel
theorem dX3_remove_2 : decode cX3_remove 2 = .ok (.invokevirtual 18, 3) := by decide +kernel
theorem dX3_remove_5 : decode cX3_remove 5 = .ok (.istore_n 2, 1) := by decide +kernel
theorem dX3_remove_6 : decode cX3_remove 6 = .ok (.iload_n 2, 1) := by decide +kernel
theorem dX3_remove_7 : decode cX3_remove 7 = .ok (.iconst (-1), 1) := by decide +kernel
theorem dX3_remove_8 : decode cX3_remove 8 = .ok (.if_icmp .ne 5, 3) := by decide +kernel
theorem dX3_remove_11 : decode cX3_remove 11 = .ok (.iconst 0, 1) := by decide +kernel
theorem dX3_remove_12 : decode cX3_remove 12 = .ok (.ireturn, 1) := by decide +kernel
theorem dX3_remove_13 : decode cX3_remove 13 = .ok (.aload_n 0, 1) := by decide +kernel
theorem dX3_remove_14 : decode cX3_remove 14 = .ok (.getfield 15, 3) := by decide +kernel
theorem dX3_remove_17 : decode cX3_remove 17 = .ok (.iload_n 2, 1) := by decide +kernel
theorem dX3_remove_18 : decode cX3_remove 18 = .ok (.iaload, 1) := by decide +kernel
theorem dX3_remove_19 : decode cX3_remove 19 = .ok (.istore_n 3, 1) := by decide +kernel
theorem dX3_remove_20 : decode cX3_remove 20 = .ok (.aload_n 0, 1) := by decide +kernel
theorem dX3_remove_21 : decode cX3_remove 21 = .ok (.dup, 1) := by decide +kernel
theorem dX3_remove_22 : decode cX3_remove 22 = .ok (.getfield 25, 3) := by decide +kernel
theorem dX3_remove_25 : decode cX3_remove 25 = .ok (.iconst 1, 1) := by decide +kernel
theorem dX3_remove_26 : decode cX3_remove 26 = .ok (.isub, 1) := by decide +kernel
theorem dX3_remove_27 : decode cX3_remove 27 = .ok (.putfield 25, 3) := by decide +kernel
theorem dX3_remove_30 : decode cX3_remove 30 = .ok (.aload_n 0, 1) := by decide +kernel
theorem dX3_remove_31 : decode cX3_remove 31 = .ok (.getfield 9, 3) := by decide +kernel
theorem dX3_remove_34 : decode cX3_remove 34 = .ok (.iload_n 2, 1) := by decide +kernel
theorem dX3_remove_35 : decode cX3_remove 35 = .ok (.aload_n 0, 1) := by decide +kernel
theorem dX3_remove_36 : decode cX3_remove 36 = .ok (.getfield 9, 3) := by decide +kernel
theorem dX3_remove_39 : decode cX3_remove 39 = .ok (.aload_n 0, 1) := by decide +kernel
theorem dX3_remove_40 : decode cX3_remove 40 = .ok (.getfield 25, 3) := by decide +kernel
theorem dX3_remove_43 : decode cX3_remove 43 = .ok (.iaload, 1) := by decide +kernel
theorem dX3_remove_44 : decode cX3_remove 44 = .ok (.iastore, 1) := by decide +kernel
theorem dX3_remove_45 : decode cX3_remove 45 = .ok (.aload_n 0, 1) := by decide +kernel
theorem dX3_remove_46 : decode cX3_remove 46 = .ok (.getfield 15, 3) := by decide +kernel
theorem dX3_remove_49 : decode cX3_remove 49 = .ok (.iload_n 2, 1) := by decide +kernel
theorem dX3_remove_50 : decode cX3_remove 50 = .ok (.aload_n 0, 1) := by decide +kernel
theorem dX3_remove_51 : decode cX3_remove 51 = .ok (.getfield 15, 3) := by decide +kernel
theorem dX3_remove_54 : decode cX3_remove 54 = .ok (.aload_n 0, 1) := by decide +kernel
theorem dX3_remove_55 : decode cX3_remove 55 = .ok (.getfield 25, 3) := by decide +kernel
theorem dX3_remove_58 : decode cX3_remove 58 = .ok (.iaload, 1) := by decide +kernel
theorem dX3_remove_59 : decode cX3_remove 59 = .ok (.iastore, 1) := by decide +kernel
theorem dX3_remove_60 : decode cX3_remove 60 = .ok (.iload_n 3, 1) := by decide +kernel
theorem dX3_remove_61 : decode cX3_remove 61 = .ok (.ireturn, 1) := by decide +kernel
theorem dX3_indexOf_0 : decode cX3_indexOf 0 = .ok (.iconst 0, 1) := by decide +kernel
theorem dX3_indexOf_1 : decode cX3_indexOf 1 = .ok (.istore_n 2, 1) := by decide +kernel
theorem dX3_indexOf_2 : decode cX3_indexOf 2 = .ok (.iload_n 2, 1) := by decide +kernel
theorem dX3_indexOf_3 : decode cX3_indexOf 3 = .ok (.aload_n 0, 1) := by decide +kernel
theorem dX3_indexOf_4 : decode cX3_indexOf 4 = .ok (.getfield 25, 3) := by decide +kernel
theorem dX3_indexOf_7 : decode cX3_indexOf 7 = .ok (.if_icmp .ge 21, 3) := by decide +kernel
theorem dX3_indexOf_10 : decode cX3_indexOf 10 = .ok (.aload_n 0, 1) := by decide +kernel
theorem dX3_indexOf_11 : decode cX3_indexOf 11 = .ok (.getfield 9, 3) := by decide +kernel
theorem dX3_indexOf_14 : decode cX3_indexOf 14 = .ok (.iload_n 2, 1) := by decide +kernel
theorem dX3_indexOf_15 : decode cX3_indexOf 15 = .ok (.iaload, 1) := by decide +kernel
theorem dX3_indexOf_16 : decode cX3_indexOf 16 = .ok (.iload_n 1, 1) := by decide +kernel
theorem dX3_indexOf_17 : decode cX3_indexOf 17 = .ok (.if_icmp .ne 5, 3) := by decide +kernel
theorem dX3_indexOf_20 : decode cX3_indexOf 20 = .ok (.iload_n 2, 1) := by decide +kernel
theorem dX3_indexOf_21 : decode cX3_indexOf 21 = .ok (.ireturn, 1) := by decide +kernel
theorem dX3_indexOf_22 : decode cX3_indexOf 22 = .ok (.iinc 2 1, 3) := by decide +kernel
theorem dX3_indexOf_25 : decode cX3_indexOf 25 = .ok (.goto (-23), 3) := by decide +kernel
theorem dX3_indexOf_28 : decode cX3_indexOf 28 = .ok (.iconst (-1), 1) := by decide +kernel
theorem dX3_indexOf_29 : decode cX3_indexOf 29 = .ok (.ireturn, 1) := by decide +kernel
theorem dX4_init_0 : decode cX4_init 0 = .ok (.aload_n 0, 1) := by decide +kernel
theorem dX4_init_1 : decode cX4_init 1 = .ok (.invokespecial 3, 3) := by decide +kernel
theorem dX4_init_4 : decode cX4_init 4 = .ok (.aload_n 0, 1) := by decide +kernel
theorem dX4_init_5 : decode cX4_init 5 = .ok (.bipush 100, 2) := by decide +kernel
theorem dX4_init_7 : decode cX4_init 7 = .ok (.newarray .int, 2) := by decide +kernel
theorem dX4_init_9 : decode cX4_init 9 = .ok (.putfield 9, 3) := by decide +kernel
theorem dX4_init_12 : decode cX4_init 12 = .ok (.return_, 1) := by decide +kernel
theorem dX4_has_0 : decode cX4_has 0 = .ok (.iload_n 1, 1) := by decide +kernel
theorem dX4_has_1 : decode cX4_has 1 = .ok (.iconst 1, 1) := by decide +kernel
theorem dX4_has_2 : decode cX4_has 2 = .ok (.if_icmp .lt 15, 3) := by decide +kernel
theorem dX4_has_5 : decode cX4_has 5 = .ok (.iload_n 1, 1) := by decide +kernel
theorem dX4_has_6 : decode cX4_has 6 = .ok (.aload_n 0, 1) := by decide +kernel
theorem dX4_has_7 : decode cX4_has 7 = .ok (.getfield 15, 3) := by decide +kernel
theorem dX4_has_10 : decode cX4_has 10 = .ok (.if_icmp .gt 7, 3) := by decide +kernel
theorem dX4_has_13 : decode cX4_has 13 = .ok (.iconst 1, 1) := by decide +kernel
theorem dX4_has_14 : decode cX4_has 14 = .ok (.goto 4, 3) := by decide +kernel
theorem dX4_has_17 : decode cX4_has 17 = .ok (.iconst 0, 1) := by decide +kernel
theorem dX4_has_18 : decode cX4_has 18 = .ok (.ireturn, 1) := by decide +kernel
theorem dX4_isFull_0 : decode cX4_isFull 0 = .ok (.aload_n 0, 1) := by decide +kernel
theorem dX4_isFull_1 : decode cX4_isFull 1 = .ok (.getfield 15, 3) := by decide +kernel
theorem dX4_isFull_4 : decode cX4_isFull 4 = .ok (.bipush 100, 2) := by decide +kernel
theorem dX4_isFull_6 : decode cX4_isFull 6 = .ok (.if_icmp .lt 7, 3) := by decide +kernel
theorem dX4_isFull_9 : decode cX4_isFull 9 = .ok (.iconst 1, 1) := by decide +kernel
theorem dX4_isFull_10 : decode cX4_isFull 10 = .ok (.goto 4, 3) := by decide +kernel
theorem dX4_isFull_13 : decode cX4_isFull 13 = .ok (.iconst 0, 1) := by decide +kernel
theorem dX4_isFull_14 : decode cX4_isFull 14 = .ok (.ireturn, 1) := by decide +kernel
theorem dX4_at_0 : decode cX4_at 0 = .ok (.iload_n 1, 1) := by decide +kernel
theorem dX4_at_1 : decode cX4_at 1 = .ok (.iconst 1, 1) := by decide +kernel
theorem dX4_at_2 : decode cX4_at 2 = .ok (.if_icmp .lt 22, 3) := by decide +kernel
theorem dX4_at_5 : decode cX4_at 5 = .ok (.iload_n 1, 1) := by decide +kernel
theorem dX4_at_6 : decode cX4_at 6 = .ok (.aload_n 0, 1) := by decide +kernel
theorem dX4_at_7 : decode cX4_at 7 = .ok (.getfield 15, 3) := by decide +kernel
theorem dX4_at_10 : decode cX4_at 10 = .ok (.if_icmp .gt 14, 3) := by decide +kernel
theorem dX4_at_13 : decode cX4_at 13 = .ok (.aload_n 0, 1) := by decide +kernel
theorem dX4_at_14 : decode cX4_at 14 = .ok (.getfield 9, 3) := by decide +kernel
theorem dX4_at_17 : decode cX4_at 17 = .ok (.iload_n 1, 1) := by decide +kernel
theorem dX4_at_18 : decode cX4_at 18 = .ok (.iconst 1, 1) := by decide +kernel
theorem dX4_at_19 : decode cX4_at 19 = .ok (.isub, 1) := by decide +kernel
theorem dX4_at_20 : decode cX4_at 20 = .ok (.iaload, 1) := by decide +kernel
theorem dX4_at_21 : decode cX4_at 21 = .ok (.goto 4, 3) := by decide +kernel
theorem dX4_at_24 : decode cX4_at 24 = .ok (.iconst 0, 1) := by decide +kernel
theorem dX4_at_25 : decode cX4_at 25 = .ok (.ireturn, 1) := by decide +kernel
theorem dX4_put_0 : decode cX4_put 0 = .ok (.iload_n 1, 1) := by decide +kernel
theorem dX4_put_1 : decode cX4_put 1 = .ok (.iconst 1, 1) := by decide +kernel
theorem dX4_put_2 : decode cX4_put 2 = .ok (.if_icmp .lt 19, 3) := by decide +kernel
theorem dX4_put_5 : decode cX4_put 5 = .ok (.iload_n 1, 1) := by decide +kernel
theorem dX4_put_6 : decode cX4_put 6 = .ok (.bipush 100, 2) := by decide +kernel
theorem dX4_put_8 : decode cX4_put 8 = .ok (.if_icmp .gt 13, 3) := by decide +kernel
theorem dX4_put_11 : decode cX4_put 11 = .ok (.iload_n 1, 1) := by decide +kernel
theorem dX4_put_12 : decode cX4_put 12 = .ok (.aload_n 0, 1) := by decide +kernel
theorem dX4_put_13 : decode cX4_put 13 = .ok (.getfield 15, 3) := by decide +kernel
theorem dX4_put_16 : decode cX4_put 16 = .ok (.iconst 1, 1) := by decide +kernel
theorem dX4_put_17 : decode cX4_put 17 = .ok (.iadd, 1) := by decide +kernel
theorem dX4_put_18 : decode cX4_put 18 = .ok (.if_icmp .le 4, 3) := by decide +kernel
theorem dX4_put_21 : decode cX4_put 21 = .ok (.return_, 1) := by decide +kernel
theorem dX4_put_22 : decode cX4_put 22 = .ok (.aload_n 0, 1) := by decide +kernel
theorem dX4_put_23 : decode cX4_put 23 = .ok (.getfield 9, 3) := by decide +kernel
theorem dX4_put_26 : decode cX4_put 26 = .ok (.iload_n 1, 1) := by decide +kernel
theorem dX4_put_27 : decode cX4_put 27 = .ok (.iconst 1, 1) := by decide +kernel
theorem dX4_put_28 : decode cX4_put 28 = .ok (.isub, 1) := by decide +kernel
theorem dX4_put_29 : decode cX4_put 29 = .ok (.iload_n 2, 1) := by decide +kernel
theorem dX4_put_30 : decode cX4_put 30 = .ok (.iastore, 1) := by decide +kernel
theorem dX4_put_31 : decode cX4_put 31 = .ok (.aload_n 0, 1) := by decide +kernel
theorem dX4_put_32 : decode cX4_put 32 = .ok (.aload_n 0, 1) := by decide +kernel
theorem dX4_put_33 : decode cX4_put 33 = .ok (.getfield 15, 3) := by decide +kernel
theorem dX4_put_36 : decode cX4_put 36 = .ok (.iload_n 1, 1) := by decide +kernel
theorem dX4_put_37 : decode cX4_put 37 = .ok (.invokestatic 19, 3) := by decide +kernel
theorem dX4_put_40 : decode cX4_put 40 = .ok (.putfield 15, 3) := by decide +kernel
theorem dX4_put_43 : decode cX4_put 43 = .ok (.return_, 1) := by decide +kernel
theorem dX4_copy_0 : decode cX4_copy 0 = .ok (.aload_n 1, 1) := by decide +kernel
theorem dX4_copy_1 : decode cX4_copy 1 = .ok (.getfield 9, 3) := by decide +kernel
theorem dX4_copy_4 : decode cX4_copy 4 = .ok (.iconst 0, 1) := by decide +kernel
theorem dX4_copy_5 : decode cX4_copy 5 = .ok (.aload_n 0, 1) := by decide +kernel
theorem dX4_copy_6 : decode cX4_copy 6 = .ok (.getfield 9, 3) := by decide +kernel
theorem dX4_copy_9 : decode cX4_copy 9 = .ok (.iconst 0, 1) := by decide +kernel
theorem dX4_copy_10 : decode cX4_copy 10 = .ok (.aload_n 1, 1) := by decide +kernel
theorem dX4_copy_11 : decode cX4_copy 11 = .ok (.getfield 15, 3) := by decide +kernel
theorem dX4_copy_14 : decode cX4_copy 14 = .ok (.invokestatic 25, 3) := by decide +kernel
theorem dX4_copy_17 : decode cX4_copy 17 = .ok (.aload_n 0, 1) := by decide +kernel
theorem dX4_copy_18 : decode cX4_copy 18 = .ok (.aload_n 1, 1) := by decide +kernel
theorem dX4_copy_19 : decode cX4_copy 19 = .ok (.getfield 15, 3) := by decide +kernel
theorem dX4_copy_22 : decode cX4_copy 22 = .ok (.putfield 15, 3) := by decide +kernel
theorem dX4_copy_25 : decode cX4_copy 25 = .ok (.return_, 1) := by decide +kernel
theorem dX4_copyFirst_0 : decode cX4_copyFirst 0 = .ok (.aload_n 1, 1) := by decide +kernel
theorem dX4_copyFirst_1 : decode cX4_copyFirst 1 = .ok (.getfield 9, 3) := by decide +kernel
theorem dX4_copyFirst_4 : decode cX4_copyFirst 4 = .ok (.iconst 0, 1) := by decide +kernel
theorem dX4_copyFirst_5 : decode cX4_copyFirst 5 = .ok (.aload_n 0, 1) := by decide +kernel
theorem dX4_copyFirst_6 : decode cX4_copyFirst 6 = .ok (.getfield 9, 3) := by decide +kernel
theorem dX4_copyFirst_9 : decode cX4_copyFirst 9 = .ok (.iconst 0, 1) := by decide +kernel
theorem dX4_copyFirst_10 : decode cX4_copyFirst 10 = .ok (.iload_n 2, 1) := by decide +kernel
theorem dX4_copyFirst_11 : decode cX4_copyFirst 11 = .ok (.aload_n 1, 1) := by decide +kernel
theorem dX4_copyFirst_12 : decode cX4_copyFirst 12 = .ok (.getfield 15, 3) := by decide +kernel
theorem dX4_copyFirst_15 : decode cX4_copyFirst 15 = .ok (.invokestatic 31, 3) := by decide +kernel
theorem dX4_copyFirst_18 : decode cX4_copyFirst 18 = .ok (.invokestatic 25, 3) := by decide +kernel
theorem dX4_copyFirst_21 : decode cX4_copyFirst 21 = .ok (.return_, 1) := by decide +kernel
theorem dX5_init_0 : decode cX5_init 0 = .ok (.aload_n 0, 1) := by decide +kernel
theorem dX5_init_1 : decode cX5_init 1 = .ok (.invokespecial 1, 3) := by decide +kernel
theorem dX5_init_4 : decode cX5_init 4 = .ok (.aload_n 0, 1) := by decide +kernel
theorem dX5_init_5 : decode cX5_init 5 = .ok (.new 7, 3) := by decide +kernel
theorem dX5_init_8 : decode cX5_init 8 = .ok (.dup, 1) := by decide +kernel
theorem dX5_init_9 : decode cX5_init 9 = .ok (.invokespecial 9, 3) := by decide +kernel
theorem dX5_init_12 : decode cX5_init 12 = .ok (.putfield 10, 3) := by decide +kernel
theorem dX5_init_15 : decode cX5_init 15 = .ok (.return_, 1) := by decide +kernel
theorem dX6_init_0 : decode cX6_init 0 = .ok (.aload_n 0, 1) := by decide +kernel
theorem dX6_init_1 : decode cX6_init 1 = .ok (.invokespecial 3, 3) := by decide +kernel
theorem dX6_init_4 : decode cX6_init 4 = .ok (.aload_n 0, 1) := by decide +kernel
theorem dX6_init_5 : decode cX6_init 5 = .ok (.new 9, 3) := by decide +kernel
theorem dX6_init_8 : decode cX6_init 8 = .ok (.dup, 1) := by decide +kernel
theorem dX6_init_9 : decode cX6_init 9 = .ok (.invokespecial 11, 3) := by decide +kernel
theorem dX6_init_12 : decode cX6_init 12 = .ok (.putfield 12, 3) := by decide +kernel
theorem dX6_init_15 : decode cX6_init 15 = .ok (.aload_n 0, 1) := by decide +kernel
theorem dX6_init_16 : decode cX6_init 16 = .ok (.new 18, 3) := by decide +kernel
theorem dX6_init_19 : decode cX6_init 19 = .ok (.dup, 1) := by decide +kernel
theorem dX6_init_20 : decode cX6_init 20 = .ok (.invokespecial 20, 3) := by decide +kernel
theorem dX6_init_23 : decode cX6_init 23 = .ok (.putfield 21, 3) := by decide +kernel
theorem dX6_init_26 : decode cX6_init 26 = .ok (.aload_n 0, 1) := by decide +kernel
theorem dX6_init_27 : decode cX6_init 27 = .ok (.iconst 0, 1) := by decide +kernel
theorem dX6_init_28 : decode cX6_init 28 = .ok (.putfield 25, 3) := by decide +kernel
theorem dX6_init_31 : decode cX6_init 31 = .ok (.aload_n 0, 1) := by decide +kernel
theorem dX6_init_32 : decode cX6_init 32 = .ok (.new 29, 3) := by decide +kernel
theorem dX6_init_35 : decode cX6_init 35 = .ok (.dup, 1) := by decide +kernel
theorem dX6_init_36 : decode cX6_init 36 = .ok (.iconst 0, 1) := by decide +kernel
theorem dX6_init_37 : decode cX6_init 37 = .ok (.iconst 1, 1) := by decide +kernel
theorem dX6_init_38 : decode cX6_init 38 = .ok (.invokespecial 31, 3) := by decide +kernel
theorem dX6_init_41 : decode cX6_init 41 = .ok (.putfield 34, 3) := by decide +kernel
theorem dX6_init_44 : decode cX6_init 44 = .ok (.aload_n 0, 1) := by decide +kernel
theorem dX6_init_45 : decode cX6_init 45 = .ok (.aload_n 0, 1) := by decide +kernel
theorem dX6_init_46 : decode cX6_init 46 = .ok (.getfield 34, 3) := by decide +kernel
theorem dX6_init_49 : decode cX6_init 49 = .ok (.putfield 38, 3) := by decide +kernel
theorem dX6_init_52 : decode cX6_init 52 = .ok (.aload_n 0, 1) := by decide +kernel
theorem dX6_init_53 : decode cX6_init 53 = .ok (.iload_n 1, 1) := by decide +kernel
theorem dX6_init_54 : decode cX6_init 54 = .ok (.putfield 41, 3) := by decide +kernel
theorem dX6_init_57 : decode cX6_init 57 = .ok (.aload_n 0, 1) := by decide +kernel
theorem dX6_init_58 : decode cX6_init 58 = .ok (.iload_n 2, 1) := by decide +kernel
theorem dX6_init_59 : decode cX6_init 59 = .ok (.putfield 44, 3) := by decide +kernel
theorem dX6_init_62 : decode cX6_init 62 = .ok (.aload_n 0, 1) := by decide +kernel
theorem dX6_init_63 : decode cX6_init 63 = .ok (.aload_n 3, 1) := by decide +kernel
theorem dX6_init_64 : decode cX6_init 64 = .ok (.putfield 47, 3) := by decide +kernel
theorem dX6_init_67 : decode cX6_init 67 = .ok (.aload_n 0, 1) := by decide +kernel
theorem dX6_init_68 : decode cX6_init 68 = .ok (.aload 4, 2) := by decide +kernel
theorem dX6_init_70 : decode cX6_init 70 = .ok (.putfield 51, 3) := by decide +kernel
theorem dX6_init_73 : decode cX6_init 73 = .ok (.aload_n 0, 1) := by decide +kernel
theorem dX6_init_74 : decode cX6_init 74 = .ok (.aload 5, 2) := by decide +kernel
theorem dX6_init_76 : decode cX6_init 76 = .ok (.putfield 55, 3) := by decide +kernel
theorem dX6_init_79 : decode cX6_init 79 = .ok (.aload_n 0, 1) := by decide +kernel
theorem dX6_init_80 : decode cX6_init 80 = .ok (.new 59, 3) := by decide +kernel
theorem dX6_init_83 : decode cX6_init 83 = .ok (.dup, 1) := by decide +kernel
theorem dX6_init_84 : decode cX6_init 84 = .ok (.iload_n 2, 1) := by decide +kernel
theorem dX6_init_85 : decode cX6_init 85 = .ok (.invokespecial 61, 3) := by decide +kernel
theorem dX6_init_88 : decode cX6_init 88 = .ok (.putfield 64, 3) := by decide +kernel
theorem dX6_init_91 : decode cX6_init 91 = .ok (.return_, 1) := by decide +kernel
theorem dX6_leads_0 : decode cX6_leads 0 = .ok (.aload_n 0, 1) := by decide +kernel
theorem dX6_leads_1 : decode cX6_leads 1 = .ok (.getfield 34, 3) := by decide +kernel
theorem dX6_leads_4 : decode cX6_leads 4 = .ok (.getfield 68, 3) := by decide +kernel
theorem dX6_leads_7 : decode cX6_leads 7 = .ok (.aload_n 0, 1) := by decide +kernel
theorem dX6_leads_8 : decode cX6_leads 8 = .ok (.getfield 44, 3) := by decide +kernel
theorem dX6_leads_11 : decode cX6_leads 11 = .ok (.invokestatic 71, 3) := by decide +kernel
theorem dX6_leads_14 : decode cX6_leads 14 = .ok (.aload_n 0, 1) := by decide +kernel
theorem dX6_leads_15 : decode cX6_leads 15 = .ok (.getfield 41, 3) := by decide +kernel
theorem dX6_leads_18 : decode cX6_leads 18 = .ok (.if_icmp .ne 7, 3) := by decide +kernel
theorem dX6_leads_21 : decode cX6_leads 21 = .ok (.iconst 1, 1) := by decide +kernel
theorem dX6_leads_22 : decode cX6_leads 22 = .ok (.goto 4, 3) := by decide +kernel
theorem dX6_leads_25 : decode cX6_leads 25 = .ok (.iconst 0, 1) := by decide +kernel
theorem dX6_leads_26 : decode cX6_leads 26 = .ok (.ireturn, 1) := by decide +kernel
theorem dX6_executed_0 : decode cX6_executed 0 = .ok (.aload_n 0, 1) := by decide +kernel
theorem dX6_executed_1 : decode cX6_executed 1 = .ok (.invokevirtual 77, 3) := by decide +kernel
theorem dX6_executed_4 : decode cX6_executed 4 = .ok (.ifCond .eq 21, 3) := by decide +kernel
theorem dX6_executed_7 : decode cX6_executed 7 = .ok (.aload_n 0, 1) := by decide +kernel
theorem dX6_executed_8 : decode cX6_executed 8 = .ok (.getfield 25, 3) := by decide +kernel
theorem dX6_executed_11 : decode cX6_executed 11 = .ok (.iconst 2, 1) := by decide +kernel
theorem dX6_executed_12 : decode cX6_executed 12 = .ok (.if_icmp .eq 13, 3) := by decide +kernel
theorem dX6_executed_15 : decode cX6_executed 15 = .ok (.aload_n 0, 1) := by decide +kernel
theorem dX6_executed_16 : decode cX6_executed 16 = .ok (.getfield 12, 3) := by decide +kernel
theorem dX6_executed_19 : decode cX6_executed 19 = .ok (.getfield 81, 3) := by decide +kernel
theorem dX6_executed_22 : decode cX6_executed 22 = .ok (.goto 17, 3) := by decide +kernel
theorem dX6_executed_25 : decode cX6_executed 25 = .ok (.aload_n 0, 1) := by decide +kernel
theorem dX6_executed_26 : decode cX6_executed 26 = .ok (.getfield 84, 3) := by decide +kernel
theorem dX6_executed_29 : decode cX6_executed 29 = .ok (.aload_n 0, 1) := by decide +kernel
theorem dX6_executed_30 : decode cX6_executed 30 = .ok (.getfield 12, 3) := by decide +kernel
theorem dX6_executed_33 : decode cX6_executed 33 = .ok (.getfield 81, 3) := by decide +kernel
theorem dX6_executed_36 : decode cX6_executed 36 = .ok (.invokestatic 87, 3) := by decide +kernel
theorem dX6_executed_39 : decode cX6_executed 39 = .ok (.ireturn, 1) := by decide +kernel
theorem dX6_forget_0 : decode cX6_forget 0 = .ok (.aload_n 0, 1) := by decide +kernel
theorem dX6_forget_1 : decode cX6_forget 1 = .ok (.getfield 21, 3) := by decide +kernel
theorem dX6_forget_4 : decode cX6_forget 4 = .ok (.iconst 0, 1) := by decide +kernel
theorem dX6_forget_5 : decode cX6_forget 5 = .ok (.putfield 90, 3) := by decide +kernel
theorem dX6_forget_8 : decode cX6_forget 8 = .ok (.aload_n 0, 1) := by decide +kernel
theorem dX6_forget_9 : decode cX6_forget 9 = .ok (.getfield 64, 3) := by decide +kernel
theorem dX6_forget_12 : decode cX6_forget 12 = .ok (.invokevirtual 91, 3) := by decide +kernel
theorem dX6_forget_15 : decode cX6_forget 15 = .ok (.return_, 1) := by decide +kernel
theorem dX6_turnTo_0 : decode cX6_turnTo 0 = .ok (.aload_n 0, 1) := by decide +kernel
theorem dX6_turnTo_1 : decode cX6_turnTo 1 = .ok (.aload_n 1, 1) := by decide +kernel
theorem dX6_turnTo_2 : decode cX6_turnTo 2 = .ok (.putfield 34, 3) := by decide +kernel
theorem dX6_turnTo_5 : decode cX6_turnTo 5 = .ok (.aload_n 0, 1) := by decide +kernel
theorem dX6_turnTo_6 : decode cX6_turnTo 6 = .ok (.iconst 2, 1) := by decide +kernel
theorem dX6_turnTo_7 : decode cX6_turnTo 7 = .ok (.putfield 25, 3) := by decide +kernel
theorem dX6_turnTo_10 : decode cX6_turnTo 10 = .ok (.aload_n 0, 1) := by decide +kernel
theorem dX6_turnTo_11 : decode cX6_turnTo 11 = .ok (.invokevirtual 94, 3) := by decide +kernel
theorem dX6_turnTo_14 : decode cX6_turnTo 14 = .ok (.aload_n 0, 1) := by decide +kernel
theorem dX6_turnTo_15 : decode cX6_turnTo 15 = .ok (.iconst 0, 1) := by decide +kernel
theorem dX6_turnTo_16 : decode cX6_turnTo 16 = .ok (.putfield 97, 3) := by decide +kernel
theorem dX6_turnTo_19 : decode cX6_turnTo 19 = .ok (.aload_n 0, 1) := by decide +kernel
theorem dX6_turnTo_20 : decode cX6_turnTo 20 = .ok (.invokevirtual 100, 3) := by decide +kernel
theorem dX6_turnTo_23 : decode cX6_turnTo 23 = .ok (.return_, 1) := by decide +kernel
theorem dX6_askAgain_0 : decode cX6_askAgain 0 = .ok (.aload_n 0, 1) := by decide +kernel
theorem dX6_askAgain_1 : decode cX6_askAgain 1 = .ok (.getfield 25, 3) := by decide +kernel
theorem dX6_askAgain_4 : decode cX6_askAgain 4 = .ok (.iconst 1, 1) := by decide +kernel
theorem dX6_askAgain_5 : decode cX6_askAgain 5 = .ok (.if_icmp .ne 18, 3) := by decide +kernel
theorem dX6_askAgain_8 : decode cX6_askAgain 8 = .ok (.aload_n 0, 1) := by decide +kernel
theorem dX6_askAgain_9 : decode cX6_askAgain 9 = .ok (.iconst 3, 1) := by decide +kernel
theorem dX6_askAgain_10 : decode cX6_askAgain 10 = .ok (.aload_n 0, 1) := by decide +kernel
theorem dX6_askAgain_11 : decode cX6_askAgain 11 = .ok (.getfield 12, 3) := by decide +kernel
theorem dX6_askAgain_14 : decode cX6_askAgain 14 = .ok (.getfield 81, 3) := by decide +kernel
theorem dX6_askAgain_17 : decode cX6_askAgain 17 = .ok (.invokevirtual 103, 3) := by decide +kernel
theorem dX6_askAgain_20 : decode cX6_askAgain 20 = .ok (.goto 61, 3) := by decide +kernel
theorem dX6_askAgain_23 : decode cX6_askAgain 23 = .ok (.aload_n 0, 1) := by decide +kernel
theorem dX6_askAgain_24 : decode cX6_askAgain 24 = .ok (.getfield 25, 3) := by decide +kernel
theorem dX6_askAgain_27 : decode cX6_askAgain 27 = .ok (.iconst 2, 1) := by decide +kernel
theorem dX6_askAgain_28 : decode cX6_askAgain 28 = .ok (.if_icmp .ne 10, 3) := by decide +kernel
theorem dX6_askAgain_31 : decode cX6_askAgain 31 = .ok (.aload_n 0, 1) := by decide +kernel
theorem dX6_askAgain_32 : decode cX6_askAgain 32 = .ok (.invokevirtual 100, 3) := by decide +kernel
theorem dX6_askAgain_35 : decode cX6_askAgain 35 = .ok (.goto 46, 3) := by decide +kernel
theorem dX6_askAgain_38 : decode cX6_askAgain 38 = .ok (.aload_n 0, 1) := by decide +kernel
theorem dX6_askAgain_39 : decode cX6_askAgain 39 = .ok (.invokevirtual 77, 3) := by decide +kernel
theorem dX6_askAgain_42 : decode cX6_askAgain 42 = .ok (.ifCond .ne 39, 3) := by decide +kernel
theorem dX6_askAgain_45 : decode cX6_askAgain 45 = .ok (.aload_n 0, 1) := by decide +kernel
theorem dX6_askAgain_46 : decode cX6_askAgain 46 = .ok (.getfield 21, 3) := by decide +kernel
theorem dX6_askAgain_49 : decode cX6_askAgain 49 = .ok (.getfield 90, 3) := by decide +kernel
theorem dX6_askAgain_52 : decode cX6_askAgain 52 = .ok (.ifCond .le 29, 3) := by decide +kernel
theorem dX6_askAgain_55 : decode cX6_askAgain 55 = .ok (.aload_n 0, 1) := by decide +kernel
theorem dX6_askAgain_56 : decode cX6_askAgain 56 = .ok (.iconst 1, 1) := by decide +kernel
theorem dX6_askAgain_57 : decode cX6_askAgain 57 = .ok (.aload_n 0, 1) := by decide +kernel
theorem dX6_askAgain_58 : decode cX6_askAgain 58 = .ok (.getfield 34, 3) := by decide +kernel
theorem dX6_askAgain_61 : decode cX6_askAgain 61 = .ok (.aload_n 0, 1) := by decide +kernel
theorem dX6_askAgain_62 : decode cX6_askAgain 62 = .ok (.getfield 44, 3) := by decide +kernel
theorem dX6_askAgain_65 : decode cX6_askAgain 65 = .ok (.invokevirtual 106, 3) := by decide +kernel
theorem dX6_askAgain_68 : decode cX6_askAgain 68 = .ok (.aload_n 0, 1) := by decide +kernel
theorem dX6_askAgain_69 : decode cX6_askAgain 69 = .ok (.getfield 12, 3) := by decide +kernel
theorem dX6_askAgain_72 : decode cX6_askAgain 72 = .ok (.getfield 81, 3) := by decide +kernel
theorem dX6_askAgain_75 : decode cX6_askAgain 75 = .ok (.iconst 1, 1) := by decide +kernel
theorem dX6_askAgain_76 : decode cX6_askAgain 76 = .ok (.iadd, 1) := by decide +kernel
theorem dX6_askAgain_77 : decode cX6_askAgain 77 = .ok (.invokevirtual 110, 3) := by decide +kernel
theorem dX6_askAgain_80 : decode cX6_askAgain 80 = .ok (.pop, 1) := by decide +kernel
theorem dX6_askAgain_81 : decode cX6_askAgain 81 = .ok (.return_, 1) := by decide +kernel
theorem dX6_receiveStamped_0 : decode cX6_receiveStamped 0 = .ok (.aload_n 1, 1) := by decide +kernel
theorem dX6_receiveStamped_1 : decode cX6_receiveStamped 1 = .ok (.getfield 114, 3) := by decide +kernel
theorem dX6_receiveStamped_4 : decode cX6_receiveStamped 4 = .ok (.aload_n 0, 1) := by decide +kernel
theorem dX6_receiveStamped_5 : decode cX6_receiveStamped 5 = .ok (.getfield 34, 3) := by decide +kernel
theorem dX6_receiveStamped_8 : decode cX6_receiveStamped 8 = .ok (.getfield 119, 3) := by decide +kernel
theorem dX6_receiveStamped_11 : decode cX6_receiveStamped 11 = .ok (.if_icmp .le 26, 3) := by decide +kernel
theorem dX6_receiveStamped_14 : decode cX6_receiveStamped 14 = .ok (.aload_n 0, 1) := by decide +kernel
theorem dX6_receiveStamped_15 : decode cX6_receiveStamped 15 = .ok (.new 29, 3) := by decide +kernel
theorem dX6_receiveStamped_18 : decode cX6_receiveStamped 18 = .ok (.dup, 1) := by decide +kernel
theorem dX6_receiveStamped_19 : decode cX6_receiveStamped 19 = .ok (.aload_n 0, 1) := by decide +kernel
theorem dX6_receiveStamped_20 : decode cX6_receiveStamped 20 = .ok (.getfield 34, 3) := by decide +kernel
theorem dX6_receiveStamped_23 : decode cX6_receiveStamped 23 = .ok (.getfield 68, 3) := by decide +kernel
theorem dX6_receiveStamped_26 : decode cX6_receiveStamped 26 = .ok (.aload_n 1, 1) := by decide +kernel
theorem dX6_receiveStamped_27 : decode cX6_receiveStamped 27 = .ok (.getfield 114, 3) := by decide +kernel
theorem dX6_receiveStamped_30 : decode cX6_receiveStamped 30 = .ok (.invokespecial 31, 3) := by decide +kernel
theorem dX6_receiveStamped_33 : decode cX6_receiveStamped 33 = .ok (.invokevirtual 120, 3) := by decide +kernel
theorem dX6_receiveStamped_36 : decode cX6_receiveStamped 36 = .ok (.return_, 1) := by decide +kernel
theorem dX6_receiveStamped_37 : decode cX6_receiveStamped 37 = .ok (.aload_n 0, 1) := by decide +kernel
theorem dX6_receiveStamped_38 : decode cX6_receiveStamped 38 = .ok (.getfield 124, 3) := by decide +kernel
theorem dX6_receiveStamped_41 : decode cX6_receiveStamped 41 = .ok (.aload_n 1, 1) := by decide +kernel
theorem dX6_receiveStamped_42 : decode cX6_receiveStamped 42 = .ok (.getfield 127, 3) := by decide +kernel
theorem dX6_receiveStamped_45 : decode cX6_receiveStamped 45 = .ok (.iadd, 1) := by decide +kernel
theorem dX6_receiveStamped_46 : decode cX6_receiveStamped 46 = .ok (.istore_n 2, 1) := by decide +kernel
theorem dX6_receiveStamped_47 : decode cX6_receiveStamped 47 = .ok (.aload_n 1, 1) := by decide +kernel
theorem dX6_receiveStamped_48 : decode cX6_receiveStamped 48 = .ok (.getfield 114, 3) := by decide +kernel
theorem dX6_receiveStamped_51 : decode cX6_receiveStamped 51 = .ok (.aload_n 0, 1) := by decide +kernel
theorem dX6_receiveStamped_52 : decode cX6_receiveStamped 52 = .ok (.getfield 34, 3) := by decide +kernel
theorem dX6_receiveStamped_55 : decode cX6_receiveStamped 55 = .ok (.getfield 119, 3) := by decide +kernel
theorem dX6_receiveStamped_58 : decode cX6_receiveStamped 58 = .ok (.if_icmp .lt 45, 3) := by decide +kernel
theorem dX6_receiveStamped_61 : decode cX6_receiveStamped 61 = .ok (.aload_n 0, 1) := by decide +kernel
theorem dX6_receiveStamped_62 : decode cX6_receiveStamped 62 = .ok (.getfield 25, 3) := by decide +kernel
theorem dX6_receiveStamped_65 : decode cX6_receiveStamped 65 = .ok (.iconst 2, 1) := by decide +kernel
theorem dX6_receiveStamped_66 : decode cX6_receiveStamped 66 = .ok (.if_icmp .eq 37, 3) := by decide +kernel
theorem dX6_receiveStamped_69 : decode cX6_receiveStamped 69 = .ok (.iload_n 2, 1) := by decide +kernel
theorem dX6_receiveStamped_70 : decode cX6_receiveStamped 70 = .ok (.aload_n 0, 1) := by decide +kernel
theorem dX6_receiveStamped_71 : decode cX6_receiveStamped 71 = .ok (.getfield 12, 3) := by decide +kernel
theorem dX6_receiveStamped_74 : decode cX6_receiveStamped 74 = .ok (.getfield 81, 3) := by decide +kernel
theorem dX6_receiveStamped_77 : decode cX6_receiveStamped 77 = .ok (.if_icmp .le 26, 3) := by decide +kernel
theorem dX6_receiveStamped_80 : decode cX6_receiveStamped 80 = .ok (.aload_n 0, 1) := by decide +kernel
theorem dX6_receiveStamped_81 : decode cX6_receiveStamped 81 = .ok (.getfield 21, 3) := by decide +kernel
theorem dX6_receiveStamped_84 : decode cX6_receiveStamped 84 = .ok (.iload_n 2, 1) := by decide +kernel
theorem dX6_receiveStamped_85 : decode cX6_receiveStamped 85 = .ok (.invokevirtual 130, 3) := by decide +kernel
theorem dX6_receiveStamped_88 : decode cX6_receiveStamped 88 = .ok (.ifCond .ne 15, 3) := by decide +kernel
theorem dX6_receiveStamped_91 : decode cX6_receiveStamped 91 = .ok (.aload_n 0, 1) := by decide +kernel
theorem dX6_receiveStamped_92 : decode cX6_receiveStamped 92 = .ok (.getfield 21, 3) := by decide +kernel
theorem dX6_receiveStamped_95 : decode cX6_receiveStamped 95 = .ok (.getfield 90, 3) := by decide +kernel
theorem dX6_receiveStamped_98 : decode cX6_receiveStamped 98 = .ok (.bipush 8, 2) := by decide +kernel
theorem dX6_receiveStamped_100 : decode cX6_receiveStamped 100 = .ok (.if_icmp .lt 4, 3) := by decide +kernel
theorem dX6_receiveStamped_103 : decode cX6_receiveStamped 103 = .ok (.return_, 1) := by decide +kernel
theorem dX6_receiveStamped_104 : decode cX6_receiveStamped 104 = .ok (.aload_n 0, 1) := by decide +kernel
theorem dX6_receiveStamped_105 : decode cX6_receiveStamped 105 = .ok (.getfield 21, 3) := by decide +kernel
theorem dX6_receiveStamped_108 : decode cX6_receiveStamped 108 = .ok (.iload_n 2, 1) := by decide +kernel
theorem dX6_receiveStamped_109 : decode cX6_receiveStamped 109 = .ok (.aload_n 1, 1) := by decide +kernel
theorem dX6_receiveStamped_110 : decode cX6_receiveStamped 110 = .ok (.getfield 134, 3) := by decide +kernel
theorem dX6_receiveStamped_113 : decode cX6_receiveStamped 113 = .ok (.invokevirtual 137, 3) := by decide +kernel
theorem dX6_receiveStamped_116 : decode cX6_receiveStamped 116 = .ok (.aload_n 0, 1) := by decide +kernel
theorem dX6_receiveStamped_117 : decode cX6_receiveStamped 117 = .ok (.getfield 25, 3) := by decide +kernel
theorem dX6_receiveStamped_120 : decode cX6_receiveStamped 120 = .ok (.ifCond .ne 7, 3) := by decide +kernel
theorem dX6_receiveStamped_123 : decode cX6_receiveStamped 123 = .ok (.aload_n 0, 1) := by decide +kernel
theorem dX6_receiveStamped_124 : decode cX6_receiveStamped 124 = .ok (.invokevirtual 140, 3) := by decide +kernel
theorem dX6_receiveStamped_127 : decode cX6_receiveStamped 127 = .ok (.return_, 1) := by decide +kernel
theorem dX6_receiveOfAnyView_0 : decode cX6_receiveOfAnyView 0 = .ok (.aload_n 1, 1) := by decide +kernel
theorem dX6_receiveOfAnyView_1 : decode cX6_receiveOfAnyView 1 = .ok (.getfield 143, 3) := by decide +kernel
theorem dX6_receiveOfAnyView_4 : decode cX6_receiveOfAnyView 4 = .ok (.bipush 10, 2) := by decide +kernel
theorem dX6_receiveOfAnyView_6 : decode cX6_receiveOfAnyView 6 = .ok (.if_icmp .ne 9, 3) := by decide +kernel
theorem dX6_receiveOfAnyView_9 : decode cX6_receiveOfAnyView 9 = .ok (.aload_n 0, 1) := by decide +kernel
theorem dX6_receiveOfAnyView_10 : decode cX6_receiveOfAnyView 10 = .ok (.aload_n 1, 1) := by decide +kernel
theorem dX6_receiveOfAnyView_11 : decode cX6_receiveOfAnyView 11 = .ok (.invokevirtual 146, 3) := by decide +kernel
theorem dX6_receiveOfAnyView_14 : decode cX6_receiveOfAnyView 14 = .ok (.return_, 1) := by decide +kernel
theorem dX6_receiveOfAnyView_15 : decode cX6_receiveOfAnyView 15 = .ok (.aload_n 1, 1) := by decide +kernel
theorem dX6_receiveOfAnyView_16 : decode cX6_receiveOfAnyView 16 = .ok (.getfield 150, 3) := by decide +kernel
theorem dX6_receiveOfAnyView_19 : decode cX6_receiveOfAnyView 19 = .ok (.aload_n 0, 1) := by decide +kernel
theorem dX6_receiveOfAnyView_20 : decode cX6_receiveOfAnyView 20 = .ok (.getfield 34, 3) := by decide +kernel
theorem dX6_receiveOfAnyView_23 : decode cX6_receiveOfAnyView 23 = .ok (.invokevirtual 151, 3) := by decide +kernel
theorem dX6_receiveOfAnyView_26 : decode cX6_receiveOfAnyView 26 = .ok (.ifCond .ne 32, 3) := by decide +kernel
theorem dX6_receiveOfAnyView_29 : decode cX6_receiveOfAnyView 29 = .ok (.aload_n 1, 1) := by decide +kernel
theorem dX6_receiveOfAnyView_30 : decode cX6_receiveOfAnyView 30 = .ok (.getfield 150, 3) := by decide +kernel
theorem dX6_receiveOfAnyView_33 : decode cX6_receiveOfAnyView 33 = .ok (.aload_n 0, 1) := by decide +kernel
theorem dX6_receiveOfAnyView_34 : decode cX6_receiveOfAnyView 34 = .ok (.getfield 34, 3) := by decide +kernel
theorem dX6_receiveOfAnyView_37 : decode cX6_receiveOfAnyView 37 = .ok (.invokevirtual 155, 3) := by decide +kernel
theorem dX6_receiveOfAnyView_40 : decode cX6_receiveOfAnyView 40 = .ok (.ifCond .ne 18, 3) := by decide +kernel
theorem dX6_receiveOfAnyView_43 : decode cX6_receiveOfAnyView 43 = .ok (.aload_n 0, 1) := by decide +kernel
theorem dX6_receiveOfAnyView_44 : decode cX6_receiveOfAnyView 44 = .ok (.aload_n 0, 1) := by decide +kernel
theorem dX6_receiveOfAnyView_45 : decode cX6_receiveOfAnyView 45 = .ok (.getfield 34, 3) := by decide +kernel
theorem dX6_receiveOfAnyView_48 : decode cX6_receiveOfAnyView 48 = .ok (.aload_n 1, 1) := by decide +kernel
theorem dX6_receiveOfAnyView_49 : decode cX6_receiveOfAnyView 49 = .ok (.getfield 150, 3) := by decide +kernel
theorem dX6_receiveOfAnyView_52 : decode cX6_receiveOfAnyView 52 = .ok (.invokevirtual 158, 3) := by decide +kernel
theorem dX6_receiveOfAnyView_55 : decode cX6_receiveOfAnyView 55 = .ok (.invokevirtual 120, 3) := by decide +kernel
theorem dX6_receiveOfAnyView_58 : decode cX6_receiveOfAnyView 58 = .ok (.aload_n 1, 1) := by decide +kernel
theorem dX6_receiveOfAnyView_59 : decode cX6_receiveOfAnyView 59 = .ok (.getfield 143, 3) := by decide +kernel
theorem dX6_receiveOfAnyView_62 : decode cX6_receiveOfAnyView 62 = .ok (.bipush 9, 2) := by decide +kernel
theorem dX6_receiveOfAnyView_64 : decode cX6_receiveOfAnyView 64 = .ok (.if_icmp .ne 29, 3) := by decide +kernel
theorem dX6_receiveOfAnyView_67 : decode cX6_receiveOfAnyView 67 = .ok (.aload_n 1, 1) := by decide +kernel
theorem dX6_receiveOfAnyView_68 : decode cX6_receiveOfAnyView 68 = .ok (.getfield 150, 3) := by decide +kernel
theorem dX6_receiveOfAnyView_71 : decode cX6_receiveOfAnyView 71 = .ok (.aload_n 0, 1) := by decide +kernel
theorem dX6_receiveOfAnyView_72 : decode cX6_receiveOfAnyView 72 = .ok (.getfield 34, 3) := by decide +kernel
theorem dX6_receiveOfAnyView_75 : decode cX6_receiveOfAnyView 75 = .ok (.invokevirtual 151, 3) := by decide +kernel
theorem dX6_receiveOfAnyView_78 : decode cX6_receiveOfAnyView 78 = .ok (.ifCond .eq 15, 3) := by decide +kernel
theorem dX6_receiveOfAnyView_81 : decode cX6_receiveOfAnyView 81 = .ok (.aload_n 0, 1) := by decide +kernel
theorem dX6_receiveOfAnyView_82 : decode cX6_receiveOfAnyView 82 = .ok (.invokevirtual 77, 3) := by decide +kernel
theorem dX6_receiveOfAnyView_85 : decode cX6_receiveOfAnyView 85 = .ok (.ifCond .eq 8, 3) := by decide +kernel
theorem dX6_receiveOfAnyView_88 : decode cX6_receiveOfAnyView 88 = .ok (.aload_n 0, 1) := by decide +kernel
theorem dX6_receiveOfAnyView_89 : decode cX6_receiveOfAnyView 89 = .ok (.aload_n 1, 1) := by decide +kernel
theorem dX6_receiveOfAnyView_90 : decode cX6_receiveOfAnyView 90 = .ok (.invokevirtual 162, 3) := by decide +kernel
theorem dX6_receiveOfAnyView_93 : decode cX6_receiveOfAnyView 93 = .ok (.return_, 1) := by decide +kernel
theorem dX6_receiveOfItsView_0 : decode cX6_receiveOfItsView 0 = .ok (.aload_n 1, 1) := by decide +kernel
theorem dX6_receiveOfItsView_1 : decode cX6_receiveOfItsView 1 = .ok (.getfield 143, 3) := by decide +kernel
theorem dX6_receiveOfItsView_4 : decode cX6_receiveOfItsView 4 = .ok (.tableswitch 134 1 7 #[44, 59, 74, 85, 100, 108, 123], 44) := by decide +kernel
theorem dX6_receiveOfItsView_48 : decode cX6_receiveOfItsView 48 = .ok (.aload_n 0, 1) := by decide +kernel
theorem dX6_receiveOfItsView_49 : decode cX6_receiveOfItsView 49 = .ok (.aload_n 1, 1) := by decide +kernel
theorem dX6_receiveOfItsView_50 : decode cX6_receiveOfItsView 50 = .ok (.getfield 165, 3) := by decide +kernel
theorem dX6_receiveOfItsView_53 : decode cX6_receiveOfItsView 53 = .ok (.aload_n 1, 1) := by decide +kernel
theorem dX6_receiveOfItsView_54 : decode cX6_receiveOfItsView 54 = .ok (.getfield 127, 3) := by decide +kernel
theorem dX6_receiveOfItsView_57 : decode cX6_receiveOfItsView 57 = .ok (.invokevirtual 168, 3) := by decide +kernel
theorem dX6_receiveOfItsView_60 : decode cX6_receiveOfItsView 60 = .ok (.goto 78, 3) := by decide +kernel
theorem dX6_receiveOfItsView_63 : decode cX6_receiveOfItsView 63 = .ok (.aload_n 0, 1) := by decide +kernel
theorem dX6_receiveOfItsView_64 : decode cX6_receiveOfItsView 64 = .ok (.aload_n 1, 1) := by decide +kernel
theorem dX6_receiveOfItsView_65 : decode cX6_receiveOfItsView 65 = .ok (.getfield 127, 3) := by decide +kernel
theorem dX6_receiveOfItsView_68 : decode cX6_receiveOfItsView 68 = .ok (.aload_n 1, 1) := by decide +kernel
theorem dX6_receiveOfItsView_69 : decode cX6_receiveOfItsView 69 = .ok (.getfield 134, 3) := by decide +kernel
theorem dX6_receiveOfItsView_72 : decode cX6_receiveOfItsView 72 = .ok (.invokevirtual 171, 3) := by decide +kernel
theorem dX6_receiveOfItsView_75 : decode cX6_receiveOfItsView 75 = .ok (.goto 63, 3) := by decide +kernel
theorem dX6_receiveOfItsView_78 : decode cX6_receiveOfItsView 78 = .ok (.aload_n 0, 1) := by decide +kernel
theorem dX6_receiveOfItsView_79 : decode cX6_receiveOfItsView 79 = .ok (.aload_n 1, 1) := by decide +kernel
theorem dX6_receiveOfItsView_80 : decode cX6_receiveOfItsView 80 = .ok (.getfield 127, 3) := by decide +kernel
theorem dX6_receiveOfItsView_83 : decode cX6_receiveOfItsView 83 = .ok (.invokevirtual 174, 3) := by decide +kernel
theorem dX6_receiveOfItsView_86 : decode cX6_receiveOfItsView 86 = .ok (.goto 52, 3) := by decide +kernel
theorem dX6_receiveOfItsView_89 : decode cX6_receiveOfItsView 89 = .ok (.aload_n 0, 1) := by decide +kernel
theorem dX6_receiveOfItsView_90 : decode cX6_receiveOfItsView 90 = .ok (.aload_n 1, 1) := by decide +kernel
theorem dX6_receiveOfItsView_91 : decode cX6_receiveOfItsView 91 = .ok (.getfield 165, 3) := by decide +kernel
theorem dX6_receiveOfItsView_94 : decode cX6_receiveOfItsView 94 = .ok (.aload_n 1, 1) := by decide +kernel
theorem dX6_receiveOfItsView_95 : decode cX6_receiveOfItsView 95 = .ok (.getfield 127, 3) := by decide +kernel
theorem dX6_receiveOfItsView_98 : decode cX6_receiveOfItsView 98 = .ok (.invokevirtual 177, 3) := by decide +kernel
theorem dX6_receiveOfItsView_101 : decode cX6_receiveOfItsView 101 = .ok (.goto 37, 3) := by decide +kernel
theorem dX6_receiveOfItsView_104 : decode cX6_receiveOfItsView 104 = .ok (.aload_n 0, 1) := by decide +kernel
theorem dX6_receiveOfItsView_105 : decode cX6_receiveOfItsView 105 = .ok (.aload_n 1, 1) := by decide +kernel
theorem dX6_receiveOfItsView_106 : decode cX6_receiveOfItsView 106 = .ok (.invokevirtual 180, 3) := by decide +kernel
theorem dX6_receiveOfItsView_109 : decode cX6_receiveOfItsView 109 = .ok (.goto 29, 3) := by decide +kernel
theorem dX6_receiveOfItsView_112 : decode cX6_receiveOfItsView 112 = .ok (.aload_n 0, 1) := by decide +kernel
theorem dX6_receiveOfItsView_113 : decode cX6_receiveOfItsView 113 = .ok (.aload_n 1, 1) := by decide +kernel
theorem dX6_receiveOfItsView_114 : decode cX6_receiveOfItsView 114 = .ok (.getfield 165, 3) := by decide +kernel
theorem dX6_receiveOfItsView_117 : decode cX6_receiveOfItsView 117 = .ok (.aload_n 1, 1) := by decide +kernel
theorem dX6_receiveOfItsView_118 : decode cX6_receiveOfItsView 118 = .ok (.getfield 127, 3) := by decide +kernel
theorem dX6_receiveOfItsView_121 : decode cX6_receiveOfItsView 121 = .ok (.invokevirtual 183, 3) := by decide +kernel
theorem dX6_receiveOfItsView_124 : decode cX6_receiveOfItsView 124 = .ok (.goto 14, 3) := by decide +kernel
theorem dX6_receiveOfItsView_127 : decode cX6_receiveOfItsView 127 = .ok (.aload_n 0, 1) := by decide +kernel
theorem dX6_receiveOfItsView_128 : decode cX6_receiveOfItsView 128 = .ok (.aload_n 1, 1) := by decide +kernel
theorem dX6_receiveOfItsView_129 : decode cX6_receiveOfItsView 129 = .ok (.getfield 127, 3) := by decide +kernel
theorem dX6_receiveOfItsView_132 : decode cX6_receiveOfItsView 132 = .ok (.invokevirtual 186, 3) := by decide +kernel
theorem dX6_receiveOfItsView_135 : decode cX6_receiveOfItsView 135 = .ok (.goto 3, 3) := by decide +kernel
theorem dX6_receiveOfItsView_138 : decode cX6_receiveOfItsView 138 = .ok (.return_, 1) := by decide +kernel
theorem dX6_receiveLookup_0 : decode cX6_receiveLookup 0 = .ok (.aload_n 0, 1) := by decide +kernel
theorem dX6_receiveLookup_1 : decode cX6_receiveLookup 1 = .ok (.invokevirtual 77, 3) := by decide +kernel
theorem dX6_receiveLookup_4 : decode cX6_receiveLookup 4 = .ok (.ifCond .eq 22, 3) := by decide +kernel
theorem dX6_receiveLookup_7 : decode cX6_receiveLookup 7 = .ok (.aload_n 0, 1) := by decide +kernel
theorem dX6_receiveLookup_8 : decode cX6_receiveLookup 8 = .ok (.getfield 25, 3) := by decide +kernel
theorem dX6_receiveLookup_11 : decode cX6_receiveLookup 11 = .ok (.iconst 2, 1) := by decide +kernel
theorem dX6_receiveLookup_12 : decode cX6_receiveLookup 12 = .ok (.if_icmp .eq 14, 3) := by decide +kernel
theorem dX6_receiveLookup_15 : decode cX6_receiveLookup 15 = .ok (.aload_n 0, 1) := by decide +kernel
theorem dX6_receiveLookup_16 : decode cX6_receiveLookup 16 = .ok (.getfield 12, 3) := by decide +kernel
theorem dX6_receiveLookup_19 : decode cX6_receiveLookup 19 = .ok (.iload_n 2, 1) := by decide +kernel
theorem dX6_receiveLookup_20 : decode cX6_receiveLookup 20 = .ok (.invokevirtual 189, 3) := by decide +kernel
theorem dX6_receiveLookup_23 : decode cX6_receiveLookup 23 = .ok (.ifCond .ne 4, 3) := by decide +kernel
theorem dX6_receiveLookup_26 : decode cX6_receiveLookup 26 = .ok (.return_, 1) := by decide +kernel
theorem dX6_receiveLookup_27 : decode cX6_receiveLookup 27 = .ok (.aload_n 0, 1) := by decide +kernel
theorem dX6_receiveLookup_28 : decode cX6_receiveLookup 28 = .ok (.getfield 12, 3) := by decide +kernel
theorem dX6_receiveLookup_31 : decode cX6_receiveLookup 31 = .ok (.iload_n 2, 1) := by decide +kernel
theorem dX6_receiveLookup_32 : decode cX6_receiveLookup 32 = .ok (.invokevirtual 190, 3) := by decide +kernel
theorem dX6_receiveLookup_35 : decode cX6_receiveLookup 35 = .ok (.ifCond .ne 14, 3) := by decide +kernel
theorem dX6_receiveLookup_38 : decode cX6_receiveLookup 38 = .ok (.aload_n 0, 1) := by decide +kernel
theorem dX6_receiveLookup_39 : decode cX6_receiveLookup 39 = .ok (.iconst 3, 1) := by decide +kernel
theorem dX6_receiveLookup_40 : decode cX6_receiveLookup 40 = .ok (.iload_n 1, 1) := by decide +kernel
theorem dX6_receiveLookup_41 : decode cX6_receiveLookup 41 = .ok (.iload_n 2, 1) := by decide +kernel
theorem dX6_receiveLookup_42 : decode cX6_receiveLookup 42 = .ok (.invokevirtual 110, 3) := by decide +kernel
theorem dX6_receiveLookup_45 : decode cX6_receiveLookup 45 = .ok (.pop, 1) := by decide +kernel
theorem dX6_receiveLookup_46 : decode cX6_receiveLookup 46 = .ok (.goto 21, 3) := by decide +kernel
theorem dX6_receiveLookup_49 : decode cX6_receiveLookup 49 = .ok (.aload_n 0, 1) := by decide +kernel
theorem dX6_receiveLookup_50 : decode cX6_receiveLookup 50 = .ok (.iconst 2, 1) := by decide +kernel
theorem dX6_receiveLookup_51 : decode cX6_receiveLookup 51 = .ok (.iload_n 1, 1) := by decide +kernel
theorem dX6_receiveLookup_52 : decode cX6_receiveLookup 52 = .ok (.iload_n 2, 1) := by decide +kernel
theorem dX6_receiveLookup_53 : decode cX6_receiveLookup 53 = .ok (.invokevirtual 110, 3) := by decide +kernel
theorem dX6_receiveLookup_56 : decode cX6_receiveLookup 56 = .ok (.aload_n 0, 1) := by decide +kernel
theorem dX6_receiveLookup_57 : decode cX6_receiveLookup 57 = .ok (.getfield 12, 3) := by decide +kernel
theorem dX6_receiveLookup_60 : decode cX6_receiveLookup 60 = .ok (.iload_n 2, 1) := by decide +kernel
theorem dX6_receiveLookup_61 : decode cX6_receiveLookup 61 = .ok (.invokevirtual 190, 3) := by decide +kernel
theorem dX6_receiveLookup_64 : decode cX6_receiveLookup 64 = .ok (.putfield 134, 3) := by decide +kernel
theorem dX6_receiveLookup_67 : decode cX6_receiveLookup 67 = .ok (.return_, 1) := by decide +kernel
theorem dX6_receiveFound_0 : decode cX6_receiveFound 0 = .ok (.aload_n 0, 1) := by decide +kernel
theorem dX6_receiveFound_1 : decode cX6_receiveFound 1 = .ok (.getfield 25, 3) := by decide +kernel
theorem dX6_receiveFound_4 : decode cX6_receiveFound 4 = .ok (.ifCond .ne 29, 3) := by decide +kernel
theorem dX6_receiveFound_7 : decode cX6_receiveFound 7 = .ok (.iload_n 1, 1) := by decide +kernel
theorem dX6_receiveFound_8 : decode cX6_receiveFound 8 = .ok (.aload_n 0, 1) := by decide +kernel
theorem dX6_receiveFound_9 : decode cX6_receiveFound 9 = .ok (.getfield 12, 3) := by decide +kernel
theorem dX6_receiveFound_12 : decode cX6_receiveFound 12 = .ok (.getfield 81, 3) := by decide +kernel
theorem dX6_receiveFound_15 : decode cX6_receiveFound 15 = .ok (.iconst 1, 1) := by decide +kernel
theorem dX6_receiveFound_16 : decode cX6_receiveFound 16 = .ok (.iadd, 1) := by decide +kernel
theorem dX6_receiveFound_17 : decode cX6_receiveFound 17 = .ok (.if_icmp .ne 16, 3) := by decide +kernel
theorem dX6_receiveFound_20 : decode cX6_receiveFound 20 = .ok (.aload_n 0, 1) := by decide +kernel
theorem dX6_receiveFound_21 : decode cX6_receiveFound 21 = .ok (.getfield 21, 3) := by decide +kernel
theorem dX6_receiveFound_24 : decode cX6_receiveFound 24 = .ok (.iload_n 1, 1) := by decide +kernel
theorem dX6_receiveFound_25 : decode cX6_receiveFound 25 = .ok (.iload_n 2, 1) := by decide +kernel
theorem dX6_receiveFound_26 : decode cX6_receiveFound 26 = .ok (.invokevirtual 137, 3) := by decide +kernel
theorem dX6_receiveFound_29 : decode cX6_receiveFound 29 = .ok (.aload_n 0, 1) := by decide +kernel
theorem dX6_receiveFound_30 : decode cX6_receiveFound 30 = .ok (.invokevirtual 140, 3) := by decide +kernel
theorem dX6_receiveFound_33 : decode cX6_receiveFound 33 = .ok (.return_, 1) := by decide +kernel
theorem dX6_receiveGapCommit_0 : decode cX6_receiveGapCommit 0 = .ok (.iload_n 1, 1) := by decide +kernel
theorem dX6_receiveGapCommit_1 : decode cX6_receiveGapCommit 1 = .ok (.aload_n 0, 1) := by decide +kernel
theorem dX6_receiveGapCommit_2 : decode cX6_receiveGapCommit 2 = .ok (.getfield 12, 3) := by decide +kernel
theorem dX6_receiveGapCommit_5 : decode cX6_receiveGapCommit 5 = .ok (.getfield 81, 3) := by decide +kernel
theorem dX6_receiveGapCommit_8 : decode cX6_receiveGapCommit 8 = .ok (.iconst 1, 1) := by decide +kernel
theorem dX6_receiveGapCommit_9 : decode cX6_receiveGapCommit 9 = .ok (.iadd, 1) := by decide +kernel
theorem dX6_receiveGapCommit_10 : decode cX6_receiveGapCommit 10 = .ok (.if_icmp .ne 17, 3) := by decide +kernel
theorem dX6_receiveGapCommit_13 : decode cX6_receiveGapCommit 13 = .ok (.aload_n 0, 1) := by decide +kernel
theorem dX6_receiveGapCommit_14 : decode cX6_receiveGapCommit 14 = .ok (.getfield 12, 3) := by decide +kernel
theorem dX6_receiveGapCommit_17 : decode cX6_receiveGapCommit 17 = .ok (.invokevirtual 193, 3) := by decide +kernel
theorem dX6_receiveGapCommit_20 : decode cX6_receiveGapCommit 20 = .ok (.ifCond .ne 7, 3) := by decide +kernel
theorem dX6_receiveGapCommit_23 : decode cX6_receiveGapCommit 23 = .ok (.iconst 1, 1) := by decide +kernel
theorem dX6_receiveGapCommit_24 : decode cX6_receiveGapCommit 24 = .ok (.goto 4, 3) := by decide +kernel
theorem dX6_receiveGapCommit_27 : decode cX6_receiveGapCommit 27 = .ok (.iconst 0, 1) := by decide +kernel
theorem dX6_receiveGapCommit_28 : decode cX6_receiveGapCommit 28 = .ok (.istore_n 2, 1) := by decide +kernel
theorem dX6_receiveGapCommit_29 : decode cX6_receiveGapCommit 29 = .ok (.aload_n 0, 1) := by decide +kernel
theorem dX6_receiveGapCommit_30 : decode cX6_receiveGapCommit 30 = .ok (.invokevirtual 77, 3) := by decide +kernel
theorem dX6_receiveGapCommit_33 : decode cX6_receiveGapCommit 33 = .ok (.ifCond .ne 25, 3) := by decide +kernel
theorem dX6_receiveGapCommit_36 : decode cX6_receiveGapCommit 36 = .ok (.aload_n 0, 1) := by decide +kernel
theorem dX6_receiveGapCommit_37 : decode cX6_receiveGapCommit 37 = .ok (.getfield 25, 3) := by decide +kernel
theorem dX6_receiveGapCommit_40 : decode cX6_receiveGapCommit 40 = .ok (.ifCond .ne 18, 3) := by decide +kernel
theorem dX6_receiveGapCommit_43 : decode cX6_receiveGapCommit 43 = .ok (.iload_n 2, 1) := by decide +kernel
theorem dX6_receiveGapCommit_44 : decode cX6_receiveGapCommit 44 = .ok (.ifCond .ne 15, 3) := by decide +kernel
theorem dX6_receiveGapCommit_47 : decode cX6_receiveGapCommit 47 = .ok (.aload_n 0, 1) := by decide +kernel
theorem dX6_receiveGapCommit_48 : decode cX6_receiveGapCommit 48 = .ok (.getfield 12, 3) := by decide +kernel
theorem dX6_receiveGapCommit_51 : decode cX6_receiveGapCommit 51 = .ok (.iload_n 1, 1) := by decide +kernel
theorem dX6_receiveGapCommit_52 : decode cX6_receiveGapCommit 52 = .ok (.invokevirtual 189, 3) := by decide +kernel
theorem dX6_receiveGapCommit_55 : decode cX6_receiveGapCommit 55 = .ok (.ifCond .ne 4, 3) := by decide +kernel
theorem dX6_receiveGapCommit_58 : decode cX6_receiveGapCommit 58 = .ok (.return_, 1) := by decide +kernel
theorem dX6_receiveGapCommit_59 : decode cX6_receiveGapCommit 59 = .ok (.iload_n 2, 1) := by decide +kernel
theorem dX6_receiveGapCommit_60 : decode cX6_receiveGapCommit 60 = .ok (.ifCond .eq 12, 3) := by decide +kernel
theorem dX6_receiveGapCommit_63 : decode cX6_receiveGapCommit 63 = .ok (.aload_n 0, 1) := by decide +kernel
theorem dX6_receiveGapCommit_64 : decode cX6_receiveGapCommit 64 = .ok (.getfield 21, 3) := by decide +kernel
theorem dX6_receiveGapCommit_67 : decode cX6_receiveGapCommit 67 = .ok (.iload_n 1, 1) := by decide +kernel
theorem dX6_receiveGapCommit_68 : decode cX6_receiveGapCommit 68 = .ok (.invokevirtual 196, 3) := by decide +kernel
theorem dX6_receiveGapCommit_71 : decode cX6_receiveGapCommit 71 = .ok (.pop, 1) := by decide +kernel
theorem dX6_receiveGapCommit_72 : decode cX6_receiveGapCommit 72 = .ok (.aload_n 0, 1) := by decide +kernel
theorem dX6_receiveGapCommit_73 : decode cX6_receiveGapCommit 73 = .ok (.getfield 12, 3) := by decide +kernel
theorem dX6_receiveGapCommit_76 : decode cX6_receiveGapCommit 76 = .ok (.iload_n 1, 1) := by decide +kernel
theorem dX6_receiveGapCommit_77 : decode cX6_receiveGapCommit 77 = .ok (.iconst 0, 1) := by decide +kernel
theorem dX6_receiveGapCommit_78 : decode cX6_receiveGapCommit 78 = .ok (.invokevirtual 199, 3) := by decide +kernel
theorem dX6_receiveGapCommit_81 : decode cX6_receiveGapCommit 81 = .ok (.aload_n 0, 1) := by decide +kernel
theorem dX6_receiveGapCommit_82 : decode cX6_receiveGapCommit 82 = .ok (.iconst 4, 1) := by decide +kernel
theorem dX6_receiveGapCommit_83 : decode cX6_receiveGapCommit 83 = .ok (.aload_n 0, 1) := by decide +kernel
theorem dX6_receiveGapCommit_84 : decode cX6_receiveGapCommit 84 = .ok (.getfield 34, 3) := by decide +kernel
theorem dX6_receiveGapCommit_87 : decode cX6_receiveGapCommit 87 = .ok (.aload_n 0, 1) := by decide +kernel
theorem dX6_receiveGapCommit_88 : decode cX6_receiveGapCommit 88 = .ok (.getfield 44, 3) := by decide +kernel
theorem dX6_receiveGapCommit_91 : decode cX6_receiveGapCommit 91 = .ok (.invokevirtual 106, 3) := by decide +kernel
theorem dX6_receiveGapCommit_94 : decode cX6_receiveGapCommit 94 = .ok (.iload_n 1, 1) := by decide +kernel
theorem dX6_receiveGapCommit_95 : decode cX6_receiveGapCommit 95 = .ok (.invokevirtual 110, 3) := by decide +kernel
theorem dX6_receiveGapCommit_98 : decode cX6_receiveGapCommit 98 = .ok (.pop, 1) := by decide +kernel
theorem dX6_receiveGapCommit_99 : decode cX6_receiveGapCommit 99 = .ok (.iload_n 2, 1) := by decide +kernel
theorem dX6_receiveGapCommit_100 : decode cX6_receiveGapCommit 100 = .ok (.ifCond .eq 7, 3) := by decide +kernel
theorem dX6_receiveGapCommit_103 : decode cX6_receiveGapCommit 103 = .ok (.aload_n 0, 1) := by decide +kernel
theorem dX6_receiveGapCommit_104 : decode cX6_receiveGapCommit 104 = .ok (.invokevirtual 140, 3) := by decide +kernel
theorem dX6_receiveGapCommit_107 : decode cX6_receiveGapCommit 107 = .ok (.return_, 1) := by decide +kernel
theorem dX6_receiveGapReply_0 : decode cX6_receiveGapReply 0 = .ok (.aload_n 0, 1) := by decide +kernel
theorem dX6_receiveGapReply_1 : decode cX6_receiveGapReply 1 = .ok (.invokevirtual 77, 3) := by decide +kernel
theorem dX6_receiveGapReply_4 : decode cX6_receiveGapReply 4 = .ok (.ifCond .eq 22, 3) := by decide +kernel
theorem dX6_receiveGapReply_7 : decode cX6_receiveGapReply 7 = .ok (.aload_n 0, 1) := by decide +kernel
theorem dX6_receiveGapReply_8 : decode cX6_receiveGapReply 8 = .ok (.getfield 25, 3) := by decide +kernel
theorem dX6_receiveGapReply_11 : decode cX6_receiveGapReply 11 = .ok (.iconst 1, 1) := by decide +kernel
theorem dX6_receiveGapReply_12 : decode cX6_receiveGapReply 12 = .ok (.if_icmp .ne 14, 3) := by decide +kernel
theorem dX6_receiveGapReply_15 : decode cX6_receiveGapReply 15 = .ok (.iload_n 2, 1) := by decide +kernel
theorem dX6_receiveGapReply_16 : decode cX6_receiveGapReply 16 = .ok (.aload_n 0, 1) := by decide +kernel
theorem dX6_receiveGapReply_17 : decode cX6_receiveGapReply 17 = .ok (.getfield 12, 3) := by decide +kernel
theorem dX6_receiveGapReply_20 : decode cX6_receiveGapReply 20 = .ok (.getfield 81, 3) := by decide +kernel
theorem dX6_receiveGapReply_23 : decode cX6_receiveGapReply 23 = .ok (.if_icmp .eq 4, 3) := by decide +kernel
theorem dX6_receiveGapReply_26 : decode cX6_receiveGapReply 26 = .ok (.return_, 1) := by decide +kernel
theorem dX6_receiveGapReply_27 : decode cX6_receiveGapReply 27 = .ok (.aload_n 0, 1) := by decide +kernel
theorem dX6_receiveGapReply_28 : decode cX6_receiveGapReply 28 = .ok (.getfield 64, 3) := by decide +kernel
theorem dX6_receiveGapReply_31 : decode cX6_receiveGapReply 31 = .ok (.dup, 1) := by decide +kernel
theorem dX6_receiveGapReply_32 : decode cX6_receiveGapReply 32 = .ok (.getfield 200, 3) := by decide +kernel
theorem dX6_receiveGapReply_35 : decode cX6_receiveGapReply 35 = .ok (.iconst 1, 1) := by decide +kernel
theorem dX6_receiveGapReply_36 : decode cX6_receiveGapReply 36 = .ok (.iload_n 1, 1) := by decide +kernel
theorem dX6_receiveGapReply_37 : decode cX6_receiveGapReply 37 = .ok (.ishl, 1) := by decide +kernel
theorem dX6_receiveGapReply_38 : decode cX6_receiveGapReply 38 = .ok (.ior, 1) := by decide +kernel
theorem dX6_receiveGapReply_39 : decode cX6_receiveGapReply 39 = .ok (.putfield 200, 3) := by decide +kernel
theorem dX6_receiveGapReply_42 : decode cX6_receiveGapReply 42 = .ok (.aload_n 0, 1) := by decide +kernel
theorem dX6_receiveGapReply_43 : decode cX6_receiveGapReply 43 = .ok (.aload_n 0, 1) := by decide +kernel
theorem dX6_receiveGapReply_44 : decode cX6_receiveGapReply 44 = .ok (.getfield 64, 3) := by decide +kernel
theorem dX6_receiveGapReply_47 : decode cX6_receiveGapReply 47 = .ok (.getfield 200, 3) := by decide +kernel
theorem dX6_receiveGapReply_50 : decode cX6_receiveGapReply 50 = .ok (.invokevirtual 203, 3) := by decide +kernel
theorem dX6_receiveGapReply_53 : decode cX6_receiveGapReply 53 = .ok (.ifCond .eq 12, 3) := by decide +kernel
theorem dX6_receiveGapReply_56 : decode cX6_receiveGapReply 56 = .ok (.aload_n 0, 1) := by decide +kernel
theorem dX6_receiveGapReply_57 : decode cX6_receiveGapReply 57 = .ok (.iconst 0, 1) := by decide +kernel
theorem dX6_receiveGapReply_58 : decode cX6_receiveGapReply 58 = .ok (.putfield 25, 3) := by decide +kernel
theorem dX6_receiveGapReply_61 : decode cX6_receiveGapReply 61 = .ok (.aload_n 0, 1) := by decide +kernel
theorem dX6_receiveGapReply_62 : decode cX6_receiveGapReply 62 = .ok (.invokevirtual 140, 3) := by decide +kernel
theorem dX6_receiveGapReply_65 : decode cX6_receiveGapReply 65 = .ok (.return_, 1) := by decide +kernel
theorem dX6_receiveSync_0 : decode cX6_receiveSync 0 = .ok (.aload_n 0, 1) := by decide +kernel
theorem dX6_receiveSync_1 : decode cX6_receiveSync 1 = .ok (.invokevirtual 77, 3) := by decide +kernel
theorem dX6_receiveSync_4 : decode cX6_receiveSync 4 = .ok (.ifCond .ne 24, 3) := by decide +kernel
theorem dX6_receiveSync_7 : decode cX6_receiveSync 7 = .ok (.aload_n 0, 1) := by decide +kernel
theorem dX6_receiveSync_8 : decode cX6_receiveSync 8 = .ok (.getfield 25, 3) := by decide +kernel
theorem dX6_receiveSync_11 : decode cX6_receiveSync 11 = .ok (.ifCond .ne 17, 3) := by decide +kernel
theorem dX6_receiveSync_14 : decode cX6_receiveSync 14 = .ok (.aload_n 1, 1) := by decide +kernel
theorem dX6_receiveSync_15 : decode cX6_receiveSync 15 = .ok (.getfield 127, 3) := by decide +kernel
theorem dX6_receiveSync_18 : decode cX6_receiveSync 18 = .ok (.aload_n 0, 1) := by decide +kernel
theorem dX6_receiveSync_19 : decode cX6_receiveSync 19 = .ok (.getfield 12, 3) := by decide +kernel
theorem dX6_receiveSync_22 : decode cX6_receiveSync 22 = .ok (.getfield 81, 3) := by decide +kernel
theorem dX6_receiveSync_25 : decode cX6_receiveSync 25 = .ok (.if_icmp .le 4, 3) := by decide +kernel
theorem dX6_receiveSync_28 : decode cX6_receiveSync 28 = .ok (.return_, 1) := by decide +kernel
theorem dX6_receiveSync_29 : decode cX6_receiveSync 29 = .ok (.aload_n 0, 1) := by decide +kernel
theorem dX6_receiveSync_30 : decode cX6_receiveSync 30 = .ok (.getfield 12, 3) := by decide +kernel
theorem dX6_receiveSync_33 : decode cX6_receiveSync 33 = .ok (.aload_n 1, 1) := by decide +kernel
theorem dX6_receiveSync_34 : decode cX6_receiveSync 34 = .ok (.getfield 206, 3) := by decide +kernel
theorem dX6_receiveSync_37 : decode cX6_receiveSync 37 = .ok (.aload_n 1, 1) := by decide +kernel
theorem dX6_receiveSync_38 : decode cX6_receiveSync 38 = .ok (.getfield 127, 3) := by decide +kernel
theorem dX6_receiveSync_41 : decode cX6_receiveSync 41 = .ok (.invokevirtual 207, 3) := by decide +kernel
theorem dX6_receiveSync_44 : decode cX6_receiveSync 44 = .ok (.aload_n 0, 1) := by decide +kernel
theorem dX6_receiveSync_45 : decode cX6_receiveSync 45 = .ok (.aload_n 0, 1) := by decide +kernel
theorem dX6_receiveSync_46 : decode cX6_receiveSync 46 = .ok (.getfield 97, 3) := by decide +kernel
theorem dX6_receiveSync_49 : decode cX6_receiveSync 49 = .ok (.aload_n 1, 1) := by decide +kernel
theorem dX6_receiveSync_50 : decode cX6_receiveSync 50 = .ok (.getfield 127, 3) := by decide +kernel
theorem dX6_receiveSync_53 : decode cX6_receiveSync 53 = .ok (.invokestatic 211, 3) := by decide +kernel
theorem dX6_receiveSync_56 : decode cX6_receiveSync 56 = .ok (.putfield 97, 3) := by decide +kernel
theorem dX6_receiveSync_59 : decode cX6_receiveSync 59 = .ok (.aload_n 0, 1) := by decide +kernel
theorem dX6_receiveSync_60 : decode cX6_receiveSync 60 = .ok (.bipush 6, 2) := by decide +kernel
theorem dX6_receiveSync_62 : decode cX6_receiveSync 62 = .ok (.aload_n 0, 1) := by decide +kernel
theorem dX6_receiveSync_63 : decode cX6_receiveSync 63 = .ok (.getfield 34, 3) := by decide +kernel
theorem dX6_receiveSync_66 : decode cX6_receiveSync 66 = .ok (.aload_n 0, 1) := by decide +kernel
theorem dX6_receiveSync_67 : decode cX6_receiveSync 67 = .ok (.getfield 44, 3) := by decide +kernel
theorem dX6_receiveSync_70 : decode cX6_receiveSync 70 = .ok (.invokevirtual 106, 3) := by decide +kernel
theorem dX6_receiveSync_73 : decode cX6_receiveSync 73 = .ok (.aload_n 1, 1) := by decide +kernel
theorem dX6_receiveSync_74 : decode cX6_receiveSync 74 = .ok (.getfield 127, 3) := by decide +kernel
theorem dX6_receiveSync_77 : decode cX6_receiveSync 77 = .ok (.invokevirtual 110, 3) := by decide +kernel
theorem dX6_receiveSync_80 : decode cX6_receiveSync 80 = .ok (.pop, 1) := by decide +kernel
theorem dX6_receiveSync_81 : decode cX6_receiveSync 81 = .ok (.return_, 1) := by decide +kernel
theorem dX6_receiveSyncReply_0 : decode cX6_receiveSyncReply 0 = .ok (.aload_n 0, 1) := by decide +kernel
theorem dX6_receiveSyncReply_1 : decode cX6_receiveSyncReply 1 = .ok (.invokevirtual 77, 3) := by decide +kernel
theorem dX6_receiveSyncReply_4 : decode cX6_receiveSyncReply 4 = .ok (.ifCond .eq 19, 3) := by decide +kernel
theorem dX6_receiveSyncReply_7 : decode cX6_receiveSyncReply 7 = .ok (.aload_n 0, 1) := by decide +kernel
theorem dX6_receiveSyncReply_8 : decode cX6_receiveSyncReply 8 = .ok (.getfield 25, 3) := by decide +kernel
theorem dX6_receiveSyncReply_11 : decode cX6_receiveSyncReply 11 = .ok (.iconst 2, 1) := by decide +kernel
theorem dX6_receiveSyncReply_12 : decode cX6_receiveSyncReply 12 = .ok (.if_icmp .eq 11, 3) := by decide +kernel
theorem dX6_receiveSyncReply_15 : decode cX6_receiveSyncReply 15 = .ok (.iload_n 2, 1) := by decide +kernel
theorem dX6_receiveSyncReply_16 : decode cX6_receiveSyncReply 16 = .ok (.aload_n 0, 1) := by decide +kernel
theorem dX6_receiveSyncReply_17 : decode cX6_receiveSyncReply 17 = .ok (.getfield 84, 3) := by decide +kernel
theorem dX6_receiveSyncReply_20 : decode cX6_receiveSyncReply 20 = .ok (.if_icmp .gt 4, 3) := by decide +kernel
theorem dX6_receiveSyncReply_23 : decode cX6_receiveSyncReply 23 = .ok (.return_, 1) := by decide +kernel
theorem dX6_receiveSyncReply_24 : decode cX6_receiveSyncReply 24 = .ok (.aload_n 0, 1) := by decide +kernel
theorem dX6_receiveSyncReply_25 : decode cX6_receiveSyncReply 25 = .ok (.getfield 64, 3) := by decide +kernel
theorem dX6_receiveSyncReply_28 : decode cX6_receiveSyncReply 28 = .ok (.iload_n 1, 1) := by decide +kernel
theorem dX6_receiveSyncReply_29 : decode cX6_receiveSyncReply 29 = .ok (.iload_n 2, 1) := by decide +kernel
theorem dX6_receiveSyncReply_30 : decode cX6_receiveSyncReply 30 = .ok (.invokevirtual 214, 3) := by decide +kernel
theorem dX6_receiveSyncReply_33 : decode cX6_receiveSyncReply 33 = .ok (.aload_n 0, 1) := by decide +kernel
theorem dX6_receiveSyncReply_34 : decode cX6_receiveSyncReply 34 = .ok (.aload_n 0, 1) := by decide +kernel
theorem dX6_receiveSyncReply_35 : decode cX6_receiveSyncReply 35 = .ok (.getfield 64, 3) := by decide +kernel
theorem dX6_receiveSyncReply_38 : decode cX6_receiveSyncReply 38 = .ok (.getfield 217, 3) := by decide +kernel
theorem dX6_receiveSyncReply_41 : decode cX6_receiveSyncReply 41 = .ok (.invokevirtual 203, 3) := by decide +kernel
theorem dX6_receiveSyncReply_44 : decode cX6_receiveSyncReply 44 = .ok (.ifCond .eq 15, 3) := by decide +kernel
theorem dX6_receiveSyncReply_47 : decode cX6_receiveSyncReply 47 = .ok (.aload_n 0, 1) := by decide +kernel
theorem dX6_receiveSyncReply_48 : decode cX6_receiveSyncReply 48 = .ok (.iload_n 2, 1) := by decide +kernel
theorem dX6_receiveSyncReply_49 : decode cX6_receiveSyncReply 49 = .ok (.putfield 84, 3) := by decide +kernel
theorem dX6_receiveSyncReply_52 : decode cX6_receiveSyncReply 52 = .ok (.aload_n 0, 1) := by decide +kernel
theorem dX6_receiveSyncReply_53 : decode cX6_receiveSyncReply 53 = .ok (.bipush 7, 2) := by decide +kernel
theorem dX6_receiveSyncReply_55 : decode cX6_receiveSyncReply 55 = .ok (.iload_n 2, 1) := by decide +kernel
theorem dX6_receiveSyncReply_56 : decode cX6_receiveSyncReply 56 = .ok (.invokevirtual 103, 3) := by decide +kernel
theorem dX6_receiveSyncReply_59 : decode cX6_receiveSyncReply 59 = .ok (.return_, 1) := by decide +kernel
theorem dX6_receivePoint_0 : decode cX6_receivePoint 0 = .ok (.aload_n 0, 1) := by decide +kernel
theorem dX6_receivePoint_1 : decode cX6_receivePoint 1 = .ok (.invokevirtual 77, 3) := by decide +kernel
theorem dX6_receivePoint_4 : decode cX6_receivePoint 4 = .ok (.ifCond .ne 32, 3) := by decide +kernel
theorem dX6_receivePoint_7 : decode cX6_receivePoint 7 = .ok (.aload_n 0, 1) := by decide +kernel
theorem dX6_receivePoint_8 : decode cX6_receivePoint 8 = .ok (.getfield 25, 3) := by decide +kernel
theorem dX6_receivePoint_11 : decode cX6_receivePoint 11 = .ok (.iconst 2, 1) := by decide +kernel
theorem dX6_receivePoint_12 : decode cX6_receivePoint 12 = .ok (.if_icmp .eq 24, 3) := by decide +kernel
theorem dX6_receivePoint_15 : decode cX6_receivePoint 15 = .ok (.iload_n 1, 1) := by decide +kernel
theorem dX6_receivePoint_16 : decode cX6_receivePoint 16 = .ok (.aload_n 0, 1) := by decide +kernel
theorem dX6_receivePoint_17 : decode cX6_receivePoint 17 = .ok (.getfield 84, 3) := by decide +kernel
theorem dX6_receivePoint_20 : decode cX6_receivePoint 20 = .ok (.if_icmp .le 16, 3) := by decide +kernel
theorem dX6_receivePoint_23 : decode cX6_receivePoint 23 = .ok (.aload_n 0, 1) := by decide +kernel
theorem dX6_receivePoint_24 : decode cX6_receivePoint 24 = .ok (.getfield 97, 3) := by decide +kernel
theorem dX6_receivePoint_27 : decode cX6_receivePoint 27 = .ok (.iload_n 1, 1) := by decide +kernel
theorem dX6_receivePoint_28 : decode cX6_receivePoint 28 = .ok (.if_icmp .lt 8, 3) := by decide +kernel
theorem dX6_receivePoint_31 : decode cX6_receivePoint 31 = .ok (.aload_n 0, 1) := by decide +kernel
theorem dX6_receivePoint_32 : decode cX6_receivePoint 32 = .ok (.iload_n 1, 1) := by decide +kernel
theorem dX6_receivePoint_33 : decode cX6_receivePoint 33 = .ok (.putfield 84, 3) := by decide +kernel
theorem dX6_receivePoint_36 : decode cX6_receivePoint 36 = .ok (.return_, 1) := by decide +kernel
theorem dX6_receiveTurned_0 : decode cX6_receiveTurned 0 = .ok (.aload_n 0, 1) := by decide +kernel
theorem dX6_receiveTurned_1 : decode cX6_receiveTurned 1 = .ok (.getfield 25, 3) := by decide +kernel
theorem dX6_receiveTurned_4 : decode cX6_receiveTurned 4 = .ok (.iconst 2, 1) := by decide +kernel
theorem dX6_receiveTurned_5 : decode cX6_receiveTurned 5 = .ok (.if_icmp .eq 14, 3) := by decide +kernel
theorem dX6_receiveTurned_8 : decode cX6_receiveTurned 8 = .ok (.aload_n 0, 1) := by decide +kernel
theorem dX6_receiveTurned_9 : decode cX6_receiveTurned 9 = .ok (.bipush 10, 2) := by decide +kernel
theorem dX6_receiveTurned_11 : decode cX6_receiveTurned 11 = .ok (.aload_n 1, 1) := by decide +kernel
theorem dX6_receiveTurned_12 : decode cX6_receiveTurned 12 = .ok (.getfield 165, 3) := by decide +kernel
theorem dX6_receiveTurned_15 : decode cX6_receiveTurned 15 = .ok (.invokevirtual 220, 3) := by decide +kernel
theorem dX6_receiveTurned_18 : decode cX6_receiveTurned 18 = .ok (.return_, 1) := by decide +kernel
theorem dX6_receiveTurned_19 : decode cX6_receiveTurned 19 = .ok (.aload_n 0, 1) := by decide +kernel
theorem dX6_receiveTurned_20 : decode cX6_receiveTurned 20 = .ok (.getfield 64, 3) := by decide +kernel
theorem dX6_receiveTurned_23 : decode cX6_receiveTurned 23 = .ok (.aload_n 1, 1) := by decide +kernel
theorem dX6_receiveTurned_24 : decode cX6_receiveTurned 24 = .ok (.invokevirtual 223, 3) := by decide +kernel
theorem dX6_receiveTurned_27 : decode cX6_receiveTurned 27 = .ok (.aload_n 0, 1) := by decide +kernel
theorem dX6_receiveTurned_28 : decode cX6_receiveTurned 28 = .ok (.aload_n 0, 1) := by decide +kernel
theorem dX6_receiveTurned_29 : decode cX6_receiveTurned 29 = .ok (.getfield 64, 3) := by decide +kernel
theorem dX6_receiveTurned_32 : decode cX6_receiveTurned 32 = .ok (.getfield 226, 3) := by decide +kernel
theorem dX6_receiveTurned_35 : decode cX6_receiveTurned 35 = .ok (.invokevirtual 203, 3) := by decide +kernel
theorem dX6_receiveTurned_38 : decode cX6_receiveTurned 38 = .ok (.ifCond .eq 17, 3) := by decide +kernel
theorem dX6_receiveTurned_41 : decode cX6_receiveTurned 41 = .ok (.aload_n 0, 1) := by decide +kernel
theorem dX6_receiveTurned_42 : decode cX6_receiveTurned 42 = .ok (.invokevirtual 229, 3) := by decide +kernel
theorem dX6_receiveTurned_45 : decode cX6_receiveTurned 45 = .ok (.aload_n 0, 1) := by decide +kernel
theorem dX6_receiveTurned_46 : decode cX6_receiveTurned 46 = .ok (.invokevirtual 232, 3) := by decide +kernel
theorem dX6_receiveTurned_49 : decode cX6_receiveTurned 49 = .ok (.aload_n 0, 1) := by decide +kernel
theorem dX6_receiveTurned_50 : decode cX6_receiveTurned 50 = .ok (.bipush 10, 2) := by decide +kernel
theorem dX6_receiveTurned_52 : decode cX6_receiveTurned 52 = .ok (.invokevirtual 235, 3) := by decide +kernel
theorem dX6_receiveTurned_55 : decode cX6_receiveTurned 55 = .ok (.return_, 1) := by decide +kernel
theorem dX6_receiveStart_0 : decode cX6_receiveStart 0 = .ok (.aload_n 0, 1) := by decide +kernel
theorem dX6_receiveStart_1 : decode cX6_receiveStart 1 = .ok (.getfield 34, 3) := by decide +kernel
theorem dX6_receiveStart_4 : decode cX6_receiveStart 4 = .ok (.aload_n 1, 1) := by decide +kernel
theorem dX6_receiveStart_5 : decode cX6_receiveStart 5 = .ok (.getfield 150, 3) := by decide +kernel
theorem dX6_receiveStart_8 : decode cX6_receiveStart 8 = .ok (.invokevirtual 155, 3) := by decide +kernel
theorem dX6_receiveStart_11 : decode cX6_receiveStart 11 = .ok (.ifCond .ne 25, 3) := by decide +kernel
theorem dX6_receiveStart_14 : decode cX6_receiveStart 14 = .ok (.aload_n 1, 1) := by decide +kernel
theorem dX6_receiveStart_15 : decode cX6_receiveStart 15 = .ok (.getfield 150, 3) := by decide +kernel
theorem dX6_receiveStart_18 : decode cX6_receiveStart 18 = .ok (.aload_n 0, 1) := by decide +kernel
theorem dX6_receiveStart_19 : decode cX6_receiveStart 19 = .ok (.getfield 34, 3) := by decide +kernel
theorem dX6_receiveStart_22 : decode cX6_receiveStart 22 = .ok (.invokevirtual 151, 3) := by decide +kernel
theorem dX6_receiveStart_25 : decode cX6_receiveStart 25 = .ok (.ifCond .eq 42, 3) := by decide +kernel
theorem dX6_receiveStart_28 : decode cX6_receiveStart 28 = .ok (.aload_n 0, 1) := by decide +kernel
theorem dX6_receiveStart_29 : decode cX6_receiveStart 29 = .ok (.getfield 25, 3) := by decide +kernel
theorem dX6_receiveStart_32 : decode cX6_receiveStart 32 = .ok (.iconst 2, 1) := by decide +kernel
theorem dX6_receiveStart_33 : decode cX6_receiveStart 33 = .ok (.if_icmp .ne 34, 3) := by decide +kernel
theorem dX6_receiveStart_36 : decode cX6_receiveStart 36 = .ok (.aload_n 0, 1) := by decide +kernel
theorem dX6_receiveStart_37 : decode cX6_receiveStart 37 = .ok (.aload_n 1, 1) := by decide +kernel
theorem dX6_receiveStart_38 : decode cX6_receiveStart 38 = .ok (.getfield 150, 3) := by decide +kernel
theorem dX6_receiveStart_41 : decode cX6_receiveStart 41 = .ok (.putfield 34, 3) := by decide +kernel
theorem dX6_receiveStart_44 : decode cX6_receiveStart 44 = .ok (.aload_n 0, 1) := by decide +kernel
theorem dX6_receiveStart_45 : decode cX6_receiveStart 45 = .ok (.aload_n 1, 1) := by decide +kernel
theorem dX6_receiveStart_46 : decode cX6_receiveStart 46 = .ok (.getfield 238, 3) := by decide +kernel
theorem dX6_receiveStart_49 : decode cX6_receiveStart 49 = .ok (.putfield 124, 3) := by decide +kernel
theorem dX6_receiveStart_52 : decode cX6_receiveStart 52 = .ok (.aload_n 0, 1) := by decide +kernel
theorem dX6_receiveStart_53 : decode cX6_receiveStart 53 = .ok (.getfield 12, 3) := by decide +kernel
theorem dX6_receiveStart_56 : decode cX6_receiveStart 56 = .ok (.aload_n 1, 1) := by decide +kernel
theorem dX6_receiveStart_57 : decode cX6_receiveStart 57 = .ok (.getfield 206, 3) := by decide +kernel
theorem dX6_receiveStart_60 : decode cX6_receiveStart 60 = .ok (.invokevirtual 239, 3) := by decide +kernel
theorem dX6_receiveStart_63 : decode cX6_receiveStart 63 = .ok (.aload_n 0, 1) := by decide +kernel
theorem dX6_receiveStart_64 : decode cX6_receiveStart 64 = .ok (.invokevirtual 232, 3) := by decide +kernel
theorem dX6_receiveStart_67 : decode cX6_receiveStart 67 = .ok (.return_, 1) := by decide +kernel
theorem dX6_becomeNormal_0 : decode cX6_becomeNormal 0 = .ok (.aload_n 0, 1) := by decide +kernel
theorem dX6_becomeNormal_1 : decode cX6_becomeNormal 1 = .ok (.iconst 0, 1) := by decide +kernel
theorem dX6_becomeNormal_2 : decode cX6_becomeNormal 2 = .ok (.putfield 25, 3) := by decide +kernel
theorem dX6_becomeNormal_5 : decode cX6_becomeNormal 5 = .ok (.aload_n 0, 1) := by decide +kernel
theorem dX6_becomeNormal_6 : decode cX6_becomeNormal 6 = .ok (.aload_n 0, 1) := by decide +kernel
theorem dX6_becomeNormal_7 : decode cX6_becomeNormal 7 = .ok (.getfield 34, 3) := by decide +kernel
theorem dX6_becomeNormal_10 : decode cX6_becomeNormal 10 = .ok (.putfield 38, 3) := by decide +kernel
theorem dX6_becomeNormal_13 : decode cX6_becomeNormal 13 = .ok (.aload_n 0, 1) := by decide +kernel
theorem dX6_becomeNormal_14 : decode cX6_becomeNormal 14 = .ok (.invokevirtual 94, 3) := by decide +kernel
theorem dX6_becomeNormal_17 : decode cX6_becomeNormal 17 = .ok (.aload_n 0, 1) := by decide +kernel
theorem dX6_becomeNormal_18 : decode cX6_becomeNormal 18 = .ok (.iconst 0, 1) := by decide +kernel
theorem dX6_becomeNormal_19 : decode cX6_becomeNormal 19 = .ok (.putfield 97, 3) := by decide +kernel
theorem dX6_becomeNormal_22 : decode cX6_becomeNormal 22 = .ok (.return_, 1) := by decide +kernel
theorem dX6_takeHeld_0 : decode cX6_takeHeld 0 = .ok (.aload_n 0, 1) := by decide +kernel
theorem dX6_takeHeld_1 : decode cX6_takeHeld 1 = .ok (.getfield 12, 3) := by decide +kernel
theorem dX6_takeHeld_4 : decode cX6_takeHeld 4 = .ok (.getfield 81, 3) := by decide +kernel
theorem dX6_takeHeld_7 : decode cX6_takeHeld 7 = .ok (.iconst 1, 1) := by decide +kernel
theorem dX6_takeHeld_8 : decode cX6_takeHeld 8 = .ok (.iadd, 1) := by decide +kernel
theorem dX6_takeHeld_9 : decode cX6_takeHeld 9 = .ok (.istore_n 1, 1) := by decide +kernel
theorem dX6_takeHeld_10 : decode cX6_takeHeld 10 = .ok (.iload_n 1, 1) := by decide +kernel
theorem dX6_takeHeld_11 : decode cX6_takeHeld 11 = .ok (.bipush 100, 2) := by decide +kernel
theorem dX6_takeHeld_13 : decode cX6_takeHeld 13 = .ok (.if_icmp .gt 44, 3) := by decide +kernel
theorem dX6_takeHeld_16 : decode cX6_takeHeld 16 = .ok (.aload_n 0, 1) := by decide +kernel
theorem dX6_takeHeld_17 : decode cX6_takeHeld 17 = .ok (.getfield 21, 3) := by decide +kernel
theorem dX6_takeHeld_20 : decode cX6_takeHeld 20 = .ok (.iload_n 1, 1) := by decide +kernel
theorem dX6_takeHeld_21 : decode cX6_takeHeld 21 = .ok (.invokevirtual 130, 3) := by decide +kernel
theorem dX6_takeHeld_24 : decode cX6_takeHeld 24 = .ok (.ifCond .eq 33, 3) := by decide +kernel
theorem dX6_takeHeld_27 : decode cX6_takeHeld 27 = .ok (.aload_n 0, 1) := by decide +kernel
theorem dX6_takeHeld_28 : decode cX6_takeHeld 28 = .ok (.getfield 21, 3) := by decide +kernel
theorem dX6_takeHeld_31 : decode cX6_takeHeld 31 = .ok (.iload_n 1, 1) := by decide +kernel
theorem dX6_takeHeld_32 : decode cX6_takeHeld 32 = .ok (.invokevirtual 196, 3) := by decide +kernel
theorem dX6_takeHeld_35 : decode cX6_takeHeld 35 = .ok (.istore_n 2, 1) := by decide +kernel
theorem dX6_takeHeld_36 : decode cX6_takeHeld 36 = .ok (.aload_n 0, 1) := by decide +kernel
theorem dX6_takeHeld_37 : decode cX6_takeHeld 37 = .ok (.getfield 12, 3) := by decide +kernel
theorem dX6_takeHeld_40 : decode cX6_takeHeld 40 = .ok (.iload_n 1, 1) := by decide +kernel
theorem dX6_takeHeld_41 : decode cX6_takeHeld 41 = .ok (.iload_n 2, 1) := by decide +kernel
theorem dX6_takeHeld_42 : decode cX6_takeHeld 42 = .ok (.invokevirtual 199, 3) := by decide +kernel
theorem dX6_takeHeld_45 : decode cX6_takeHeld 45 = .ok (.aload_n 0, 1) := by decide +kernel
theorem dX6_takeHeld_46 : decode cX6_takeHeld 46 = .ok (.iload_n 1, 1) := by decide +kernel
theorem dX6_takeHeld_47 : decode cX6_takeHeld 47 = .ok (.iload_n 2, 1) := by decide +kernel
theorem dX6_takeHeld_48 : decode cX6_takeHeld 48 = .ok (.invokevirtual 243, 3) := by decide +kernel
theorem dX6_takeHeld_51 : decode cX6_takeHeld 51 = .ok (.iinc 1 1, 3) := by decide +kernel
theorem dX6_takeHeld_54 : decode cX6_takeHeld 54 = .ok (.goto (-44), 3) := by decide +kernel
theorem dX6_takeHeld_57 : decode cX6_takeHeld 57 = .ok (.aload_n 0, 1) := by decide +kernel
theorem dX6_takeHeld_58 : decode cX6_takeHeld 58 = .ok (.getfield 21, 3) := by decide +kernel
theorem dX6_takeHeld_61 : decode cX6_takeHeld 61 = .ok (.getfield 90, 3) := by decide +kernel
theorem dX6_takeHeld_64 : decode cX6_takeHeld 64 = .ok (.ifCond .eq 13, 3) := by decide +kernel
theorem dX6_takeHeld_67 : decode cX6_takeHeld 67 = .ok (.aload_n 0, 1) := by decide +kernel
theorem dX6_takeHeld_68 : decode cX6_takeHeld 68 = .ok (.getfield 12, 3) := by decide +kernel
theorem dX6_takeHeld_71 : decode cX6_takeHeld 71 = .ok (.invokevirtual 193, 3) := by decide +kernel
theorem dX6_takeHeld_74 : decode cX6_takeHeld 74 = .ok (.ifCond .eq 4, 3) := by decide +kernel
theorem dX6_takeHeld_77 : decode cX6_takeHeld 77 = .ok (.return_, 1) := by decide +kernel
theorem dX6_takeHeld_78 : decode cX6_takeHeld 78 = .ok (.aload_n 0, 1) := by decide +kernel
theorem dX6_takeHeld_79 : decode cX6_takeHeld 79 = .ok (.invokevirtual 77, 3) := by decide +kernel
theorem dX6_takeHeld_82 : decode cX6_takeHeld 82 = .ok (.ifCond .eq 48, 3) := by decide +kernel
theorem dX6_takeHeld_85 : decode cX6_takeHeld 85 = .ok (.aload_n 0, 1) := by decide +kernel
theorem dX6_takeHeld_86 : decode cX6_takeHeld 86 = .ok (.getfield 12, 3) := by decide +kernel
theorem dX6_takeHeld_89 : decode cX6_takeHeld 89 = .ok (.aload_n 0, 1) := by decide +kernel
theorem dX6_takeHeld_90 : decode cX6_takeHeld 90 = .ok (.getfield 12, 3) := by decide +kernel
theorem dX6_takeHeld_93 : decode cX6_takeHeld 93 = .ok (.getfield 81, 3) := by decide +kernel
theorem dX6_takeHeld_96 : decode cX6_takeHeld 96 = .ok (.iconst 1, 1) := by decide +kernel
theorem dX6_takeHeld_97 : decode cX6_takeHeld 97 = .ok (.iadd, 1) := by decide +kernel
theorem dX6_takeHeld_98 : decode cX6_takeHeld 98 = .ok (.iconst 0, 1) := by decide +kernel
theorem dX6_takeHeld_99 : decode cX6_takeHeld 99 = .ok (.invokevirtual 199, 3) := by decide +kernel
theorem dX6_takeHeld_102 : decode cX6_takeHeld 102 = .ok (.aload_n 0, 1) := by decide +kernel
theorem dX6_takeHeld_103 : decode cX6_takeHeld 103 = .ok (.iconst 1, 1) := by decide +kernel
theorem dX6_takeHeld_104 : decode cX6_takeHeld 104 = .ok (.putfield 25, 3) := by decide +kernel
theorem dX6_takeHeld_107 : decode cX6_takeHeld 107 = .ok (.aload_n 0, 1) := by decide +kernel
theorem dX6_takeHeld_108 : decode cX6_takeHeld 108 = .ok (.getfield 64, 3) := by decide +kernel
theorem dX6_takeHeld_111 : decode cX6_takeHeld 111 = .ok (.iconst 0, 1) := by decide +kernel
theorem dX6_takeHeld_112 : decode cX6_takeHeld 112 = .ok (.putfield 200, 3) := by decide +kernel
theorem dX6_takeHeld_115 : decode cX6_takeHeld 115 = .ok (.aload_n 0, 1) := by decide +kernel
theorem dX6_takeHeld_116 : decode cX6_takeHeld 116 = .ok (.iconst 3, 1) := by decide +kernel
theorem dX6_takeHeld_117 : decode cX6_takeHeld 117 = .ok (.aload_n 0, 1) := by decide +kernel
theorem dX6_takeHeld_118 : decode cX6_takeHeld 118 = .ok (.getfield 12, 3) := by decide +kernel
theorem dX6_takeHeld_121 : decode cX6_takeHeld 121 = .ok (.getfield 81, 3) := by decide +kernel
theorem dX6_takeHeld_124 : decode cX6_takeHeld 124 = .ok (.invokevirtual 103, 3) := by decide +kernel
theorem dX6_takeHeld_127 : decode cX6_takeHeld 127 = .ok (.goto 29, 3) := by decide +kernel
theorem dX6_takeHeld_130 : decode cX6_takeHeld 130 = .ok (.aload_n 0, 1) := by decide +kernel
theorem dX6_takeHeld_131 : decode cX6_takeHeld 131 = .ok (.iconst 1, 1) := by decide +kernel
theorem dX6_takeHeld_132 : decode cX6_takeHeld 132 = .ok (.aload_n 0, 1) := by decide +kernel
theorem dX6_takeHeld_133 : decode cX6_takeHeld 133 = .ok (.getfield 34, 3) := by decide +kernel
theorem dX6_takeHeld_136 : decode cX6_takeHeld 136 = .ok (.aload_n 0, 1) := by decide +kernel
theorem dX6_takeHeld_137 : decode cX6_takeHeld 137 = .ok (.getfield 44, 3) := by decide +kernel
theorem dX6_takeHeld_140 : decode cX6_takeHeld 140 = .ok (.invokevirtual 106, 3) := by decide +kernel
theorem dX6_takeHeld_143 : decode cX6_takeHeld 143 = .ok (.aload_n 0, 1) := by decide +kernel
theorem dX6_takeHeld_144 : decode cX6_takeHeld 144 = .ok (.getfield 12, 3) := by decide +kernel
theorem dX6_takeHeld_147 : decode cX6_takeHeld 147 = .ok (.getfield 81, 3) := by decide +kernel
theorem dX6_takeHeld_150 : decode cX6_takeHeld 150 = .ok (.iconst 1, 1) := by decide +kernel
theorem dX6_takeHeld_151 : decode cX6_takeHeld 151 = .ok (.iadd, 1) := by decide +kernel
theorem dX6_takeHeld_152 : decode cX6_takeHeld 152 = .ok (.invokevirtual 110, 3) := by decide +kernel
theorem dX6_takeHeld_155 : decode cX6_takeHeld 155 = .ok (.pop, 1) := by decide +kernel
theorem dX6_takeHeld_156 : decode cX6_takeHeld 156 = .ok (.return_, 1) := by decide +kernel
theorem dX6_reply_0 : decode cX6_reply 0 = .ok (.iconst 0, 1) := by decide +kernel
theorem dX6_reply_1 : decode cX6_reply 1 = .ok (.istore_n 3, 1) := by decide +kernel
theorem dX6_reply_2 : decode cX6_reply 2 = .ok (.aload_n 0, 1) := by decide +kernel
theorem dX6_reply_3 : decode cX6_reply 3 = .ok (.invokevirtual 77, 3) := by decide +kernel
theorem dX6_reply_6 : decode cX6_reply 6 = .ok (.ifCond .eq 42, 3) := by decide +kernel
theorem dX6_reply_9 : decode cX6_reply 9 = .ok (.aload_n 0, 1) := by decide +kernel
theorem dX6_reply_10 : decode cX6_reply 10 = .ok (.getfield 51, 3) := by decide +kernel
theorem dX6_reply_13 : decode cX6_reply 13 = .ok (.aload_n 0, 1) := by decide +kernel
theorem dX6_reply_14 : decode cX6_reply 14 = .ok (.getfield 12, 3) := by decide +kernel
theorem dX6_reply_17 : decode cX6_reply 17 = .ok (.aload_n 0, 1) := by decide +kernel
theorem dX6_reply_18 : decode cX6_reply 18 = .ok (.getfield 12, 3) := by decide +kernel
theorem dX6_reply_21 : decode cX6_reply 21 = .ok (.getfield 81, 3) := by decide +kernel
theorem dX6_reply_24 : decode cX6_reply 24 = .ok (.invokevirtual 246, 3) := by decide +kernel
theorem dX6_reply_27 : decode cX6_reply 27 = .ok (.aload_n 0, 1) := by decide +kernel
theorem dX6_reply_28 : decode cX6_reply 28 = .ok (.getfield 51, 3) := by decide +kernel
theorem dX6_reply_31 : decode cX6_reply 31 = .ok (.iload_n 2, 1) := by decide +kernel
theorem dX6_reply_32 : decode cX6_reply 32 = .ok (.invokevirtual 251, 3) := by decide +kernel
theorem dX6_reply_35 : decode cX6_reply 35 = .ok (.ifCond .ne 4, 3) := by decide +kernel
theorem dX6_reply_38 : decode cX6_reply 38 = .ok (.return_, 1) := by decide +kernel
theorem dX6_reply_39 : decode cX6_reply 39 = .ok (.aload_n 0, 1) := by decide +kernel
theorem dX6_reply_40 : decode cX6_reply 40 = .ok (.getfield 51, 3) := by decide +kernel
theorem dX6_reply_43 : decode cX6_reply 43 = .ok (.iload_n 2, 1) := by decide +kernel
theorem dX6_reply_44 : decode cX6_reply 44 = .ok (.invokevirtual 254, 3) := by decide +kernel
theorem dX6_reply_47 : decode cX6_reply 47 = .ok (.istore_n 3, 1) := by decide +kernel
theorem dX6_reply_48 : decode cX6_reply 48 = .ok (.aload_n 0, 1) := by decide +kernel
theorem dX6_reply_49 : decode cX6_reply 49 = .ok (.bipush 11, 2) := by decide +kernel
theorem dX6_reply_51 : decode cX6_reply 51 = .ok (.aload_n 0, 1) := by decide +kernel
theorem dX6_reply_52 : decode cX6_reply 52 = .ok (.getfield 47, 3) := by decide +kernel
theorem dX6_reply_55 : decode cX6_reply 55 = .ok (.getfield 257, 3) := by decide +kernel
theorem dX6_reply_58 : decode cX6_reply 58 = .ok (.iload_n 2, 1) := by decide +kernel
theorem dX6_reply_59 : decode cX6_reply 59 = .ok (.iaload, 1) := by decide +kernel
theorem dX6_reply_60 : decode cX6_reply 60 = .ok (.iload_n 1, 1) := by decide +kernel
theorem dX6_reply_61 : decode cX6_reply 61 = .ok (.invokevirtual 110, 3) := by decide +kernel
theorem dX6_reply_64 : decode cX6_reply 64 = .ok (.astore 4, 2) := by decide +kernel
theorem dX6_reply_66 : decode cX6_reply 66 = .ok (.aload 4, 2) := by decide +kernel
theorem dX6_reply_68 : decode cX6_reply 68 = .ok (.iload_n 2, 1) := by decide +kernel
theorem dX6_reply_69 : decode cX6_reply 69 = .ok (.putfield 134, 3) := by decide +kernel
theorem dX6_reply_72 : decode cX6_reply 72 = .ok (.aload 4, 2) := by decide +kernel
theorem dX6_reply_74 : decode cX6_reply 74 = .ok (.iload_n 3, 1) := by decide +kernel
theorem dX6_reply_75 : decode cX6_reply 75 = .ok (.putfield 263, 3) := by decide +kernel
theorem dX6_reply_78 : decode cX6_reply 78 = .ok (.return_, 1) := by decide +kernel
theorem dX6_mergeLogs_0 : decode cX6_mergeLogs 0 = .ok (.aload_n 0, 1) := by decide +kernel
theorem dX6_mergeLogs_1 : decode cX6_mergeLogs 1 = .ok (.getfield 38, 3) := by decide +kernel
theorem dX6_mergeLogs_4 : decode cX6_mergeLogs 4 = .ok (.astore_n 1, 1) := by decide +kernel
theorem dX6_mergeLogs_5 : decode cX6_mergeLogs 5 = .ok (.iconst 0, 1) := by decide +kernel
theorem dX6_mergeLogs_6 : decode cX6_mergeLogs 6 = .ok (.istore_n 2, 1) := by decide +kernel
theorem dX6_mergeLogs_7 : decode cX6_mergeLogs 7 = .ok (.iload_n 2, 1) := by decide +kernel
theorem dX6_mergeLogs_8 : decode cX6_mergeLogs 8 = .ok (.aload_n 0, 1) := by decide +kernel
theorem dX6_mergeLogs_9 : decode cX6_mergeLogs 9 = .ok (.getfield 44, 3) := by decide +kernel
theorem dX6_mergeLogs_12 : decode cX6_mergeLogs 12 = .ok (.if_icmp .ge 46, 3) := by decide +kernel
theorem dX6_mergeLogs_15 : decode cX6_mergeLogs 15 = .ok (.aload_n 0, 1) := by decide +kernel
theorem dX6_mergeLogs_16 : decode cX6_mergeLogs 16 = .ok (.getfield 64, 3) := by decide +kernel
theorem dX6_mergeLogs_19 : decode cX6_mergeLogs 19 = .ok (.iload_n 2, 1) := by decide +kernel
theorem dX6_mergeLogs_20 : decode cX6_mergeLogs 20 = .ok (.invokevirtual 266, 3) := by decide +kernel
theorem dX6_mergeLogs_23 : decode cX6_mergeLogs 23 = .ok (.ifCond .eq 29, 3) := by decide +kernel
theorem dX6_mergeLogs_26 : decode cX6_mergeLogs 26 = .ok (.aload_n 0, 1) := by decide +kernel
theorem dX6_mergeLogs_27 : decode cX6_mergeLogs 27 = .ok (.getfield 64, 3) := by decide +kernel
theorem dX6_mergeLogs_30 : decode cX6_mergeLogs 30 = .ok (.getfield 269, 3) := by decide +kernel
theorem dX6_mergeLogs_33 : decode cX6_mergeLogs 33 = .ok (.iload_n 2, 1) := by decide +kernel
theorem dX6_mergeLogs_34 : decode cX6_mergeLogs 34 = .ok (.aaload, 1) := by decide +kernel
theorem dX6_mergeLogs_35 : decode cX6_mergeLogs 35 = .ok (.aload_n 1, 1) := by decide +kernel
theorem dX6_mergeLogs_36 : decode cX6_mergeLogs 36 = .ok (.invokevirtual 273, 3) := by decide +kernel
theorem dX6_mergeLogs_39 : decode cX6_mergeLogs 39 = .ok (.ifCond .eq 13, 3) := by decide +kernel
theorem dX6_mergeLogs_42 : decode cX6_mergeLogs 42 = .ok (.aload_n 0, 1) := by decide +kernel
theorem dX6_mergeLogs_43 : decode cX6_mergeLogs 43 = .ok (.getfield 64, 3) := by decide +kernel
theorem dX6_mergeLogs_46 : decode cX6_mergeLogs 46 = .ok (.getfield 269, 3) := by decide +kernel
theorem dX6_mergeLogs_49 : decode cX6_mergeLogs 49 = .ok (.iload_n 2, 1) := by decide +kernel
theorem dX6_mergeLogs_50 : decode cX6_mergeLogs 50 = .ok (.aaload, 1) := by decide +kernel
theorem dX6_mergeLogs_51 : decode cX6_mergeLogs 51 = .ok (.astore_n 1, 1) := by decide +kernel
theorem dX6_mergeLogs_52 : decode cX6_mergeLogs 52 = .ok (.iinc 2 1, 3) := by decide +kernel
theorem dX6_mergeLogs_55 : decode cX6_mergeLogs 55 = .ok (.goto (-48), 3) := by decide +kernel
theorem dX6_mergeLogs_58 : decode cX6_mergeLogs 58 = .ok (.aload_n 0, 1) := by decide +kernel
theorem dX6_mergeLogs_59 : decode cX6_mergeLogs 59 = .ok (.getfield 38, 3) := by decide +kernel
theorem dX6_mergeLogs_62 : decode cX6_mergeLogs 62 = .ok (.aload_n 1, 1) := by decide +kernel
theorem dX6_mergeLogs_63 : decode cX6_mergeLogs 63 = .ok (.invokevirtual 151, 3) := by decide +kernel
theorem dX6_mergeLogs_66 : decode cX6_mergeLogs 66 = .ok (.istore_n 2, 1) := by decide +kernel
theorem dX6_mergeLogs_67 : decode cX6_mergeLogs 67 = .ok (.iload_n 2, 1) := by decide +kernel
theorem dX6_mergeLogs_68 : decode cX6_mergeLogs 68 = .ok (.ifCond .ne 11, 3) := by decide +kernel
theorem dX6_mergeLogs_71 : decode cX6_mergeLogs 71 = .ok (.aload_n 0, 1) := by decide +kernel
theorem dX6_mergeLogs_72 : decode cX6_mergeLogs 72 = .ok (.getfield 12, 3) := by decide +kernel
theorem dX6_mergeLogs_75 : decode cX6_mergeLogs 75 = .ok (.iconst 0, 1) := by decide +kernel
theorem dX6_mergeLogs_76 : decode cX6_mergeLogs 76 = .ok (.putfield 81, 3) := by decide +kernel
theorem dX6_mergeLogs_79 : decode cX6_mergeLogs 79 = .ok (.iconst (-1), 1) := by decide +kernel
theorem dX6_mergeLogs_80 : decode cX6_mergeLogs 80 = .ok (.istore_n 3, 1) := by decide +kernel
theorem dX6_mergeLogs_81 : decode cX6_mergeLogs 81 = .ok (.aload_n 0, 1) := by decide +kernel
theorem dX6_mergeLogs_82 : decode cX6_mergeLogs 82 = .ok (.getfield 12, 3) := by decide +kernel
theorem dX6_mergeLogs_85 : decode cX6_mergeLogs 85 = .ok (.getfield 81, 3) := by decide +kernel
theorem dX6_mergeLogs_88 : decode cX6_mergeLogs 88 = .ok (.istore 4, 2) := by decide +kernel
theorem dX6_mergeLogs_90 : decode cX6_mergeLogs 90 = .ok (.aload_n 0, 1) := by decide +kernel
theorem dX6_mergeLogs_91 : decode cX6_mergeLogs 91 = .ok (.getfield 44, 3) := by decide +kernel
theorem dX6_mergeLogs_94 : decode cX6_mergeLogs 94 = .ok (.iconst 1, 1) := by decide +kernel
theorem dX6_mergeLogs_95 : decode cX6_mergeLogs 95 = .ok (.isub, 1) := by decide +kernel
theorem dX6_mergeLogs_96 : decode cX6_mergeLogs 96 = .ok (.istore 5, 2) := by decide +kernel
theorem dX6_mergeLogs_98 : decode cX6_mergeLogs 98 = .ok (.iload 5, 2) := by decide +kernel
theorem dX6_mergeLogs_100 : decode cX6_mergeLogs 100 = .ok (.ifCond .lt 42, 3) := by decide +kernel
theorem dX6_mergeLogs_103 : decode cX6_mergeLogs 103 = .ok (.aload_n 0, 1) := by decide +kernel
theorem dX6_mergeLogs_104 : decode cX6_mergeLogs 104 = .ok (.iload 5, 2) := by decide +kernel
theorem dX6_mergeLogs_106 : decode cX6_mergeLogs 106 = .ok (.aload_n 1, 1) := by decide +kernel
theorem dX6_mergeLogs_107 : decode cX6_mergeLogs 107 = .ok (.invokevirtual 276, 3) := by decide +kernel
theorem dX6_mergeLogs_110 : decode cX6_mergeLogs 110 = .ok (.ifCond .eq 26, 3) := by decide +kernel
theorem dX6_mergeLogs_113 : decode cX6_mergeLogs 113 = .ok (.iload 5, 2) := by decide +kernel
theorem dX6_mergeLogs_115 : decode cX6_mergeLogs 115 = .ok (.istore_n 3, 1) := by decide +kernel
theorem dX6_mergeLogs_116 : decode cX6_mergeLogs 116 = .ok (.iload 4, 2) := by decide +kernel
theorem dX6_mergeLogs_118 : decode cX6_mergeLogs 118 = .ok (.aload_n 0, 1) := by decide +kernel
theorem dX6_mergeLogs_119 : decode cX6_mergeLogs 119 = .ok (.getfield 64, 3) := by decide +kernel
theorem dX6_mergeLogs_122 : decode cX6_mergeLogs 122 = .ok (.getfield 280, 3) := by decide +kernel
theorem dX6_mergeLogs_125 : decode cX6_mergeLogs 125 = .ok (.iload 5, 2) := by decide +kernel
theorem dX6_mergeLogs_127 : decode cX6_mergeLogs 127 = .ok (.aaload, 1) := by decide +kernel
theorem dX6_mergeLogs_128 : decode cX6_mergeLogs 128 = .ok (.getfield 81, 3) := by decide +kernel
theorem dX6_mergeLogs_131 : decode cX6_mergeLogs 131 = .ok (.invokestatic 211, 3) := by decide +kernel
theorem dX6_mergeLogs_134 : decode cX6_mergeLogs 134 = .ok (.istore 4, 2) := by decide +kernel
theorem dX6_mergeLogs_136 : decode cX6_mergeLogs 136 = .ok (.iinc 5 (-1), 3) := by decide +kernel
theorem dX6_mergeLogs_139 : decode cX6_mergeLogs 139 = .ok (.goto (-41), 3) := by decide +kernel
theorem dX6_mergeLogs_142 : decode cX6_mergeLogs 142 = .ok (.iconst 1, 1) := by decide +kernel
theorem dX6_mergeLogs_143 : decode cX6_mergeLogs 143 = .ok (.istore 5, 2) := by decide +kernel
theorem dX6_mergeLogs_145 : decode cX6_mergeLogs 145 = .ok (.iload 5, 2) := by decide +kernel
theorem dX6_mergeLogs_147 : decode cX6_mergeLogs 147 = .ok (.iload 4, 2) := by decide +kernel
theorem dX6_mergeLogs_149 : decode cX6_mergeLogs 149 = .ok (.if_icmp .gt 25, 3) := by decide +kernel
theorem dX6_mergeLogs_152 : decode cX6_mergeLogs 152 = .ok (.aload_n 0, 1) := by decide +kernel
theorem dX6_mergeLogs_153 : decode cX6_mergeLogs 153 = .ok (.getfield 12, 3) := by decide +kernel
theorem dX6_mergeLogs_156 : decode cX6_mergeLogs 156 = .ok (.iload 5, 2) := by decide +kernel
theorem dX6_mergeLogs_158 : decode cX6_mergeLogs 158 = .ok (.aload_n 0, 1) := by decide +kernel
theorem dX6_mergeLogs_159 : decode cX6_mergeLogs 159 = .ok (.iload 5, 2) := by decide +kernel
theorem dX6_mergeLogs_161 : decode cX6_mergeLogs 161 = .ok (.aload_n 1, 1) := by decide +kernel
theorem dX6_mergeLogs_162 : decode cX6_mergeLogs 162 = .ok (.invokevirtual 284, 3) := by decide +kernel
theorem dX6_mergeLogs_165 : decode cX6_mergeLogs 165 = .ok (.invokevirtual 199, 3) := by decide +kernel
theorem dX6_mergeLogs_168 : decode cX6_mergeLogs 168 = .ok (.iinc 5 1, 3) := by decide +kernel
theorem dX6_mergeLogs_171 : decode cX6_mergeLogs 171 = .ok (.goto (-26), 3) := by decide +kernel
theorem dX6_mergeLogs_174 : decode cX6_mergeLogs 174 = .ok (.aload_n 1, 1) := by decide +kernel
theorem dX6_mergeLogs_175 : decode cX6_mergeLogs 175 = .ok (.getfield 119, 3) := by decide +kernel
theorem dX6_mergeLogs_178 : decode cX6_mergeLogs 178 = .ok (.aload_n 0, 1) := by decide +kernel
theorem dX6_mergeLogs_179 : decode cX6_mergeLogs 179 = .ok (.getfield 34, 3) := by decide +kernel
theorem dX6_mergeLogs_182 : decode cX6_mergeLogs 182 = .ok (.getfield 119, 3) := by decide +kernel
theorem dX6_mergeLogs_185 : decode cX6_mergeLogs 185 = .ok (.if_icmp .eq 12, 3) := by decide +kernel
theorem dX6_mergeLogs_188 : decode cX6_mergeLogs 188 = .ok (.aload_n 0, 1) := by decide +kernel
theorem dX6_mergeLogs_189 : decode cX6_mergeLogs 189 = .ok (.iload 4, 2) := by decide +kernel
theorem dX6_mergeLogs_191 : decode cX6_mergeLogs 191 = .ok (.putfield 124, 3) := by decide +kernel
theorem dX6_mergeLogs_194 : decode cX6_mergeLogs 194 = .ok (.goto 25, 3) := by decide +kernel
theorem dX6_mergeLogs_197 : decode cX6_mergeLogs 197 = .ok (.iload_n 2, 1) := by decide +kernel
theorem dX6_mergeLogs_198 : decode cX6_mergeLogs 198 = .ok (.ifCond .ne 21, 3) := by decide +kernel
theorem dX6_mergeLogs_201 : decode cX6_mergeLogs 201 = .ok (.iload_n 3, 1) := by decide +kernel
theorem dX6_mergeLogs_202 : decode cX6_mergeLogs 202 = .ok (.iconst (-1), 1) := by decide +kernel
theorem dX6_mergeLogs_203 : decode cX6_mergeLogs 203 = .ok (.if_icmp .eq 16, 3) := by decide +kernel
theorem dX6_mergeLogs_206 : decode cX6_mergeLogs 206 = .ok (.aload_n 0, 1) := by decide +kernel
theorem dX6_mergeLogs_207 : decode cX6_mergeLogs 207 = .ok (.aload_n 0, 1) := by decide +kernel
theorem dX6_mergeLogs_208 : decode cX6_mergeLogs 208 = .ok (.getfield 64, 3) := by decide +kernel
theorem dX6_mergeLogs_211 : decode cX6_mergeLogs 211 = .ok (.getfield 288, 3) := by decide +kernel
theorem dX6_mergeLogs_214 : decode cX6_mergeLogs 214 = .ok (.iload_n 3, 1) := by decide +kernel
theorem dX6_mergeLogs_215 : decode cX6_mergeLogs 215 = .ok (.iaload, 1) := by decide +kernel
theorem dX6_mergeLogs_216 : decode cX6_mergeLogs 216 = .ok (.putfield 124, 3) := by decide +kernel
theorem dX6_mergeLogs_219 : decode cX6_mergeLogs 219 = .ok (.return_, 1) := by decide +kernel
theorem dX6_isMerged_0 : decode cX6_isMerged 0 = .ok (.aload_n 0, 1) := by decide +kernel
theorem dX6_isMerged_1 : decode cX6_isMerged 1 = .ok (.getfield 64, 3) := by decide +kernel
theorem dX6_isMerged_4 : decode cX6_isMerged 4 = .ok (.iload_n 1, 1) := by decide +kernel
theorem dX6_isMerged_5 : decode cX6_isMerged 5 = .ok (.invokevirtual 266, 3) := by decide +kernel
theorem dX6_isMerged_8 : decode cX6_isMerged 8 = .ok (.ifCond .eq 23, 3) := by decide +kernel
theorem dX6_isMerged_11 : decode cX6_isMerged 11 = .ok (.aload_n 0, 1) := by decide +kernel
theorem dX6_isMerged_12 : decode cX6_isMerged 12 = .ok (.getfield 64, 3) := by decide +kernel
theorem dX6_isMerged_15 : decode cX6_isMerged 15 = .ok (.getfield 269, 3) := by decide +kernel
theorem dX6_isMerged_18 : decode cX6_isMerged 18 = .ok (.iload_n 1, 1) := by decide +kernel
theorem dX6_isMerged_19 : decode cX6_isMerged 19 = .ok (.aaload, 1) := by decide +kernel
theorem dX6_isMerged_20 : decode cX6_isMerged 20 = .ok (.aload_n 2, 1) := by decide +kernel
theorem dX6_isMerged_21 : decode cX6_isMerged 21 = .ok (.invokevirtual 151, 3) := by decide +kernel
theorem dX6_isMerged_24 : decode cX6_isMerged 24 = .ok (.ifCond .eq 7, 3) := by decide +kernel
theorem dX6_isMerged_27 : decode cX6_isMerged 27 = .ok (.iconst 1, 1) := by decide +kernel
theorem dX6_isMerged_28 : decode cX6_isMerged 28 = .ok (.goto 4, 3) := by decide +kernel
theorem dX6_isMerged_31 : decode cX6_isMerged 31 = .ok (.iconst 0, 1) := by decide +kernel
theorem dX6_isMerged_32 : decode cX6_isMerged 32 = .ok (.ireturn, 1) := by decide +kernel
theorem dX6_mergedEntry_0 : decode cX6_mergedEntry 0 = .ok (.aload_n 0, 1) := by decide +kernel
theorem dX6_mergedEntry_1 : decode cX6_mergedEntry 1 = .ok (.getfield 12, 3) := by decide +kernel
theorem dX6_mergedEntry_4 : decode cX6_mergedEntry 4 = .ok (.iload_n 1, 1) := by decide +kernel
theorem dX6_mergedEntry_5 : decode cX6_mergedEntry 5 = .ok (.invokevirtual 189, 3) := by decide +kernel
theorem dX6_mergedEntry_8 : decode cX6_mergedEntry 8 = .ok (.istore_n 3, 1) := by decide +kernel
theorem dX6_mergedEntry_9 : decode cX6_mergedEntry 9 = .ok (.aload_n 0, 1) := by decide +kernel
theorem dX6_mergedEntry_10 : decode cX6_mergedEntry 10 = .ok (.getfield 12, 3) := by decide +kernel
theorem dX6_mergedEntry_13 : decode cX6_mergedEntry 13 = .ok (.iload_n 1, 1) := by decide +kernel
theorem dX6_mergedEntry_14 : decode cX6_mergedEntry 14 = .ok (.invokevirtual 190, 3) := by decide +kernel
theorem dX6_mergedEntry_17 : decode cX6_mergedEntry 17 = .ok (.istore 4, 2) := by decide +kernel
theorem dX6_mergedEntry_19 : decode cX6_mergedEntry 19 = .ok (.iconst 0, 1) := by decide +kernel
theorem dX6_mergedEntry_20 : decode cX6_mergedEntry 20 = .ok (.istore 5, 2) := by decide +kernel
theorem dX6_mergedEntry_22 : decode cX6_mergedEntry 22 = .ok (.iload 5, 2) := by decide +kernel
theorem dX6_mergedEntry_24 : decode cX6_mergedEntry 24 = .ok (.aload_n 0, 1) := by decide +kernel
theorem dX6_mergedEntry_25 : decode cX6_mergedEntry 25 = .ok (.getfield 44, 3) := by decide +kernel
theorem dX6_mergedEntry_28 : decode cX6_mergedEntry 28 = .ok (.if_icmp .ge 70, 3) := by decide +kernel
theorem dX6_mergedEntry_31 : decode cX6_mergedEntry 31 = .ok (.aload_n 0, 1) := by decide +kernel
theorem dX6_mergedEntry_32 : decode cX6_mergedEntry 32 = .ok (.iload 5, 2) := by decide +kernel
theorem dX6_mergedEntry_34 : decode cX6_mergedEntry 34 = .ok (.aload_n 2, 1) := by decide +kernel
theorem dX6_mergedEntry_35 : decode cX6_mergedEntry 35 = .ok (.invokevirtual 276, 3) := by decide +kernel
theorem dX6_mergedEntry_38 : decode cX6_mergedEntry 38 = .ok (.ifCond .eq 54, 3) := by decide +kernel
theorem dX6_mergedEntry_41 : decode cX6_mergedEntry 41 = .ok (.aload_n 0, 1) := by decide +kernel
theorem dX6_mergedEntry_42 : decode cX6_mergedEntry 42 = .ok (.getfield 64, 3) := by decide +kernel
theorem dX6_mergedEntry_45 : decode cX6_mergedEntry 45 = .ok (.getfield 280, 3) := by decide +kernel
theorem dX6_mergedEntry_48 : decode cX6_mergedEntry 48 = .ok (.iload 5, 2) := by decide +kernel
theorem dX6_mergedEntry_50 : decode cX6_mergedEntry 50 = .ok (.aaload, 1) := by decide +kernel
theorem dX6_mergedEntry_51 : decode cX6_mergedEntry 51 = .ok (.iload_n 1, 1) := by decide +kernel
theorem dX6_mergedEntry_52 : decode cX6_mergedEntry 52 = .ok (.invokevirtual 189, 3) := by decide +kernel
theorem dX6_mergedEntry_55 : decode cX6_mergedEntry 55 = .ok (.ifCond .ne 6, 3) := by decide +kernel
theorem dX6_mergedEntry_58 : decode cX6_mergedEntry 58 = .ok (.goto 34, 3) := by decide +kernel
theorem dX6_mergedEntry_61 : decode cX6_mergedEntry 61 = .ok (.aload_n 0, 1) := by decide +kernel
theorem dX6_mergedEntry_62 : decode cX6_mergedEntry 62 = .ok (.getfield 64, 3) := by decide +kernel
theorem dX6_mergedEntry_65 : decode cX6_mergedEntry 65 = .ok (.getfield 280, 3) := by decide +kernel
theorem dX6_mergedEntry_68 : decode cX6_mergedEntry 68 = .ok (.iload 5, 2) := by decide +kernel
theorem dX6_mergedEntry_70 : decode cX6_mergedEntry 70 = .ok (.aaload, 1) := by decide +kernel
theorem dX6_mergedEntry_71 : decode cX6_mergedEntry 71 = .ok (.iload_n 1, 1) := by decide +kernel
theorem dX6_mergedEntry_72 : decode cX6_mergedEntry 72 = .ok (.invokevirtual 190, 3) := by decide +kernel
theorem dX6_mergedEntry_75 : decode cX6_mergedEntry 75 = .ok (.istore 6, 2) := by decide +kernel
theorem dX6_mergedEntry_77 : decode cX6_mergedEntry 77 = .ok (.iload_n 3, 1) := by decide +kernel
theorem dX6_mergedEntry_78 : decode cX6_mergedEntry 78 = .ok (.ifCond .eq 8, 3) := by decide +kernel
theorem dX6_mergedEntry_81 : decode cX6_mergedEntry 81 = .ok (.iload 6, 2) := by decide +kernel
theorem dX6_mergedEntry_83 : decode cX6_mergedEntry 83 = .ok (.ifCond .ne 7, 3) := by decide +kernel
theorem dX6_mergedEntry_86 : decode cX6_mergedEntry 86 = .ok (.iload 6, 2) := by decide +kernel
theorem dX6_mergedEntry_88 : decode cX6_mergedEntry 88 = .ok (.istore 4, 2) := by decide +kernel
theorem dX6_mergedEntry_90 : decode cX6_mergedEntry 90 = .ok (.iconst 1, 1) := by decide +kernel
theorem dX6_mergedEntry_91 : decode cX6_mergedEntry 91 = .ok (.istore_n 3, 1) := by decide +kernel
theorem dX6_mergedEntry_92 : decode cX6_mergedEntry 92 = .ok (.iinc 5 1, 3) := by decide +kernel
theorem dX6_mergedEntry_95 : decode cX6_mergedEntry 95 = .ok (.goto (-73), 3) := by decide +kernel
theorem dX6_mergedEntry_98 : decode cX6_mergedEntry 98 = .ok (.iload 4, 2) := by decide +kernel
theorem dX6_mergedEntry_100 : decode cX6_mergedEntry 100 = .ok (.ireturn, 1) := by decide +kernel
theorem dX6_isEnough_0 : decode cX6_isEnough 0 = .ok (.iload_n 1, 1) := by decide +kernel
theorem dX6_isEnough_1 : decode cX6_isEnough 1 = .ok (.invokestatic 291, 3) := by decide +kernel
theorem dX6_isEnough_4 : decode cX6_isEnough 4 = .ok (.aload_n 0, 1) := by decide +kernel
theorem dX6_isEnough_5 : decode cX6_isEnough 5 = .ok (.getfield 44, 3) := by decide +kernel
theorem dX6_isEnough_8 : decode cX6_isEnough 8 = .ok (.iconst 2, 1) := by decide +kernel
theorem dX6_isEnough_9 : decode cX6_isEnough 9 = .ok (.idiv, 1) := by decide +kernel
theorem dX6_isEnough_10 : decode cX6_isEnough 10 = .ok (.if_icmp .lt 7, 3) := by decide +kernel
theorem dX6_isEnough_13 : decode cX6_isEnough 13 = .ok (.iconst 1, 1) := by decide +kernel
theorem dX6_isEnough_14 : decode cX6_isEnough 14 = .ok (.goto 4, 3) := by decide +kernel
theorem dX6_isEnough_17 : decode cX6_isEnough 17 = .ok (.iconst 0, 1) := by decide +kernel
theorem dX6_isEnough_18 : decode cX6_isEnough 18 = .ok (.ireturn, 1) := by decide +kernel
theorem dX6_sendTurns_0 : decode cX6_sendTurns 0 = .ok (.aload_n 0, 1) := by decide +kernel
theorem dX6_sendTurns_1 : decode cX6_sendTurns 1 = .ok (.bipush 8, 2) := by decide +kernel
theorem dX6_sendTurns_3 : decode cX6_sendTurns 3 = .ok (.iconst 0, 1) := by decide +kernel
theorem dX6_sendTurns_4 : decode cX6_sendTurns 4 = .ok (.invokevirtual 103, 3) := by decide +kernel
theorem dX6_sendTurns_7 : decode cX6_sendTurns 7 = .ok (.aload_n 0, 1) := by decide +kernel
theorem dX6_sendTurns_8 : decode cX6_sendTurns 8 = .ok (.invokevirtual 77, 3) := by decide +kernel
theorem dX6_sendTurns_11 : decode cX6_sendTurns 11 = .ok (.ifCond .ne 20, 3) := by decide +kernel
theorem dX6_sendTurns_14 : decode cX6_sendTurns 14 = .ok (.aload_n 0, 1) := by decide +kernel
theorem dX6_sendTurns_15 : decode cX6_sendTurns 15 = .ok (.bipush 9, 2) := by decide +kernel
theorem dX6_sendTurns_17 : decode cX6_sendTurns 17 = .ok (.aload_n 0, 1) := by decide +kernel
theorem dX6_sendTurns_18 : decode cX6_sendTurns 18 = .ok (.getfield 34, 3) := by decide +kernel
theorem dX6_sendTurns_21 : decode cX6_sendTurns 21 = .ok (.aload_n 0, 1) := by decide +kernel
theorem dX6_sendTurns_22 : decode cX6_sendTurns 22 = .ok (.getfield 44, 3) := by decide +kernel
theorem dX6_sendTurns_25 : decode cX6_sendTurns 25 = .ok (.invokevirtual 106, 3) := by decide +kernel
theorem dX6_sendTurns_28 : decode cX6_sendTurns 28 = .ok (.invokevirtual 220, 3) := by decide +kernel
theorem dX6_sendTurns_31 : decode cX6_sendTurns 31 = .ok (.return_, 1) := by decide +kernel
theorem dX6_sendToOthers_0 : decode cX6_sendToOthers 0 = .ok (.iconst 0, 1) := by decide +kernel
theorem dX6_sendToOthers_1 : decode cX6_sendToOthers 1 = .ok (.istore_n 3, 1) := by decide +kernel
theorem dX6_sendToOthers_2 : decode cX6_sendToOthers 2 = .ok (.iload_n 3, 1) := by decide +kernel
theorem dX6_sendToOthers_3 : decode cX6_sendToOthers 3 = .ok (.aload_n 0, 1) := by decide +kernel
theorem dX6_sendToOthers_4 : decode cX6_sendToOthers 4 = .ok (.getfield 44, 3) := by decide +kernel
theorem dX6_sendToOthers_7 : decode cX6_sendToOthers 7 = .ok (.if_icmp .ge 25, 3) := by decide +kernel
theorem dX6_sendToOthers_10 : decode cX6_sendToOthers 10 = .ok (.iload_n 3, 1) := by decide +kernel
theorem dX6_sendToOthers_11 : decode cX6_sendToOthers 11 = .ok (.aload_n 0, 1) := by decide +kernel
theorem dX6_sendToOthers_12 : decode cX6_sendToOthers 12 = .ok (.getfield 41, 3) := by decide +kernel
theorem dX6_sendToOthers_15 : decode cX6_sendToOthers 15 = .ok (.if_icmp .eq 11, 3) := by decide +kernel
theorem dX6_sendToOthers_18 : decode cX6_sendToOthers 18 = .ok (.aload_n 0, 1) := by decide +kernel
theorem dX6_sendToOthers_19 : decode cX6_sendToOthers 19 = .ok (.iload_n 1, 1) := by decide +kernel
theorem dX6_sendToOthers_20 : decode cX6_sendToOthers 20 = .ok (.iload_n 3, 1) := by decide +kernel
theorem dX6_sendToOthers_21 : decode cX6_sendToOthers 21 = .ok (.iload_n 2, 1) := by decide +kernel
theorem dX6_sendToOthers_22 : decode cX6_sendToOthers 22 = .ok (.invokevirtual 110, 3) := by decide +kernel
theorem dX6_sendToOthers_25 : decode cX6_sendToOthers 25 = .ok (.pop, 1) := by decide +kernel
theorem dX6_sendToOthers_26 : decode cX6_sendToOthers 26 = .ok (.iinc 3 1, 3) := by decide +kernel
theorem dX6_sendToOthers_29 : decode cX6_sendToOthers 29 = .ok (.goto (-27), 3) := by decide +kernel
theorem dX6_sendToOthers_32 : decode cX6_sendToOthers 32 = .ok (.return_, 1) := by decide +kernel
theorem dX6_sendLogToOthers_0 : decode cX6_sendLogToOthers 0 = .ok (.iconst 0, 1) := by decide +kernel
theorem dX6_sendLogToOthers_1 : decode cX6_sendLogToOthers 1 = .ok (.istore_n 2, 1) := by decide +kernel
theorem dX6_sendLogToOthers_2 : decode cX6_sendLogToOthers 2 = .ok (.iload_n 2, 1) := by decide +kernel
theorem dX6_sendLogToOthers_3 : decode cX6_sendLogToOthers 3 = .ok (.aload_n 0, 1) := by decide +kernel
theorem dX6_sendLogToOthers_4 : decode cX6_sendLogToOthers 4 = .ok (.getfield 44, 3) := by decide +kernel
theorem dX6_sendLogToOthers_7 : decode cX6_sendLogToOthers 7 = .ok (.if_icmp .ge 23, 3) := by decide +kernel
theorem dX6_sendLogToOthers_10 : decode cX6_sendLogToOthers 10 = .ok (.iload_n 2, 1) := by decide +kernel
theorem dX6_sendLogToOthers_11 : decode cX6_sendLogToOthers 11 = .ok (.aload_n 0, 1) := by decide +kernel
theorem dX6_sendLogToOthers_12 : decode cX6_sendLogToOthers 12 = .ok (.getfield 41, 3) := by decide +kernel
theorem dX6_sendLogToOthers_15 : decode cX6_sendLogToOthers 15 = .ok (.if_icmp .eq 9, 3) := by decide +kernel
theorem dX6_sendLogToOthers_18 : decode cX6_sendLogToOthers 18 = .ok (.aload_n 0, 1) := by decide +kernel
theorem dX6_sendLogToOthers_19 : decode cX6_sendLogToOthers 19 = .ok (.iload_n 1, 1) := by decide +kernel
theorem dX6_sendLogToOthers_20 : decode cX6_sendLogToOthers 20 = .ok (.iload_n 2, 1) := by decide +kernel
theorem dX6_sendLogToOthers_21 : decode cX6_sendLogToOthers 21 = .ok (.invokevirtual 220, 3) := by decide +kernel
theorem dX6_sendLogToOthers_24 : decode cX6_sendLogToOthers 24 = .ok (.iinc 2 1, 3) := by decide +kernel
theorem dX6_sendLogToOthers_27 : decode cX6_sendLogToOthers 27 = .ok (.goto (-25), 3) := by decide +kernel
theorem dX6_sendLogToOthers_30 : decode cX6_sendLogToOthers 30 = .ok (.return_, 1) := by decide +kernel
theorem dX6_sendLog_0 : decode cX6_sendLog 0 = .ok (.aload_n 0, 1) := by decide +kernel
theorem dX6_sendLog_1 : decode cX6_sendLog 1 = .ok (.iload_n 1, 1) := by decide +kernel
theorem dX6_sendLog_2 : decode cX6_sendLog 2 = .ok (.iload_n 2, 1) := by decide +kernel
theorem dX6_sendLog_3 : decode cX6_sendLog 3 = .ok (.aload_n 0, 1) := by decide +kernel
theorem dX6_sendLog_4 : decode cX6_sendLog 4 = .ok (.getfield 12, 3) := by decide +kernel
theorem dX6_sendLog_7 : decode cX6_sendLog 7 = .ok (.getfield 81, 3) := by decide +kernel
theorem dX6_sendLog_10 : decode cX6_sendLog 10 = .ok (.invokevirtual 110, 3) := by decide +kernel
theorem dX6_sendLog_13 : decode cX6_sendLog 13 = .ok (.astore_n 3, 1) := by decide +kernel
theorem dX6_sendLog_14 : decode cX6_sendLog 14 = .ok (.aload_n 3, 1) := by decide +kernel
theorem dX6_sendLog_15 : decode cX6_sendLog 15 = .ok (.aload_n 0, 1) := by decide +kernel
theorem dX6_sendLog_16 : decode cX6_sendLog 16 = .ok (.getfield 38, 3) := by decide +kernel
theorem dX6_sendLog_19 : decode cX6_sendLog 19 = .ok (.putfield 296, 3) := by decide +kernel
theorem dX6_sendLog_22 : decode cX6_sendLog 22 = .ok (.aload_n 3, 1) := by decide +kernel
theorem dX6_sendLog_23 : decode cX6_sendLog 23 = .ok (.aload_n 0, 1) := by decide +kernel
theorem dX6_sendLog_24 : decode cX6_sendLog 24 = .ok (.getfield 124, 3) := by decide +kernel
theorem dX6_sendLog_27 : decode cX6_sendLog 27 = .ok (.putfield 238, 3) := by decide +kernel
theorem dX6_sendLog_30 : decode cX6_sendLog 30 = .ok (.aload_n 3, 1) := by decide +kernel
theorem dX6_sendLog_31 : decode cX6_sendLog 31 = .ok (.getfield 206, 3) := by decide +kernel
theorem dX6_sendLog_34 : decode cX6_sendLog 34 = .ok (.aload_n 0, 1) := by decide +kernel
theorem dX6_sendLog_35 : decode cX6_sendLog 35 = .ok (.getfield 12, 3) := by decide +kernel
theorem dX6_sendLog_38 : decode cX6_sendLog 38 = .ok (.invokevirtual 239, 3) := by decide +kernel
theorem dX6_sendLog_41 : decode cX6_sendLog 41 = .ok (.return_, 1) := by decide +kernel
theorem dX6_send_0 : decode cX6_send 0 = .ok (.aload_n 0, 1) := by decide +kernel
theorem dX6_send_1 : decode cX6_send 1 = .ok (.getfield 55, 3) := by decide +kernel
theorem dX6_send_4 : decode cX6_send 4 = .ok (.iload_n 1, 1) := by decide +kernel
theorem dX6_send_5 : decode cX6_send 5 = .ok (.aload_n 0, 1) := by decide +kernel
theorem dX6_send_6 : decode cX6_send 6 = .ok (.getfield 41, 3) := by decide +kernel
theorem dX6_send_9 : decode cX6_send 9 = .ok (.iload_n 2, 1) := by decide +kernel
theorem dX6_send_10 : decode cX6_send 10 = .ok (.invokevirtual 297, 3) := by decide +kernel
theorem dX6_send_13 : decode cX6_send 13 = .ok (.astore 4, 2) := by decide +kernel
theorem dX6_send_15 : decode cX6_send 15 = .ok (.aload 4, 2) := by decide +kernel
theorem dX6_send_17 : decode cX6_send 17 = .ok (.aload_n 0, 1) := by decide +kernel
theorem dX6_send_18 : decode cX6_send 18 = .ok (.getfield 34, 3) := by decide +kernel
theorem dX6_send_21 : decode cX6_send 21 = .ok (.putfield 150, 3) := by decide +kernel
theorem dX6_send_24 : decode cX6_send 24 = .ok (.aload 4, 2) := by decide +kernel
theorem dX6_send_26 : decode cX6_send 26 = .ok (.iload_n 3, 1) := by decide +kernel
theorem dX6_send_27 : decode cX6_send 27 = .ok (.putfield 127, 3) := by decide +kernel
theorem dX6_send_30 : decode cX6_send 30 = .ok (.aload 4, 2) := by decide +kernel
theorem dX6_send_32 : decode cX6_send 32 = .ok (.areturn, 1) := by decide +kernel
theorem dX7_init_0 : decode cX7_init 0 = .ok (.aload_n 0, 1) := by decide +kernel
theorem dX7_init_1 : decode cX7_init 1 = .ok (.invokespecial 3, 3) := by decide +kernel
theorem dX7_init_4 : decode cX7_init 4 = .ok (.aload_n 0, 1) := by decide +kernel
theorem dX7_init_5 : decode cX7_init 5 = .ok (.sipush 513, 3) := by decide +kernel
theorem dX7_init_8 : decode cX7_init 8 = .ok (.newarray .int, 2) := by decide +kernel
theorem dX7_init_10 : decode cX7_init 10 = .ok (.putfield 9, 3) := by decide +kernel
theorem dX7_init_13 : decode cX7_init 13 = .ok (.aload_n 0, 1) := by decide +kernel
theorem dX7_init_14 : decode cX7_init 14 = .ok (.sipush 513, 3) := by decide +kernel
theorem dX7_init_17 : decode cX7_init 17 = .ok (.newarray .int, 2) := by decide +kernel
theorem dX7_init_19 : decode cX7_init 19 = .ok (.putfield 15, 3) := by decide +kernel
theorem dX7_init_22 : decode cX7_init 22 = .ok (.aload_n 0, 1) := by decide +kernel
theorem dX7_init_23 : decode cX7_init 23 = .ok (.sipush 513, 3) := by decide +kernel
theorem dX7_init_26 : decode cX7_init 26 = .ok (.newarray .int, 2) := by decide +kernel
theorem dX7_init_28 : decode cX7_init 28 = .ok (.putfield 18, 3) := by decide +kernel
theorem dX7_init_31 : decode cX7_init 31 = .ok (.aload_n 0, 1) := by decide +kernel
theorem dX7_init_32 : decode cX7_init 32 = .ok (.sipush 513, 3) := by decide +kernel
theorem dX7_init_35 : decode cX7_init 35 = .ok (.newarray .int, 2) := by decide +kernel
theorem dX7_init_37 : decode cX7_init 37 = .ok (.putfield 21, 3) := by decide +kernel
theorem dX7_init_40 : decode cX7_init 40 = .ok (.aload_n 0, 1) := by decide +kernel
theorem dX7_init_41 : decode cX7_init 41 = .ok (.sipush 513, 3) := by decide +kernel
theorem dX7_init_44 : decode cX7_init 44 = .ok (.newarray .int, 2) := by decide +kernel
theorem dX7_init_46 : decode cX7_init 46 = .ok (.putfield 24, 3) := by decide +kernel
theorem dX7_init_49 : decode cX7_init 49 = .ok (.aload_n 0, 1) := by decide +kernel
theorem dX7_init_50 : decode cX7_init 50 = .ok (.iconst 0, 1) := by decide +kernel
theorem dX7_init_51 : decode cX7_init 51 = .ok (.putfield 27, 3) := by decide +kernel
theorem dX7_init_54 : decode cX7_init 54 = .ok (.return_, 1) := by decide +kernel
theorem dX7_add_0 : decode cX7_add 0 = .ok (.aload_n 0, 1) := by decide +kernel
theorem dX7_add_1 : decode cX7_add 1 = .ok (.getfield 27, 3) := by decide +kernel
theorem dX7_add_4 : decode cX7_add 4 = .ok (.sipush 512, 3) := by decide +kernel
theorem dX7_add_7 : decode cX7_add 7 = .ok (.if_icmp .lt 5, 3) := by decide +kernel
theorem dX7_add_10 : decode cX7_add 10 = .ok (.iconst 0, 1) := by decide +kernel
theorem dX7_add_11 : decode cX7_add 11 = .ok (.ireturn, 1) := by decide +kernel
theorem dX7_add_12 : decode cX7_add 12 = .ok (.aload_n 0, 1) := by decide +kernel
theorem dX7_add_13 : decode cX7_add 13 = .ok (.dup, 1) := by decide +kernel
theorem dX7_add_14 : decode cX7_add 14 = .ok (.getfield 27, 3) := by decide +kernel
theorem dX7_add_17 : decode cX7_add 17 = .ok (.iconst 1, 1) := by decide +kernel
theorem dX7_add_18 : decode cX7_add 18 = .ok (.iadd, 1) := by decide +kernel
theorem dX7_add_19 : decode cX7_add 19 = .ok (.putfield 27, 3) := by decide +kernel
theorem dX7_add_22 : decode cX7_add 22 = .ok (.aload_n 0, 1) := by decide +kernel
theorem dX7_add_23 : decode cX7_add 23 = .ok (.getfield 9, 3) := by decide +kernel
theorem dX7_add_26 : decode cX7_add 26 = .ok (.aload_n 0, 1) := by decide +kernel
theorem dX7_add_27 : decode cX7_add 27 = .ok (.getfield 27, 3) := by decide +kernel
theorem dX7_add_30 : decode cX7_add 30 = .ok (.iload_n 1, 1) := by decide +kernel
theorem dX7_add_31 : decode cX7_add 31 = .ok (.iastore, 1) := by decide +kernel
theorem dX7_add_32 : decode cX7_add 32 = .ok (.aload_n 0, 1) := by decide +kernel
theorem dX7_add_33 : decode cX7_add 33 = .ok (.getfield 15, 3) := by decide +kernel
theorem dX7_add_36 : decode cX7_add 36 = .ok (.aload_n 0, 1) := by decide +kernel
theorem dX7_add_37 : decode cX7_add 37 = .ok (.getfield 27, 3) := by decide +kernel
theorem dX7_add_40 : decode cX7_add 40 = .ok (.iload_n 2, 1) := by decide +kernel
theorem dX7_add_41 : decode cX7_add 41 = .ok (.iastore, 1) := by decide +kernel
theorem dX7_add_42 : decode cX7_add 42 = .ok (.aload_n 0, 1) := by decide +kernel
theorem dX7_add_43 : decode cX7_add 43 = .ok (.getfield 18, 3) := by decide +kernel
theorem dX7_add_46 : decode cX7_add 46 = .ok (.aload_n 0, 1) := by decide +kernel
theorem dX7_add_47 : decode cX7_add 47 = .ok (.getfield 27, 3) := by decide +kernel
theorem dX7_add_50 : decode cX7_add 50 = .ok (.iload_n 3, 1) := by decide +kernel
theorem dX7_add_51 : decode cX7_add 51 = .ok (.iastore, 1) := by decide +kernel
theorem dX7_add_52 : decode cX7_add 52 = .ok (.aload_n 0, 1) := by decide +kernel
theorem dX7_add_53 : decode cX7_add 53 = .ok (.getfield 21, 3) := by decide +kernel
theorem dX7_add_56 : decode cX7_add 56 = .ok (.aload_n 0, 1) := by decide +kernel
theorem dX7_add_57 : decode cX7_add 57 = .ok (.getfield 27, 3) := by decide +kernel
theorem dX7_add_60 : decode cX7_add 60 = .ok (.iload 4, 2) := by decide +kernel
theorem dX7_add_62 : decode cX7_add 62 = .ok (.iastore, 1) := by decide +kernel
theorem dX7_add_63 : decode cX7_add 63 = .ok (.aload_n 0, 1) := by decide +kernel
theorem dX7_add_64 : decode cX7_add 64 = .ok (.getfield 24, 3) := by decide +kernel
theorem dX7_add_67 : decode cX7_add 67 = .ok (.aload_n 0, 1) := by decide +kernel
theorem dX7_add_68 : decode cX7_add 68 = .ok (.getfield 27, 3) := by decide +kernel
theorem dX7_add_71 : decode cX7_add 71 = .ok (.iload 5, 2) := by decide +kernel
theorem dX7_add_73 : decode cX7_add 73 = .ok (.iastore, 1) := by decide +kernel
theorem dX7_add_74 : decode cX7_add 74 = .ok (.aload_n 0, 1) := by decide +kernel
theorem dX7_add_75 : decode cX7_add 75 = .ok (.getfield 27, 3) := by decide +kernel
theorem dX7_add_78 : decode cX7_add 78 = .ok (.ireturn, 1) := by decide +kernel
theorem dX8_init_0 : decode cX8_init 0 = .ok (.aload_n 0, 1) := by decide +kernel
theorem dX8_init_1 : decode cX8_init 1 = .ok (.invokespecial 1, 3) := by decide +kernel
theorem dX8_init_4 : decode cX8_init 4 = .ok (.aload_n 0, 1) := by decide +kernel
theorem dX8_init_5 : decode cX8_init 5 = .ok (.iload_n 1, 1) := by decide +kernel
theorem dX8_init_6 : decode cX8_init 6 = .ok (.anewarray 7, 3) := by decide +kernel
theorem dX8_init_9 : decode cX8_init 9 = .ok (.putfield 9, 3) := by decide +kernel
theorem dX8_init_12 : decode cX8_init 12 = .ok (.aload_n 0, 1) := by decide +kernel
theorem dX8_init_13 : decode cX8_init 13 = .ok (.iload_n 1, 1) := by decide +kernel
theorem dX8_init_14 : decode cX8_init 14 = .ok (.newarray .int, 2) := by decide +kernel
theorem dX8_init_16 : decode cX8_init 16 = .ok (.putfield 15, 3) := by decide +kernel
theorem dX8_init_19 : decode cX8_init 19 = .ok (.aload_n 0, 1) := by decide +kernel
theorem dX8_init_20 : decode cX8_init 20 = .ok (.iload_n 1, 1) := by decide +kernel
theorem dX8_init_21 : decode cX8_init 21 = .ok (.anewarray 19, 3) := by decide +kernel
theorem dX8_init_24 : decode cX8_init 24 = .ok (.putfield 21, 3) := by decide +kernel
theorem dX8_init_27 : decode cX8_init 27 = .ok (.iconst 0, 1) := by decide +kernel
theorem dX8_init_28 : decode cX8_init 28 = .ok (.istore_n 2, 1) := by decide +kernel
theorem dX8_init_29 : decode cX8_init 29 = .ok (.iload_n 2, 1) := by decide +kernel
theorem dX8_init_30 : decode cX8_init 30 = .ok (.iload_n 1, 1) := by decide +kernel
theorem dX8_init_31 : decode cX8_init 31 = .ok (.if_icmp .ge 22, 3) := by decide +kernel
theorem dX8_init_34 : decode cX8_init 34 = .ok (.aload_n 0, 1) := by decide +kernel
theorem dX8_init_35 : decode cX8_init 35 = .ok (.getfield 21, 3) := by decide +kernel
theorem dX8_init_38 : decode cX8_init 38 = .ok (.iload_n 2, 1) := by decide +kernel
theorem dX8_init_39 : decode cX8_init 39 = .ok (.new 19, 3) := by decide +kernel
theorem dX8_init_42 : decode cX8_init 42 = .ok (.dup, 1) := by decide +kernel
theorem dX8_init_43 : decode cX8_init 43 = .ok (.invokespecial 25, 3) := by decide +kernel
theorem dX8_init_46 : decode cX8_init 46 = .ok (.aastore, 1) := by decide +kernel
theorem dX8_init_47 : decode cX8_init 47 = .ok (.iinc 2 1, 3) := by decide +kernel
theorem dX8_init_50 : decode cX8_init 50 = .ok (.goto (-21), 3) := by decide +kernel
theorem dX8_init_53 : decode cX8_init 53 = .ok (.return_, 1) := by decide +kernel
theorem dX8_clear_0 : decode cX8_clear 0 = .ok (.aload_n 0, 1) := by decide +kernel
theorem dX8_clear_1 : decode cX8_clear 1 = .ok (.iconst 0, 1) := by decide +kernel
theorem dX8_clear_2 : decode cX8_clear 2 = .ok (.putfield 26, 3) := by decide +kernel
theorem dX8_clear_5 : decode cX8_clear 5 = .ok (.aload_n 0, 1) := by decide +kernel
theorem dX8_clear_6 : decode cX8_clear 6 = .ok (.iconst 0, 1) := by decide +kernel
theorem dX8_clear_7 : decode cX8_clear 7 = .ok (.putfield 30, 3) := by decide +kernel
theorem dX8_clear_10 : decode cX8_clear 10 = .ok (.aload_n 0, 1) := by decide +kernel
theorem dX8_clear_11 : decode cX8_clear 11 = .ok (.iconst 0, 1) := by decide +kernel
theorem dX8_clear_12 : decode cX8_clear 12 = .ok (.putfield 33, 3) := by decide +kernel
theorem dX8_clear_15 : decode cX8_clear 15 = .ok (.return_, 1) := by decide +kernel
theorem dX8_addSyncReply_0 : decode cX8_addSyncReply 0 = .ok (.iload_n 2, 1) := by decide +kernel
theorem dX8_addSyncReply_1 : decode cX8_addSyncReply 1 = .ok (.aload_n 0, 1) := by decide +kernel
theorem dX8_addSyncReply_2 : decode cX8_addSyncReply 2 = .ok (.getfield 36, 3) := by decide +kernel
theorem dX8_addSyncReply_5 : decode cX8_addSyncReply 5 = .ok (.if_icmp .eq 13, 3) := by decide +kernel
theorem dX8_addSyncReply_8 : decode cX8_addSyncReply 8 = .ok (.aload_n 0, 1) := by decide +kernel
theorem dX8_addSyncReply_9 : decode cX8_addSyncReply 9 = .ok (.iload_n 2, 1) := by decide +kernel
theorem dX8_addSyncReply_10 : decode cX8_addSyncReply 10 = .ok (.putfield 36, 3) := by decide +kernel
theorem dX8_addSyncReply_13 : decode cX8_addSyncReply 13 = .ok (.aload_n 0, 1) := by decide +kernel
theorem dX8_addSyncReply_14 : decode cX8_addSyncReply 14 = .ok (.iconst 0, 1) := by decide +kernel
theorem dX8_addSyncReply_15 : decode cX8_addSyncReply 15 = .ok (.putfield 30, 3) := by decide +kernel
theorem dX8_addSyncReply_18 : decode cX8_addSyncReply 18 = .ok (.aload_n 0, 1) := by decide +kernel
theorem dX8_addSyncReply_19 : decode cX8_addSyncReply 19 = .ok (.dup, 1) := by decide +kernel
theorem dX8_addSyncReply_20 : decode cX8_addSyncReply 20 = .ok (.getfield 30, 3) := by decide +kernel
theorem dX8_addSyncReply_23 : decode cX8_addSyncReply 23 = .ok (.iconst 1, 1) := by decide +kernel
theorem dX8_addSyncReply_24 : decode cX8_addSyncReply 24 = .ok (.iload_n 1, 1) := by decide +kernel
theorem dX8_addSyncReply_25 : decode cX8_addSyncReply 25 = .ok (.ishl, 1) := by decide +kernel
theorem dX8_addSyncReply_26 : decode cX8_addSyncReply 26 = .ok (.ior, 1) := by decide +kernel
theorem dX8_addSyncReply_27 : decode cX8_addSyncReply 27 = .ok (.putfield 30, 3) := by decide +kernel
theorem dX8_addSyncReply_30 : decode cX8_addSyncReply 30 = .ok (.return_, 1) := by decide +kernel
theorem dX8_addTurned_0 : decode cX8_addTurned 0 = .ok (.aload_n 0, 1) := by decide +kernel
theorem dX8_addTurned_1 : decode cX8_addTurned 1 = .ok (.dup, 1) := by decide +kernel
theorem dX8_addTurned_2 : decode cX8_addTurned 2 = .ok (.getfield 33, 3) := by decide +kernel
theorem dX8_addTurned_5 : decode cX8_addTurned 5 = .ok (.iconst 1, 1) := by decide +kernel
theorem dX8_addTurned_6 : decode cX8_addTurned 6 = .ok (.aload_n 1, 1) := by decide +kernel
theorem dX8_addTurned_7 : decode cX8_addTurned 7 = .ok (.getfield 39, 3) := by decide +kernel
theorem dX8_addTurned_10 : decode cX8_addTurned 10 = .ok (.ishl, 1) := by decide +kernel
theorem dX8_addTurned_11 : decode cX8_addTurned 11 = .ok (.ior, 1) := by decide +kernel
theorem dX8_addTurned_12 : decode cX8_addTurned 12 = .ok (.putfield 33, 3) := by decide +kernel
theorem dX8_addTurned_15 : decode cX8_addTurned 15 = .ok (.aload_n 0, 1) := by decide +kernel
theorem dX8_addTurned_16 : decode cX8_addTurned 16 = .ok (.getfield 9, 3) := by decide +kernel
theorem dX8_addTurned_19 : decode cX8_addTurned 19 = .ok (.aload_n 1, 1) := by decide +kernel
theorem dX8_addTurned_20 : decode cX8_addTurned 20 = .ok (.getfield 39, 3) := by decide +kernel
theorem dX8_addTurned_23 : decode cX8_addTurned 23 = .ok (.aload_n 1, 1) := by decide +kernel
theorem dX8_addTurned_24 : decode cX8_addTurned 24 = .ok (.getfield 44, 3) := by decide +kernel
theorem dX8_addTurned_27 : decode cX8_addTurned 27 = .ok (.aastore, 1) := by decide +kernel
theorem dX8_addTurned_28 : decode cX8_addTurned 28 = .ok (.aload_n 0, 1) := by decide +kernel
theorem dX8_addTurned_29 : decode cX8_addTurned 29 = .ok (.getfield 15, 3) := by decide +kernel
theorem dX8_addTurned_32 : decode cX8_addTurned 32 = .ok (.aload_n 1, 1) := by decide +kernel
theorem dX8_addTurned_33 : decode cX8_addTurned 33 = .ok (.getfield 39, 3) := by decide +kernel
theorem dX8_addTurned_36 : decode cX8_addTurned 36 = .ok (.aload_n 1, 1) := by decide +kernel
theorem dX8_addTurned_37 : decode cX8_addTurned 37 = .ok (.getfield 48, 3) := by decide +kernel
theorem dX8_addTurned_40 : decode cX8_addTurned 40 = .ok (.iastore, 1) := by decide +kernel
theorem dX8_addTurned_41 : decode cX8_addTurned 41 = .ok (.aload_n 0, 1) := by decide +kernel
theorem dX8_addTurned_42 : decode cX8_addTurned 42 = .ok (.getfield 21, 3) := by decide +kernel
theorem dX8_addTurned_45 : decode cX8_addTurned 45 = .ok (.aload_n 1, 1) := by decide +kernel
theorem dX8_addTurned_46 : decode cX8_addTurned 46 = .ok (.getfield 39, 3) := by decide +kernel
theorem dX8_addTurned_49 : decode cX8_addTurned 49 = .ok (.aaload, 1) := by decide +kernel
theorem dX8_addTurned_50 : decode cX8_addTurned 50 = .ok (.aload_n 1, 1) := by decide +kernel
theorem dX8_addTurned_51 : decode cX8_addTurned 51 = .ok (.getfield 51, 3) := by decide +kernel
theorem dX8_addTurned_54 : decode cX8_addTurned 54 = .ok (.invokevirtual 55, 3) := by decide +kernel
theorem dX8_addTurned_57 : decode cX8_addTurned 57 = .ok (.return_, 1) := by decide +kernel
theorem dX8_hasTurned_0 : decode cX8_hasTurned 0 = .ok (.aload_n 0, 1) := by decide +kernel
theorem dX8_hasTurned_1 : decode cX8_hasTurned 1 = .ok (.getfield 33, 3) := by decide +kernel
theorem dX8_hasTurned_4 : decode cX8_hasTurned 4 = .ok (.iconst 1, 1) := by decide +kernel
theorem dX8_hasTurned_5 : decode cX8_hasTurned 5 = .ok (.iload_n 1, 1) := by decide +kernel
theorem dX8_hasTurned_6 : decode cX8_hasTurned 6 = .ok (.ishl, 1) := by decide +kernel
theorem dX8_hasTurned_7 : decode cX8_hasTurned 7 = .ok (.iand, 1) := by decide +kernel
theorem dX8_hasTurned_8 : decode cX8_hasTurned 8 = .ok (.ifCond .eq 7, 3) := by decide +kernel
theorem dX8_hasTurned_11 : decode cX8_hasTurned 11 = .ok (.iconst 1, 1) := by decide +kernel
theorem dX8_hasTurned_12 : decode cX8_hasTurned 12 = .ok (.goto 4, 3) := by decide +kernel
theorem dX8_hasTurned_15 : decode cX8_hasTurned 15 = .ok (.iconst 0, 1) := by decide +kernel
theorem dX8_hasTurned_16 : decode cX8_hasTurned 16 = .ok (.ireturn, 1) := by decide +kernel
theorem dX9_init_0 : decode cX9_init 0 = .ok (.aload_n 0, 1) := by decide +kernel
theorem dX9_init_1 : decode cX9_init 1 = .ok (.invokespecial 1, 3) := by decide +kernel
theorem dX9_init_4 : decode cX9_init 4 = .ok (.aload_n 0, 1) := by decide +kernel
theorem dX9_init_5 : decode cX9_init 5 = .ok (.iload_n 1, 1) := by decide +kernel
theorem dX9_init_6 : decode cX9_init 6 = .ok (.putfield 7, 3) := by decide +kernel
theorem dX9_init_9 : decode cX9_init 9 = .ok (.aload_n 0, 1) := by decide +kernel
theorem dX9_init_10 : decode cX9_init 10 = .ok (.iload_n 2, 1) := by decide +kernel
theorem dX9_init_11 : decode cX9_init 11 = .ok (.putfield 13, 3) := by decide +kernel
theorem dX9_init_14 : decode cX9_init 14 = .ok (.return_, 1) := by decide +kernel
theorem dX9_isSame_0 : decode cX9_isSame 0 = .ok (.aload_n 0, 1) := by decide +kernel
theorem dX9_isSame_1 : decode cX9_isSame 1 = .ok (.getfield 7, 3) := by decide +kernel
theorem dX9_isSame_4 : decode cX9_isSame 4 = .ok (.aload_n 1, 1) := by decide +kernel
theorem dX9_isSame_5 : decode cX9_isSame 5 = .ok (.getfield 7, 3) := by decide +kernel
theorem dX9_isSame_8 : decode cX9_isSame 8 = .ok (.if_icmp .ne 18, 3) := by decide +kernel
theorem dX9_isSame_11 : decode cX9_isSame 11 = .ok (.aload_n 0, 1) := by decide +kernel
theorem dX9_isSame_12 : decode cX9_isSame 12 = .ok (.getfield 13, 3) := by decide +kernel
theorem dX9_isSame_15 : decode cX9_isSame 15 = .ok (.aload_n 1, 1) := by decide +kernel
theorem dX9_isSame_16 : decode cX9_isSame 16 = .ok (.getfield 13, 3) := by decide +kernel
theorem dX9_isSame_19 : decode cX9_isSame 19 = .ok (.if_icmp .ne 7, 3) := by decide +kernel
theorem dX9_isSame_22 : decode cX9_isSame 22 = .ok (.iconst 1, 1) := by decide +kernel
theorem dX9_isSame_23 : decode cX9_isSame 23 = .ok (.goto 4, 3) := by decide +kernel
theorem dX9_isSame_26 : decode cX9_isSame 26 = .ok (.iconst 0, 1) := by decide +kernel
theorem dX9_isSame_27 : decode cX9_isSame 27 = .ok (.ireturn, 1) := by decide +kernel
theorem dX9_isBehind_0 : decode cX9_isBehind 0 = .ok (.aload_n 0, 1) := by decide +kernel
theorem dX9_isBehind_1 : decode cX9_isBehind 1 = .ok (.getfield 7, 3) := by decide +kernel
theorem dX9_isBehind_4 : decode cX9_isBehind 4 = .ok (.aload_n 1, 1) := by decide +kernel
theorem dX9_isBehind_5 : decode cX9_isBehind 5 = .ok (.getfield 7, 3) := by decide +kernel
theorem dX9_isBehind_8 : decode cX9_isBehind 8 = .ok (.if_icmp .gt 26, 3) := by decide +kernel
theorem dX9_isBehind_11 : decode cX9_isBehind 11 = .ok (.aload_n 0, 1) := by decide +kernel
theorem dX9_isBehind_12 : decode cX9_isBehind 12 = .ok (.getfield 13, 3) := by decide +kernel
theorem dX9_isBehind_15 : decode cX9_isBehind 15 = .ok (.aload_n 1, 1) := by decide +kernel
theorem dX9_isBehind_16 : decode cX9_isBehind 16 = .ok (.getfield 13, 3) := by decide +kernel
theorem dX9_isBehind_19 : decode cX9_isBehind 19 = .ok (.if_icmp .gt 15, 3) := by decide +kernel
theorem dX9_isBehind_22 : decode cX9_isBehind 22 = .ok (.aload_n 0, 1) := by decide +kernel
theorem dX9_isBehind_23 : decode cX9_isBehind 23 = .ok (.aload_n 1, 1) := by decide +kernel
theorem dX9_isBehind_24 : decode cX9_isBehind 24 = .ok (.invokevirtual 16, 3) := by decide +kernel
theorem dX9_isBehind_27 : decode cX9_isBehind 27 = .ok (.ifCond .ne 7, 3) := by decide +kernel
theorem dX9_isBehind_30 : decode cX9_isBehind 30 = .ok (.iconst 1, 1) := by decide +kernel
theorem dX9_isBehind_31 : decode cX9_isBehind 31 = .ok (.goto 4, 3) := by decide +kernel
theorem dX9_isBehind_34 : decode cX9_isBehind 34 = .ok (.iconst 0, 1) := by decide +kernel
theorem dX9_isBehind_35 : decode cX9_isBehind 35 = .ok (.ireturn, 1) := by decide +kernel
theorem dX9_isLater_0 : decode cX9_isLater 0 = .ok (.aload_n 0, 1) := by decide +kernel
theorem dX9_isLater_1 : decode cX9_isLater 1 = .ok (.getfield 13, 3) := by decide +kernel
theorem dX9_isLater_4 : decode cX9_isLater 4 = .ok (.aload_n 1, 1) := by decide +kernel
theorem dX9_isLater_5 : decode cX9_isLater 5 = .ok (.getfield 13, 3) := by decide +kernel
theorem dX9_isLater_8 : decode cX9_isLater 8 = .ok (.if_icmp .gt 25, 3) := by decide +kernel
theorem dX9_isLater_11 : decode cX9_isLater 11 = .ok (.aload_n 0, 1) := by decide +kernel
theorem dX9_isLater_12 : decode cX9_isLater 12 = .ok (.getfield 13, 3) := by decide +kernel
theorem dX9_isLater_15 : decode cX9_isLater 15 = .ok (.aload_n 1, 1) := by decide +kernel
theorem dX9_isLater_16 : decode cX9_isLater 16 = .ok (.getfield 13, 3) := by decide +kernel
theorem dX9_isLater_19 : decode cX9_isLater 19 = .ok (.if_icmp .ne 18, 3) := by decide +kernel
theorem dX9_isLater_22 : decode cX9_isLater 22 = .ok (.aload_n 0, 1) := by decide +kernel
theorem dX9_isLater_23 : decode cX9_isLater 23 = .ok (.getfield 7, 3) := by decide +kernel
theorem dX9_isLater_26 : decode cX9_isLater 26 = .ok (.aload_n 1, 1) := by decide +kernel
theorem dX9_isLater_27 : decode cX9_isLater 27 = .ok (.getfield 7, 3) := by decide +kernel
theorem dX9_isLater_30 : decode cX9_isLater 30 = .ok (.if_icmp .le 7, 3) := by decide +kernel
theorem dX9_isLater_33 : decode cX9_isLater 33 = .ok (.iconst 1, 1) := by decide +kernel
theorem dX9_isLater_34 : decode cX9_isLater 34 = .ok (.goto 4, 3) := by decide +kernel
theorem dX9_isLater_37 : decode cX9_isLater 37 = .ok (.iconst 0, 1) := by decide +kernel
theorem dX9_isLater_38 : decode cX9_isLater 38 = .ok (.ireturn, 1) := by decide +kernel
theorem dX9_joinedWith_0 : decode cX9_joinedWith 0 = .ok (.new 8, 3) := by decide +kernel
theorem dX9_joinedWith_3 : decode cX9_joinedWith 3 = .ok (.dup, 1) := by decide +kernel
theorem dX9_joinedWith_4 : decode cX9_joinedWith 4 = .ok (.aload_n 0, 1) := by decide +kernel
theorem dX9_joinedWith_5 : decode cX9_joinedWith 5 = .ok (.getfield 7, 3) := by decide +kernel
theorem dX9_joinedWith_8 : decode cX9_joinedWith 8 = .ok (.aload_n 1, 1) := by decide +kernel
theorem dX9_joinedWith_9 : decode cX9_joinedWith 9 = .ok (.getfield 7, 3) := by decide +kernel
theorem dX9_joinedWith_12 : decode cX9_joinedWith 12 = .ok (.invokestatic 20, 3) := by decide +kernel
theorem dX9_joinedWith_15 : decode cX9_joinedWith 15 = .ok (.aload_n 0, 1) := by decide +kernel
theorem dX9_joinedWith_16 : decode cX9_joinedWith 16 = .ok (.getfield 13, 3) := by decide +kernel
theorem dX9_joinedWith_19 : decode cX9_joinedWith 19 = .ok (.aload_n 1, 1) := by decide +kernel
theorem dX9_joinedWith_20 : decode cX9_joinedWith 20 = .ok (.getfield 13, 3) := by decide +kernel
theorem dX9_joinedWith_23 : decode cX9_joinedWith 23 = .ok (.invokestatic 20, 3) := by decide +kernel
theorem dX9_joinedWith_26 : decode cX9_joinedWith 26 = .ok (.invokespecial 26, 3) := by decide +kernel
theorem dX9_joinedWith_29 : decode cX9_joinedWith 29 = .ok (.areturn, 1) := by decide +kernel
theorem dX9_leader_0 : decode cX9_leader 0 = .ok (.aload_n 0, 1) := by decide +kernel
theorem dX9_leader_1 : decode cX9_leader 1 = .ok (.getfield 7, 3) := by decide +kernel
theorem dX9_leader_4 : decode cX9_leader 4 = .ok (.iload_n 1, 1) := by decide +kernel
theorem dX9_leader_5 : decode cX9_leader 5 = .ok (.invokestatic 29, 3) := by decide +kernel
theorem dX9_leader_8 : decode cX9_leader 8 = .ok (.ireturn, 1) := by decide +kernel
theorem dX10_init_0 : decode cX10_init 0 = .ok (.aload_n 0, 1) := by decide +kernel
theorem dX10_init_1 : decode cX10_init 1 = .ok (.invokespecial 3, 3) := by decide +kernel
theorem dX10_init_4 : decode cX10_init 4 = .ok (.aload_n 0, 1) := by decide +kernel
theorem dX10_init_5 : decode cX10_init 5 = .ok (.bipush 8, 2) := by decide +kernel
theorem dX10_init_7 : decode cX10_init 7 = .ok (.newarray .int, 2) := by decide +kernel
theorem dX10_init_9 : decode cX10_init 9 = .ok (.putfield 9, 3) := by decide +kernel
theorem dX10_init_12 : decode cX10_init 12 = .ok (.aload_n 0, 1) := by decide +kernel
theorem dX10_init_13 : decode cX10_init 13 = .ok (.iconst 4, 1) := by decide +kernel
theorem dX10_init_14 : decode cX10_init 14 = .ok (.newarray .int, 2) := by decide +kernel
theorem dX10_init_16 : decode cX10_init 16 = .ok (.putfield 15, 3) := by decide +kernel
theorem dX10_init_19 : decode cX10_init 19 = .ok (.aload_n 0, 1) := by decide +kernel
theorem dX10_init_20 : decode cX10_init 20 = .ok (.sipush 513, 3) := by decide +kernel
theorem dX10_init_23 : decode cX10_init 23 = .ok (.newarray .int, 2) := by decide +kernel
theorem dX10_init_25 : decode cX10_init 25 = .ok (.putfield 18, 3) := by decide +kernel
theorem dX10_init_28 : decode cX10_init 28 = .ok (.aload_n 0, 1) := by decide +kernel
theorem dX10_init_29 : decode cX10_init 29 = .ok (.sipush 513, 3) := by decide +kernel
theorem dX10_init_32 : decode cX10_init 32 = .ok (.newarray .int, 2) := by decide +kernel
theorem dX10_init_34 : decode cX10_init 34 = .ok (.putfield 21, 3) := by decide +kernel
theorem dX10_init_37 : decode cX10_init 37 = .ok (.aload_n 0, 1) := by decide +kernel
theorem dX10_init_38 : decode cX10_init 38 = .ok (.aload_n 1, 1) := by decide +kernel
theorem dX10_init_39 : decode cX10_init 39 = .ok (.putfield 24, 3) := by decide +kernel
theorem dX10_init_42 : decode cX10_init 42 = .ok (.return_, 1) := by decide +kernel
theorem dX10_execute_0 : decode cX10_execute 0 = .ok (.aload_n 0, 1) := by decide +kernel
theorem dX10_execute_1 : decode cX10_execute 1 = .ok (.getfield 9, 3) := by decide +kernel
theorem dX10_execute_4 : decode cX10_execute 4 = .ok (.iconst 0, 1) := by decide +kernel
theorem dX10_execute_5 : decode cX10_execute 5 = .ok (.invokestatic 28, 3) := by decide +kernel
theorem dX10_execute_8 : decode cX10_execute 8 = .ok (.aload_n 0, 1) := by decide +kernel
theorem dX10_execute_9 : decode cX10_execute 9 = .ok (.getfield 15, 3) := by decide +kernel
theorem dX10_execute_12 : decode cX10_execute 12 = .ok (.iconst 0, 1) := by decide +kernel
theorem dX10_execute_13 : decode cX10_execute 13 = .ok (.invokestatic 28, 3) := by decide +kernel
theorem dX10_execute_16 : decode cX10_execute 16 = .ok (.aload_n 0, 1) := by decide +kernel
theorem dX10_execute_17 : decode cX10_execute 17 = .ok (.getfield 18, 3) := by decide +kernel
theorem dX10_execute_20 : decode cX10_execute 20 = .ok (.iconst 0, 1) := by decide +kernel
theorem dX10_execute_21 : decode cX10_execute 21 = .ok (.invokestatic 28, 3) := by decide +kernel
theorem dX10_execute_24 : decode cX10_execute 24 = .ok (.iconst 1, 1) := by decide +kernel
theorem dX10_execute_25 : decode cX10_execute 25 = .ok (.istore_n 3, 1) := by decide +kernel
theorem dX10_execute_26 : decode cX10_execute 26 = .ok (.iload_n 3, 1) := by decide +kernel
theorem dX10_execute_27 : decode cX10_execute 27 = .ok (.iload_n 2, 1) := by decide +kernel
theorem dX10_execute_28 : decode cX10_execute 28 = .ok (.if_icmp .gt 36, 3) := by decide +kernel
theorem dX10_execute_31 : decode cX10_execute 31 = .ok (.aload_n 1, 1) := by decide +kernel
theorem dX10_execute_32 : decode cX10_execute 32 = .ok (.iload_n 3, 1) := by decide +kernel
theorem dX10_execute_33 : decode cX10_execute 33 = .ok (.invokevirtual 34, 3) := by decide +kernel
theorem dX10_execute_36 : decode cX10_execute 36 = .ok (.istore 4, 2) := by decide +kernel
theorem dX10_execute_38 : decode cX10_execute 38 = .ok (.iload 4, 2) := by decide +kernel
theorem dX10_execute_40 : decode cX10_execute 40 = .ok (.ifCond .eq 18, 3) := by decide +kernel
theorem dX10_execute_43 : decode cX10_execute 43 = .ok (.aload_n 0, 1) := by decide +kernel
theorem dX10_execute_44 : decode cX10_execute 44 = .ok (.iload 4, 2) := by decide +kernel
theorem dX10_execute_46 : decode cX10_execute 46 = .ok (.invokevirtual 40, 3) := by decide +kernel
theorem dX10_execute_49 : decode cX10_execute 49 = .ok (.ifCond .eq 9, 3) := by decide +kernel
theorem dX10_execute_52 : decode cX10_execute 52 = .ok (.aload_n 0, 1) := by decide +kernel
theorem dX10_execute_53 : decode cX10_execute 53 = .ok (.iload 4, 2) := by decide +kernel
theorem dX10_execute_55 : decode cX10_execute 55 = .ok (.invokevirtual 44, 3) := by decide +kernel
theorem dX10_execute_58 : decode cX10_execute 58 = .ok (.iinc 3 1, 3) := by decide +kernel
theorem dX10_execute_61 : decode cX10_execute 61 = .ok (.goto (-35), 3) := by decide +kernel
theorem dX10_execute_64 : decode cX10_execute 64 = .ok (.return_, 1) := by decide +kernel
theorem dX10_hasExecuted_0 : decode cX10_hasExecuted 0 = .ok (.aload_n 0, 1) := by decide +kernel
theorem dX10_hasExecuted_1 : decode cX10_hasExecuted 1 = .ok (.getfield 18, 3) := by decide +kernel
theorem dX10_hasExecuted_4 : decode cX10_hasExecuted 4 = .ok (.iload_n 1, 1) := by decide +kernel
theorem dX10_hasExecuted_5 : decode cX10_hasExecuted 5 = .ok (.iaload, 1) := by decide +kernel
theorem dX10_hasExecuted_6 : decode cX10_hasExecuted 6 = .ok (.ifCond .eq 7, 3) := by decide +kernel
theorem dX10_hasExecuted_9 : decode cX10_hasExecuted 9 = .ok (.iconst 1, 1) := by decide +kernel
theorem dX10_hasExecuted_10 : decode cX10_hasExecuted 10 = .ok (.goto 4, 3) := by decide +kernel
theorem dX10_hasExecuted_13 : decode cX10_hasExecuted 13 = .ok (.iconst 0, 1) := by decide +kernel
theorem dX10_hasExecuted_14 : decode cX10_hasExecuted 14 = .ok (.ireturn, 1) := by decide +kernel
theorem dX10_isLatest_0 : decode cX10_isLatest 0 = .ok (.aload_n 0, 1) := by decide +kernel
theorem dX10_isLatest_1 : decode cX10_isLatest 1 = .ok (.getfield 15, 3) := by decide +kernel
theorem dX10_isLatest_4 : decode cX10_isLatest 4 = .ok (.aload_n 0, 1) := by decide +kernel
theorem dX10_isLatest_5 : decode cX10_isLatest 5 = .ok (.getfield 24, 3) := by decide +kernel
theorem dX10_isLatest_8 : decode cX10_isLatest 8 = .ok (.getfield 48, 3) := by decide +kernel
theorem dX10_isLatest_11 : decode cX10_isLatest 11 = .ok (.iload_n 1, 1) := by decide +kernel
theorem dX10_isLatest_12 : decode cX10_isLatest 12 = .ok (.iaload, 1) := by decide +kernel
theorem dX10_isLatest_13 : decode cX10_isLatest 13 = .ok (.iaload, 1) := by decide +kernel
theorem dX10_isLatest_14 : decode cX10_isLatest 14 = .ok (.iload_n 1, 1) := by decide +kernel
theorem dX10_isLatest_15 : decode cX10_isLatest 15 = .ok (.if_icmp .ne 7, 3) := by decide +kernel
theorem dX10_isLatest_18 : decode cX10_isLatest 18 = .ok (.iconst 1, 1) := by decide +kernel
theorem dX10_isLatest_19 : decode cX10_isLatest 19 = .ok (.goto 4, 3) := by decide +kernel
theorem dX10_isLatest_22 : decode cX10_isLatest 22 = .ok (.iconst 0, 1) := by decide +kernel
theorem dX10_isLatest_23 : decode cX10_isLatest 23 = .ok (.ireturn, 1) := by decide +kernel
theorem dX10_answerTo_0 : decode cX10_answerTo 0 = .ok (.aload_n 0, 1) := by decide +kernel
theorem dX10_answerTo_1 : decode cX10_answerTo 1 = .ok (.getfield 21, 3) := by decide +kernel
theorem dX10_answerTo_4 : decode cX10_answerTo 4 = .ok (.iload_n 1, 1) := by decide +kernel
theorem dX10_answerTo_5 : decode cX10_answerTo 5 = .ok (.iaload, 1) := by decide +kernel
theorem dX10_answerTo_6 : decode cX10_answerTo 6 = .ok (.ireturn, 1) := by decide +kernel
theorem dX10_isNew_0 : decode cX10_isNew 0 = .ok (.aload_n 0, 1) := by decide +kernel
theorem dX10_isNew_1 : decode cX10_isNew 1 = .ok (.getfield 24, 3) := by decide +kernel
theorem dX10_isNew_4 : decode cX10_isNew 4 = .ok (.getfield 53, 3) := by decide +kernel
theorem dX10_isNew_7 : decode cX10_isNew 7 = .ok (.iload_n 1, 1) := by decide +kernel
theorem dX10_isNew_8 : decode cX10_isNew 8 = .ok (.iaload, 1) := by decide +kernel
theorem dX10_isNew_9 : decode cX10_isNew 9 = .ok (.aload_n 0, 1) := by decide +kernel
theorem dX10_isNew_10 : decode cX10_isNew 10 = .ok (.getfield 24, 3) := by decide +kernel
theorem dX10_isNew_13 : decode cX10_isNew 13 = .ok (.getfield 53, 3) := by decide +kernel
theorem dX10_isNew_16 : decode cX10_isNew 16 = .ok (.aload_n 0, 1) := by decide +kernel
theorem dX10_isNew_17 : decode cX10_isNew 17 = .ok (.getfield 15, 3) := by decide +kernel
theorem dX10_isNew_20 : decode cX10_isNew 20 = .ok (.aload_n 0, 1) := by decide +kernel
theorem dX10_isNew_21 : decode cX10_isNew 21 = .ok (.getfield 24, 3) := by decide +kernel
theorem dX10_isNew_24 : decode cX10_isNew 24 = .ok (.getfield 48, 3) := by decide +kernel
theorem dX10_isNew_27 : decode cX10_isNew 27 = .ok (.iload_n 1, 1) := by decide +kernel
theorem dX10_isNew_28 : decode cX10_isNew 28 = .ok (.iaload, 1) := by decide +kernel
theorem dX10_isNew_29 : decode cX10_isNew 29 = .ok (.iaload, 1) := by decide +kernel
theorem dX10_isNew_30 : decode cX10_isNew 30 = .ok (.iaload, 1) := by decide +kernel
theorem dX10_isNew_31 : decode cX10_isNew 31 = .ok (.if_icmp .le 7, 3) := by decide +kernel
theorem dX10_isNew_34 : decode cX10_isNew 34 = .ok (.iconst 1, 1) := by decide +kernel
theorem dX10_isNew_35 : decode cX10_isNew 35 = .ok (.goto 4, 3) := by decide +kernel
theorem dX10_isNew_38 : decode cX10_isNew 38 = .ok (.iconst 0, 1) := by decide +kernel
theorem dX10_isNew_39 : decode cX10_isNew 39 = .ok (.ireturn, 1) := by decide +kernel
theorem dX10_executeRequest_0 : decode cX10_executeRequest 0 = .ok (.aload_n 0, 1) := by decide +kernel
theorem dX10_executeRequest_1 : decode cX10_executeRequest 1 = .ok (.getfield 24, 3) := by decide +kernel
theorem dX10_executeRequest_4 : decode cX10_executeRequest 4 = .ok (.getfield 56, 3) := by decide +kernel
theorem dX10_executeRequest_7 : decode cX10_executeRequest 7 = .ok (.iload_n 1, 1) := by decide +kernel
theorem dX10_executeRequest_8 : decode cX10_executeRequest 8 = .ok (.iaload, 1) := by decide +kernel
theorem dX10_executeRequest_9 : decode cX10_executeRequest 9 = .ok (.istore_n 2, 1) := by decide +kernel
theorem dX10_executeRequest_10 : decode cX10_executeRequest 10 = .ok (.aload_n 0, 1) := by decide +kernel
theorem dX10_executeRequest_11 : decode cX10_executeRequest 11 = .ok (.getfield 15, 3) := by decide +kernel
theorem dX10_executeRequest_14 : decode cX10_executeRequest 14 = .ok (.aload_n 0, 1) := by decide +kernel
theorem dX10_executeRequest_15 : decode cX10_executeRequest 15 = .ok (.getfield 24, 3) := by decide +kernel
theorem dX10_executeRequest_18 : decode cX10_executeRequest 18 = .ok (.getfield 48, 3) := by decide +kernel
theorem dX10_executeRequest_21 : decode cX10_executeRequest 21 = .ok (.iload_n 1, 1) := by decide +kernel
theorem dX10_executeRequest_22 : decode cX10_executeRequest 22 = .ok (.iaload, 1) := by decide +kernel
theorem dX10_executeRequest_23 : decode cX10_executeRequest 23 = .ok (.iload_n 1, 1) := by decide +kernel
theorem dX10_executeRequest_24 : decode cX10_executeRequest 24 = .ok (.iastore, 1) := by decide +kernel
theorem dX10_executeRequest_25 : decode cX10_executeRequest 25 = .ok (.aload_n 0, 1) := by decide +kernel
theorem dX10_executeRequest_26 : decode cX10_executeRequest 26 = .ok (.getfield 18, 3) := by decide +kernel
theorem dX10_executeRequest_29 : decode cX10_executeRequest 29 = .ok (.iload_n 1, 1) := by decide +kernel
theorem dX10_executeRequest_30 : decode cX10_executeRequest 30 = .ok (.iconst 1, 1) := by decide +kernel
theorem dX10_executeRequest_31 : decode cX10_executeRequest 31 = .ok (.iastore, 1) := by decide +kernel
theorem dX10_executeRequest_32 : decode cX10_executeRequest 32 = .ok (.aload_n 0, 1) := by decide +kernel
theorem dX10_executeRequest_33 : decode cX10_executeRequest 33 = .ok (.getfield 21, 3) := by decide +kernel
theorem dX10_executeRequest_36 : decode cX10_executeRequest 36 = .ok (.iload_n 1, 1) := by decide +kernel
theorem dX10_executeRequest_37 : decode cX10_executeRequest 37 = .ok (.aload_n 0, 1) := by decide +kernel
theorem dX10_executeRequest_38 : decode cX10_executeRequest 38 = .ok (.getfield 9, 3) := by decide +kernel
theorem dX10_executeRequest_41 : decode cX10_executeRequest 41 = .ok (.iload_n 2, 1) := by decide +kernel
theorem dX10_executeRequest_42 : decode cX10_executeRequest 42 = .ok (.iaload, 1) := by decide +kernel
theorem dX10_executeRequest_43 : decode cX10_executeRequest 43 = .ok (.iastore, 1) := by decide +kernel
theorem dX10_executeRequest_44 : decode cX10_executeRequest 44 = .ok (.aload_n 0, 1) := by decide +kernel
theorem dX10_executeRequest_45 : decode cX10_executeRequest 45 = .ok (.getfield 24, 3) := by decide +kernel
theorem dX10_executeRequest_48 : decode cX10_executeRequest 48 = .ok (.getfield 59, 3) := by decide +kernel
theorem dX10_executeRequest_51 : decode cX10_executeRequest 51 = .ok (.iload_n 1, 1) := by decide +kernel
theorem dX10_executeRequest_52 : decode cX10_executeRequest 52 = .ok (.iaload, 1) := by decide +kernel
theorem dX10_executeRequest_53 : decode cX10_executeRequest 53 = .ok (.iconst 1, 1) := by decide +kernel
theorem dX10_executeRequest_54 : decode cX10_executeRequest 54 = .ok (.if_icmp .ne 21, 3) := by decide +kernel
theorem dX10_executeRequest_57 : decode cX10_executeRequest 57 = .ok (.aload_n 0, 1) := by decide +kernel
theorem dX10_executeRequest_58 : decode cX10_executeRequest 58 = .ok (.getfield 9, 3) := by decide +kernel
theorem dX10_executeRequest_61 : decode cX10_executeRequest 61 = .ok (.iload_n 2, 1) := by decide +kernel
theorem dX10_executeRequest_62 : decode cX10_executeRequest 62 = .ok (.aload_n 0, 1) := by decide +kernel
theorem dX10_executeRequest_63 : decode cX10_executeRequest 63 = .ok (.getfield 24, 3) := by decide +kernel
theorem dX10_executeRequest_66 : decode cX10_executeRequest 66 = .ok (.getfield 62, 3) := by decide +kernel
theorem dX10_executeRequest_69 : decode cX10_executeRequest 69 = .ok (.iload_n 1, 1) := by decide +kernel
theorem dX10_executeRequest_70 : decode cX10_executeRequest 70 = .ok (.iaload, 1) := by decide +kernel
theorem dX10_executeRequest_71 : decode cX10_executeRequest 71 = .ok (.iastore, 1) := by decide +kernel
theorem dX10_executeRequest_72 : decode cX10_executeRequest 72 = .ok (.goto 34, 3) := by decide +kernel
theorem dX10_executeRequest_75 : decode cX10_executeRequest 75 = .ok (.aload_n 0, 1) := by decide +kernel
theorem dX10_executeRequest_76 : decode cX10_executeRequest 76 = .ok (.getfield 24, 3) := by decide +kernel
theorem dX10_executeRequest_79 : decode cX10_executeRequest 79 = .ok (.getfield 59, 3) := by decide +kernel
theorem dX10_executeRequest_82 : decode cX10_executeRequest 82 = .ok (.iload_n 1, 1) := by decide +kernel
theorem dX10_executeRequest_83 : decode cX10_executeRequest 83 = .ok (.iaload, 1) := by decide +kernel
theorem dX10_executeRequest_84 : decode cX10_executeRequest 84 = .ok (.iconst 2, 1) := by decide +kernel
theorem dX10_executeRequest_85 : decode cX10_executeRequest 85 = .ok (.if_icmp .ne 21, 3) := by decide +kernel
theorem dX10_executeRequest_88 : decode cX10_executeRequest 88 = .ok (.aload_n 0, 1) := by decide +kernel
theorem dX10_executeRequest_89 : decode cX10_executeRequest 89 = .ok (.getfield 9, 3) := by decide +kernel
theorem dX10_executeRequest_92 : decode cX10_executeRequest 92 = .ok (.iload_n 2, 1) := by decide +kernel
theorem dX10_executeRequest_93 : decode cX10_executeRequest 93 = .ok (.dup2, 1) := by decide +kernel
theorem dX10_executeRequest_94 : decode cX10_executeRequest 94 = .ok (.iaload, 1) := by decide +kernel
theorem dX10_executeRequest_95 : decode cX10_executeRequest 95 = .ok (.aload_n 0, 1) := by decide +kernel
theorem dX10_executeRequest_96 : decode cX10_executeRequest 96 = .ok (.getfield 24, 3) := by decide +kernel
theorem dX10_executeRequest_99 : decode cX10_executeRequest 99 = .ok (.getfield 62, 3) := by decide +kernel
theorem dX10_executeRequest_102 : decode cX10_executeRequest 102 = .ok (.iload_n 1, 1) := by decide +kernel
theorem dX10_executeRequest_103 : decode cX10_executeRequest 103 = .ok (.iaload, 1) := by decide +kernel
theorem dX10_executeRequest_104 : decode cX10_executeRequest 104 = .ok (.iadd, 1) := by decide +kernel
theorem dX10_executeRequest_105 : decode cX10_executeRequest 105 = .ok (.iastore, 1) := by decide +kernel
theorem dX10_executeRequest_106 : decode cX10_executeRequest 106 = .ok (.return_, 1) := by decide +kernel
theorem dX11_init_0 : decode cX11_init 0 = .ok (.aload_n 0, 1) := by decide +kernel
theorem dX11_init_1 : decode cX11_init 1 = .ok (.invokespecial 1, 3) := by decide +kernel
theorem dX11_init_4 : decode cX11_init 4 = .ok (.aload_n 0, 1) := by decide +kernel
theorem dX11_init_5 : decode cX11_init 5 = .ok (.iconst 3, 1) := by decide +kernel
theorem dX11_init_6 : decode cX11_init 6 = .ok (.iconst 2, 1) := by decide +kernel
theorem dX11_init_7 : decode cX11_init 7 = .ok (.iload_n 1, 1) := by decide +kernel
theorem dX11_init_8 : decode cX11_init 8 = .ok (.iconst 3, 1) := by decide +kernel
theorem dX11_init_9 : decode cX11_init 9 = .ok (.invokestatic 7, 3) := by decide +kernel
theorem dX11_init_12 : decode cX11_init 12 = .ok (.imul, 1) := by decide +kernel
theorem dX11_init_13 : decode cX11_init 13 = .ok (.iadd, 1) := by decide +kernel
theorem dX11_init_14 : decode cX11_init 14 = .ok (.putfield 13, 3) := by decide +kernel
theorem dX11_init_17 : decode cX11_init 17 = .ok (.aload_n 0, 1) := by decide +kernel
theorem dX11_init_18 : decode cX11_init 18 = .ok (.new 19, 3) := by decide +kernel
theorem dX11_init_21 : decode cX11_init 21 = .ok (.dup, 1) := by decide +kernel
theorem dX11_init_22 : decode cX11_init 22 = .ok (.invokespecial 21, 3) := by decide +kernel
theorem dX11_init_25 : decode cX11_init 25 = .ok (.putfield 22, 3) := by decide +kernel
theorem dX11_init_28 : decode cX11_init 28 = .ok (.aload_n 0, 1) := by decide +kernel
theorem dX11_init_29 : decode cX11_init 29 = .ok (.new 26, 3) := by decide +kernel
theorem dX11_init_32 : decode cX11_init 32 = .ok (.dup, 1) := by decide +kernel
theorem dX11_init_33 : decode cX11_init 33 = .ok (.aload_n 0, 1) := by decide +kernel
theorem dX11_init_34 : decode cX11_init 34 = .ok (.getfield 22, 3) := by decide +kernel
theorem dX11_init_37 : decode cX11_init 37 = .ok (.invokespecial 28, 3) := by decide +kernel
theorem dX11_init_40 : decode cX11_init 40 = .ok (.putfield 31, 3) := by decide +kernel
theorem dX11_init_43 : decode cX11_init 43 = .ok (.aload_n 0, 1) := by decide +kernel
theorem dX11_init_44 : decode cX11_init 44 = .ok (.new 35, 3) := by decide +kernel
theorem dX11_init_47 : decode cX11_init 47 = .ok (.dup, 1) := by decide +kernel
theorem dX11_init_48 : decode cX11_init 48 = .ok (.invokespecial 37, 3) := by decide +kernel
theorem dX11_init_51 : decode cX11_init 51 = .ok (.putfield 38, 3) := by decide +kernel
theorem dX11_init_54 : decode cX11_init 54 = .ok (.aload_n 0, 1) := by decide +kernel
theorem dX11_init_55 : decode cX11_init 55 = .ok (.new 42, 3) := by decide +kernel
theorem dX11_init_58 : decode cX11_init 58 = .ok (.dup, 1) := by decide +kernel
theorem dX11_init_59 : decode cX11_init 59 = .ok (.invokespecial 44, 3) := by decide +kernel
theorem dX11_init_62 : decode cX11_init 62 = .ok (.putfield 45, 3) := by decide +kernel
theorem dX11_init_65 : decode cX11_init 65 = .ok (.aload_n 0, 1) := by decide +kernel
theorem dX11_init_66 : decode cX11_init 66 = .ok (.aload_n 0, 1) := by decide +kernel
theorem dX11_init_67 : decode cX11_init 67 = .ok (.getfield 13, 3) := by decide +kernel
theorem dX11_init_70 : decode cX11_init 70 = .ok (.anewarray 49, 3) := by decide +kernel
theorem dX11_init_73 : decode cX11_init 73 = .ok (.putfield 51, 3) := by decide +kernel
theorem dX11_init_76 : decode cX11_init 76 = .ok (.iconst 0, 1) := by decide +kernel
theorem dX11_init_77 : decode cX11_init 77 = .ok (.istore_n 2, 1) := by decide +kernel
theorem dX11_init_78 : decode cX11_init 78 = .ok (.iload_n 2, 1) := by decide +kernel
theorem dX11_init_79 : decode cX11_init 79 = .ok (.aload_n 0, 1) := by decide +kernel
theorem dX11_init_80 : decode cX11_init 80 = .ok (.getfield 13, 3) := by decide +kernel
theorem dX11_init_83 : decode cX11_init 83 = .ok (.if_icmp .ge 39, 3) := by decide +kernel
theorem dX11_init_86 : decode cX11_init 86 = .ok (.aload_n 0, 1) := by decide +kernel
theorem dX11_init_87 : decode cX11_init 87 = .ok (.getfield 51, 3) := by decide +kernel
theorem dX11_init_90 : decode cX11_init 90 = .ok (.iload_n 2, 1) := by decide +kernel
theorem dX11_init_91 : decode cX11_init 91 = .ok (.new 49, 3) := by decide +kernel
theorem dX11_init_94 : decode cX11_init 94 = .ok (.dup, 1) := by decide +kernel
theorem dX11_init_95 : decode cX11_init 95 = .ok (.iload_n 2, 1) := by decide +kernel
theorem dX11_init_96 : decode cX11_init 96 = .ok (.aload_n 0, 1) := by decide +kernel
theorem dX11_init_97 : decode cX11_init 97 = .ok (.getfield 13, 3) := by decide +kernel
theorem dX11_init_100 : decode cX11_init 100 = .ok (.aload_n 0, 1) := by decide +kernel
theorem dX11_init_101 : decode cX11_init 101 = .ok (.getfield 22, 3) := by decide +kernel
theorem dX11_init_104 : decode cX11_init 104 = .ok (.aload_n 0, 1) := by decide +kernel
theorem dX11_init_105 : decode cX11_init 105 = .ok (.getfield 31, 3) := by decide +kernel
theorem dX11_init_108 : decode cX11_init 108 = .ok (.aload_n 0, 1) := by decide +kernel
theorem dX11_init_109 : decode cX11_init 109 = .ok (.getfield 38, 3) := by decide +kernel
theorem dX11_init_112 : decode cX11_init 112 = .ok (.invokespecial 55, 3) := by decide +kernel
theorem dX11_init_115 : decode cX11_init 115 = .ok (.aastore, 1) := by decide +kernel
theorem dX11_init_116 : decode cX11_init 116 = .ok (.iinc 2 1, 3) := by decide +kernel
theorem dX11_init_119 : decode cX11_init 119 = .ok (.goto (-41), 3) := by decide +kernel
theorem dX11_init_122 : decode cX11_init 122 = .ok (.aload_n 0, 1) := by decide +kernel
theorem dX11_init_123 : decode cX11_init 123 = .ok (.iconst 4, 1) := by decide +kernel
theorem dX11_init_124 : decode cX11_init 124 = .ok (.anewarray 58, 3) := by decide +kernel
theorem dX11_init_127 : decode cX11_init 127 = .ok (.putfield 60, 3) := by decide +kernel
theorem dX11_init_130 : decode cX11_init 130 = .ok (.iconst 0, 1) := by decide +kernel
theorem dX11_init_131 : decode cX11_init 131 = .ok (.istore_n 2, 1) := by decide +kernel
theorem dX11_init_132 : decode cX11_init 132 = .ok (.iload_n 2, 1) := by decide +kernel
theorem dX11_init_133 : decode cX11_init 133 = .ok (.iconst 4, 1) := by decide +kernel
theorem dX11_init_134 : decode cX11_init 134 = .ok (.if_icmp .ge 26, 3) := by decide +kernel
theorem dX11_init_137 : decode cX11_init 137 = .ok (.aload_n 0, 1) := by decide +kernel
theorem dX11_init_138 : decode cX11_init 138 = .ok (.getfield 60, 3) := by decide +kernel
theorem dX11_init_141 : decode cX11_init 141 = .ok (.iload_n 2, 1) := by decide +kernel
theorem dX11_init_142 : decode cX11_init 142 = .ok (.new 58, 3) := by decide +kernel
theorem dX11_init_145 : decode cX11_init 145 = .ok (.dup, 1) := by decide +kernel
theorem dX11_init_146 : decode cX11_init 146 = .ok (.aload_n 0, 1) := by decide +kernel
theorem dX11_init_147 : decode cX11_init 147 = .ok (.getfield 13, 3) := by decide +kernel
theorem dX11_init_150 : decode cX11_init 150 = .ok (.invokespecial 64, 3) := by decide +kernel
theorem dX11_init_153 : decode cX11_init 153 = .ok (.aastore, 1) := by decide +kernel
theorem dX11_init_154 : decode cX11_init 154 = .ok (.iinc 2 1, 3) := by decide +kernel
theorem dX11_init_157 : decode cX11_init 157 = .ok (.goto (-25), 3) := by decide +kernel
theorem dX11_init_160 : decode cX11_init 160 = .ok (.aload_n 0, 1) := by decide +kernel
theorem dX11_init_161 : decode cX11_init 161 = .ok (.iconst 1, 1) := by decide +kernel
theorem dX11_init_162 : decode cX11_init 162 = .ok (.putfield 67, 3) := by decide +kernel
theorem dX11_init_165 : decode cX11_init 165 = .ok (.aload_n 0, 1) := by decide +kernel
theorem dX11_init_166 : decode cX11_init 166 = .ok (.iconst 1, 1) := by decide +kernel
theorem dX11_init_167 : decode cX11_init 167 = .ok (.putfield 71, 3) := by decide +kernel
theorem dX11_init_170 : decode cX11_init 170 = .ok (.return_, 1) := by decide +kernel
theorem dX11_request_0 : decode cX11_request 0 = .ok (.aload_n 0, 1) := by decide +kernel
theorem dX11_request_1 : decode cX11_request 1 = .ok (.iload_n 1, 1) := by decide +kernel
theorem dX11_request_2 : decode cX11_request 2 = .ok (.invokevirtual 74, 3) := by decide +kernel
theorem dX11_request_5 : decode cX11_request 5 = .ok (.ifCond .eq 11, 3) := by decide +kernel
theorem dX11_request_8 : decode cX11_request 8 = .ok (.aload_n 0, 1) := by decide +kernel
theorem dX11_request_9 : decode cX11_request 9 = .ok (.iload_n 3, 1) := by decide +kernel
theorem dX11_request_10 : decode cX11_request 10 = .ok (.invokevirtual 78, 3) := by decide +kernel
theorem dX11_request_13 : decode cX11_request 13 = .ok (.ifCond .ne 13, 3) := by decide +kernel
theorem dX11_request_16 : decode cX11_request 16 = .ok (.new 81, 3) := by decide +kernel
theorem dX11_request_19 : decode cX11_request 19 = .ok (.dup, 1) := by decide +kernel
theorem dX11_request_20 : decode cX11_request 20 = .ok (.ldc 83, 2) := by decide +kernel
theorem dX11_request_22 : decode cX11_request 22 = .ok (.invokespecial 85, 3) := by decide +kernel
theorem dX11_request_25 : decode cX11_request 25 = .ok (.athrow, 1) := by decide +kernel
theorem dX11_request_26 : decode cX11_request 26 = .ok (.iload_n 2, 1) := by decide +kernel
theorem dX11_request_27 : decode cX11_request 27 = .ok (.ifCond .eq 23, 3) := by decide +kernel
theorem dX11_request_30 : decode cX11_request 30 = .ok (.iload_n 2, 1) := by decide +kernel
theorem dX11_request_31 : decode cX11_request 31 = .ok (.iconst 1, 1) := by decide +kernel
theorem dX11_request_32 : decode cX11_request 32 = .ok (.if_icmp .eq 18, 3) := by decide +kernel
theorem dX11_request_35 : decode cX11_request 35 = .ok (.iload_n 2, 1) := by decide +kernel
theorem dX11_request_36 : decode cX11_request 36 = .ok (.iconst 2, 1) := by decide +kernel
theorem dX11_request_37 : decode cX11_request 37 = .ok (.if_icmp .eq 13, 3) := by decide +kernel
theorem dX11_request_40 : decode cX11_request 40 = .ok (.new 88, 3) := by decide +kernel
theorem dX11_request_43 : decode cX11_request 43 = .ok (.dup, 1) := by decide +kernel
theorem dX11_request_44 : decode cX11_request 44 = .ok (.ldc 90, 2) := by decide +kernel
theorem dX11_request_46 : decode cX11_request 46 = .ok (.invokespecial 92, 3) := by decide +kernel
theorem dX11_request_49 : decode cX11_request 49 = .ok (.athrow, 1) := by decide +kernel
theorem dX11_request_50 : decode cX11_request 50 = .ok (.aload_n 0, 1) := by decide +kernel
theorem dX11_request_51 : decode cX11_request 51 = .ok (.getfield 60, 3) := by decide +kernel
theorem dX11_request_54 : decode cX11_request 54 = .ok (.iload_n 1, 1) := by decide +kernel
theorem dX11_request_55 : decode cX11_request 55 = .ok (.aaload, 1) := by decide +kernel
theorem dX11_request_56 : decode cX11_request 56 = .ok (.astore 5, 2) := by decide +kernel
theorem dX11_request_58 : decode cX11_request 58 = .ok (.aload 5, 2) := by decide +kernel
theorem dX11_request_60 : decode cX11_request 60 = .ok (.getfield 93, 3) := by decide +kernel
theorem dX11_request_63 : decode cX11_request 63 = .ok (.iconst 1, 1) := by decide +kernel
theorem dX11_request_64 : decode cX11_request 64 = .ok (.if_icmp .ne 13, 3) := by decide +kernel
theorem dX11_request_67 : decode cX11_request 67 = .ok (.new 96, 3) := by decide +kernel
theorem dX11_request_70 : decode cX11_request 70 = .ok (.dup, 1) := by decide +kernel
theorem dX11_request_71 : decode cX11_request 71 = .ok (.ldc 98, 2) := by decide +kernel
theorem dX11_request_73 : decode cX11_request 73 = .ok (.invokespecial 100, 3) := by decide +kernel
theorem dX11_request_76 : decode cX11_request 76 = .ok (.athrow, 1) := by decide +kernel
theorem dX11_request_77 : decode cX11_request 77 = .ok (.aload_n 0, 1) := by decide +kernel
theorem dX11_request_78 : decode cX11_request 78 = .ok (.getfield 22, 3) := by decide +kernel
theorem dX11_request_81 : decode cX11_request 81 = .ok (.iload_n 1, 1) := by decide +kernel
theorem dX11_request_82 : decode cX11_request 82 = .ok (.aload 5, 2) := by decide +kernel
theorem dX11_request_84 : decode cX11_request 84 = .ok (.getfield 101, 3) := by decide +kernel
theorem dX11_request_87 : decode cX11_request 87 = .ok (.iconst 1, 1) := by decide +kernel
theorem dX11_request_88 : decode cX11_request 88 = .ok (.iadd, 1) := by decide +kernel
theorem dX11_request_89 : decode cX11_request 89 = .ok (.iload_n 2, 1) := by decide +kernel
theorem dX11_request_90 : decode cX11_request 90 = .ok (.iload_n 3, 1) := by decide +kernel
theorem dX11_request_91 : decode cX11_request 91 = .ok (.iload 4, 2) := by decide +kernel
theorem dX11_request_93 : decode cX11_request 93 = .ok (.invokevirtual 104, 3) := by decide +kernel
theorem dX11_request_96 : decode cX11_request 96 = .ok (.istore 6, 2) := by decide +kernel
theorem dX11_request_98 : decode cX11_request 98 = .ok (.iload 6, 2) := by decide +kernel
theorem dX11_request_100 : decode cX11_request 100 = .ok (.ifCond .ne 5, 3) := by decide +kernel
theorem dX11_request_103 : decode cX11_request 103 = .ok (.iconst (-1), 1) := by decide +kernel
theorem dX11_request_104 : decode cX11_request 104 = .ok (.ireturn, 1) := by decide +kernel
theorem dX11_request_105 : decode cX11_request 105 = .ok (.aload 5, 2) := by decide +kernel
theorem dX11_request_107 : decode cX11_request 107 = .ok (.iload 6, 2) := by decide +kernel
theorem dX11_request_109 : decode cX11_request 109 = .ok (.invokevirtual 108, 3) := by decide +kernel
theorem dX11_request_112 : decode cX11_request 112 = .ok (.aload_n 0, 1) := by decide +kernel
theorem dX11_request_113 : decode cX11_request 113 = .ok (.iload 6, 2) := by decide +kernel
theorem dX11_request_115 : decode cX11_request 115 = .ok (.invokevirtual 111, 3) := by decide +kernel
theorem dX11_request_118 : decode cX11_request 118 = .ok (.aload 5, 2) := by decide +kernel
theorem dX11_request_120 : decode cX11_request 120 = .ok (.getfield 101, 3) := by decide +kernel
theorem dX11_request_123 : decode cX11_request 123 = .ok (.ireturn, 1) := by decide +kernel
theorem dX11_again_0 : decode cX11_again 0 = .ok (.aload_n 0, 1) := by decide +kernel
theorem dX11_again_1 : decode cX11_again 1 = .ok (.iload_n 1, 1) := by decide +kernel
theorem dX11_again_2 : decode cX11_again 2 = .ok (.invokevirtual 74, 3) := by decide +kernel
theorem dX11_again_5 : decode cX11_again 5 = .ok (.ifCond .ne 13, 3) := by decide +kernel
theorem dX11_again_8 : decode cX11_again 8 = .ok (.new 81, 3) := by decide +kernel
theorem dX11_again_11 : decode cX11_again 11 = .ok (.dup, 1) := by decide +kernel
theorem dX11_again_12 : decode cX11_again 12 = .ok (.ldc 114, 2) := by decide +kernel
theorem dX11_again_14 : decode cX11_again 14 = .ok (.invokespecial 85, 3) := by decide +kernel
theorem dX11_again_17 : decode cX11_again 17 = .ok (.athrow, 1) := by decide +kernel
theorem dX11_again_18 : decode cX11_again 18 = .ok (.aload_n 0, 1) := by decide +kernel
theorem dX11_again_19 : decode cX11_again 19 = .ok (.getfield 60, 3) := by decide +kernel
theorem dX11_again_22 : decode cX11_again 22 = .ok (.iload_n 1, 1) := by decide +kernel
theorem dX11_again_23 : decode cX11_again 23 = .ok (.aaload, 1) := by decide +kernel
theorem dX11_again_24 : decode cX11_again 24 = .ok (.getfield 93, 3) := by decide +kernel
theorem dX11_again_27 : decode cX11_again 27 = .ok (.iconst 1, 1) := by decide +kernel
theorem dX11_again_28 : decode cX11_again 28 = .ok (.if_icmp .eq 13, 3) := by decide +kernel
theorem dX11_again_31 : decode cX11_again 31 = .ok (.new 96, 3) := by decide +kernel
theorem dX11_again_34 : decode cX11_again 34 = .ok (.dup, 1) := by decide +kernel
theorem dX11_again_35 : decode cX11_again 35 = .ok (.ldc 116, 2) := by decide +kernel
theorem dX11_again_37 : decode cX11_again 37 = .ok (.invokespecial 100, 3) := by decide +kernel
theorem dX11_again_40 : decode cX11_again 40 = .ok (.athrow, 1) := by decide +kernel
theorem dX11_again_41 : decode cX11_again 41 = .ok (.aload_n 0, 1) := by decide +kernel
theorem dX11_again_42 : decode cX11_again 42 = .ok (.aload_n 0, 1) := by decide +kernel
theorem dX11_again_43 : decode cX11_again 43 = .ok (.getfield 60, 3) := by decide +kernel
theorem dX11_again_46 : decode cX11_again 46 = .ok (.iload_n 1, 1) := by decide +kernel
theorem dX11_again_47 : decode cX11_again 47 = .ok (.aaload, 1) := by decide +kernel
theorem dX11_again_48 : decode cX11_again 48 = .ok (.getfield 118, 3) := by decide +kernel
theorem dX11_again_51 : decode cX11_again 51 = .ok (.invokevirtual 111, 3) := by decide +kernel
theorem dX11_again_54 : decode cX11_again 54 = .ok (.return_, 1) := by decide +kernel
theorem dX11_deliver_0 : decode cX11_deliver 0 = .ok (.aload_n 0, 1) := by decide +kernel
theorem dX11_deliver_1 : decode cX11_deliver 1 = .ok (.getfield 38, 3) := by decide +kernel
theorem dX11_deliver_4 : decode cX11_deliver 4 = .ok (.iload_n 1, 1) := by decide +kernel
theorem dX11_deliver_5 : decode cX11_deliver 5 = .ok (.invokevirtual 121, 3) := by decide +kernel
theorem dX11_deliver_8 : decode cX11_deliver 8 = .ok (.istore_n 2, 1) := by decide +kernel
theorem dX11_deliver_9 : decode cX11_deliver 9 = .ok (.iload_n 2, 1) := by decide +kernel
theorem dX11_deliver_10 : decode cX11_deliver 10 = .ok (.iconst (-1), 1) := by decide +kernel
theorem dX11_deliver_11 : decode cX11_deliver 11 = .ok (.if_icmp .ne 13, 3) := by decide +kernel
theorem dX11_deliver_14 : decode cX11_deliver 14 = .ok (.new 88, 3) := by decide +kernel
theorem dX11_deliver_17 : decode cX11_deliver 17 = .ok (.dup, 1) := by decide +kernel
theorem dX11_deliver_18 : decode cX11_deliver 18 = .ok (.ldc 125, 2) := by decide +kernel
theorem dX11_deliver_20 : decode cX11_deliver 20 = .ok (.invokespecial 92, 3) := by decide +kernel
theorem dX11_deliver_23 : decode cX11_deliver 23 = .ok (.athrow, 1) := by decide +kernel
theorem dX11_deliver_24 : decode cX11_deliver 24 = .ok (.aload_n 0, 1) := by decide +kernel
theorem dX11_deliver_25 : decode cX11_deliver 25 = .ok (.aload_n 0, 1) := by decide +kernel
theorem dX11_deliver_26 : decode cX11_deliver 26 = .ok (.getfield 38, 3) := by decide +kernel
theorem dX11_deliver_29 : decode cX11_deliver 29 = .ok (.iload_n 2, 1) := by decide +kernel
theorem dX11_deliver_30 : decode cX11_deliver 30 = .ok (.invokevirtual 127, 3) := by decide +kernel
theorem dX11_deliver_33 : decode cX11_deliver 33 = .ok (.invokevirtual 131, 3) := by decide +kernel
theorem dX11_deliver_36 : decode cX11_deliver 36 = .ok (.return_, 1) := by decide +kernel
theorem dX11_lose_0 : decode cX11_lose 0 = .ok (.aload_n 0, 1) := by decide +kernel
theorem dX11_lose_1 : decode cX11_lose 1 = .ok (.getfield 38, 3) := by decide +kernel
theorem dX11_lose_4 : decode cX11_lose 4 = .ok (.iload_n 1, 1) := by decide +kernel
theorem dX11_lose_5 : decode cX11_lose 5 = .ok (.invokevirtual 121, 3) := by decide +kernel
theorem dX11_lose_8 : decode cX11_lose 8 = .ok (.istore_n 2, 1) := by decide +kernel
theorem dX11_lose_9 : decode cX11_lose 9 = .ok (.iload_n 2, 1) := by decide +kernel
theorem dX11_lose_10 : decode cX11_lose 10 = .ok (.iconst (-1), 1) := by decide +kernel
theorem dX11_lose_11 : decode cX11_lose 11 = .ok (.if_icmp .ne 13, 3) := by decide +kernel
theorem dX11_lose_14 : decode cX11_lose 14 = .ok (.new 88, 3) := by decide +kernel
theorem dX11_lose_17 : decode cX11_lose 17 = .ok (.dup, 1) := by decide +kernel
theorem dX11_lose_18 : decode cX11_lose 18 = .ok (.ldc 125, 2) := by decide +kernel
theorem dX11_lose_20 : decode cX11_lose 20 = .ok (.invokespecial 92, 3) := by decide +kernel
theorem dX11_lose_23 : decode cX11_lose 23 = .ok (.athrow, 1) := by decide +kernel
theorem dX11_lose_24 : decode cX11_lose 24 = .ok (.aload_n 0, 1) := by decide +kernel
theorem dX11_lose_25 : decode cX11_lose 25 = .ok (.getfield 38, 3) := by decide +kernel
theorem dX11_lose_28 : decode cX11_lose 28 = .ok (.iload_n 2, 1) := by decide +kernel
theorem dX11_lose_29 : decode cX11_lose 29 = .ok (.invokevirtual 127, 3) := by decide +kernel
theorem dX11_lose_32 : decode cX11_lose 32 = .ok (.pop, 1) := by decide +kernel
theorem dX11_lose_33 : decode cX11_lose 33 = .ok (.aload_n 0, 1) := by decide +kernel
theorem dX11_lose_34 : decode cX11_lose 34 = .ok (.getfield 38, 3) := by decide +kernel
theorem dX11_lose_37 : decode cX11_lose 37 = .ok (.dup, 1) := by decide +kernel
theorem dX11_lose_38 : decode cX11_lose 38 = .ok (.getfield 135, 3) := by decide +kernel
theorem dX11_lose_41 : decode cX11_lose 41 = .ok (.iconst 1, 1) := by decide +kernel
theorem dX11_lose_42 : decode cX11_lose 42 = .ok (.iadd, 1) := by decide +kernel
theorem dX11_lose_43 : decode cX11_lose 43 = .ok (.putfield 135, 3) := by decide +kernel
theorem dX11_lose_46 : decode cX11_lose 46 = .ok (.return_, 1) := by decide +kernel
theorem dX11_flow_0 : decode cX11_flow 0 = .ok (.iload_n 1, 1) := by decide +kernel
theorem dX11_flow_1 : decode cX11_flow 1 = .ok (.ifCond .lt 9, 3) := by decide +kernel
theorem dX11_flow_4 : decode cX11_flow 4 = .ok (.iload_n 1, 1) := by decide +kernel
theorem dX11_flow_5 : decode cX11_flow 5 = .ok (.bipush 40, 2) := by decide +kernel
theorem dX11_flow_7 : decode cX11_flow 7 = .ok (.if_icmp .le 13, 3) := by decide +kernel
theorem dX11_flow_10 : decode cX11_flow 10 = .ok (.new 88, 3) := by decide +kernel
theorem dX11_flow_13 : decode cX11_flow 13 = .ok (.dup, 1) := by decide +kernel
theorem dX11_flow_14 : decode cX11_flow 14 = .ok (.ldc 138, 2) := by decide +kernel
theorem dX11_flow_16 : decode cX11_flow 16 = .ok (.invokespecial 92, 3) := by decide +kernel
theorem dX11_flow_19 : decode cX11_flow 19 = .ok (.athrow, 1) := by decide +kernel
theorem dX11_flow_20 : decode cX11_flow 20 = .ok (.iconst 0, 1) := by decide +kernel
theorem dX11_flow_21 : decode cX11_flow 21 = .ok (.istore_n 2, 1) := by decide +kernel
theorem dX11_flow_22 : decode cX11_flow 22 = .ok (.iload_n 2, 1) := by decide +kernel
theorem dX11_flow_23 : decode cX11_flow 23 = .ok (.iload_n 1, 1) := by decide +kernel
theorem dX11_flow_24 : decode cX11_flow 24 = .ok (.if_icmp .ge 31, 3) := by decide +kernel
theorem dX11_flow_27 : decode cX11_flow 27 = .ok (.aload_n 0, 1) := by decide +kernel
theorem dX11_flow_28 : decode cX11_flow 28 = .ok (.getfield 38, 3) := by decide +kernel
theorem dX11_flow_31 : decode cX11_flow 31 = .ok (.getfield 140, 3) := by decide +kernel
theorem dX11_flow_34 : decode cX11_flow 34 = .ok (.ifCond .le 21, 3) := by decide +kernel
theorem dX11_flow_37 : decode cX11_flow 37 = .ok (.aload_n 0, 1) := by decide +kernel
theorem dX11_flow_38 : decode cX11_flow 38 = .ok (.aload_n 0, 1) := by decide +kernel
theorem dX11_flow_39 : decode cX11_flow 39 = .ok (.getfield 38, 3) := by decide +kernel
theorem dX11_flow_42 : decode cX11_flow 42 = .ok (.iconst 0, 1) := by decide +kernel
theorem dX11_flow_43 : decode cX11_flow 43 = .ok (.invokevirtual 127, 3) := by decide +kernel
theorem dX11_flow_46 : decode cX11_flow 46 = .ok (.invokevirtual 131, 3) := by decide +kernel
theorem dX11_flow_49 : decode cX11_flow 49 = .ok (.iinc 2 1, 3) := by decide +kernel
theorem dX11_flow_52 : decode cX11_flow 52 = .ok (.goto (-30), 3) := by decide +kernel
theorem dX11_flow_55 : decode cX11_flow 55 = .ok (.iload_n 2, 1) := by decide +kernel
theorem dX11_flow_56 : decode cX11_flow 56 = .ok (.ireturn, 1) := by decide +kernel
theorem dX11_down_0 : decode cX11_down 0 = .ok (.aload_n 0, 1) := by decide +kernel
theorem dX11_down_1 : decode cX11_down 1 = .ok (.iload_n 1, 1) := by decide +kernel
theorem dX11_down_2 : decode cX11_down 2 = .ok (.invokevirtual 143, 3) := by decide +kernel
theorem dX11_down_5 : decode cX11_down 5 = .ok (.ifCond .ne 13, 3) := by decide +kernel
theorem dX11_down_8 : decode cX11_down 8 = .ok (.new 81, 3) := by decide +kernel
theorem dX11_down_11 : decode cX11_down 11 = .ok (.dup, 1) := by decide +kernel
theorem dX11_down_12 : decode cX11_down 12 = .ok (.ldc 146, 2) := by decide +kernel
theorem dX11_down_14 : decode cX11_down 14 = .ok (.invokespecial 85, 3) := by decide +kernel
theorem dX11_down_17 : decode cX11_down 17 = .ok (.athrow, 1) := by decide +kernel
theorem dX11_down_18 : decode cX11_down 18 = .ok (.aload_n 0, 1) := by decide +kernel
theorem dX11_down_19 : decode cX11_down 19 = .ok (.getfield 51, 3) := by decide +kernel
theorem dX11_down_22 : decode cX11_down 22 = .ok (.iload_n 1, 1) := by decide +kernel
theorem dX11_down_23 : decode cX11_down 23 = .ok (.aaload, 1) := by decide +kernel
theorem dX11_down_24 : decode cX11_down 24 = .ok (.getfield 148, 3) := by decide +kernel
theorem dX11_down_27 : decode cX11_down 27 = .ok (.ifCond .ne 16, 3) := by decide +kernel
theorem dX11_down_30 : decode cX11_down 30 = .ok (.aload_n 0, 1) := by decide +kernel
theorem dX11_down_31 : decode cX11_down 31 = .ok (.invokevirtual 151, 3) := by decide +kernel
theorem dX11_down_34 : decode cX11_down 34 = .ok (.aload_n 0, 1) := by decide +kernel
theorem dX11_down_35 : decode cX11_down 35 = .ok (.getfield 13, 3) := by decide +kernel
theorem dX11_down_38 : decode cX11_down 38 = .ok (.iconst 2, 1) := by decide +kernel
theorem dX11_down_39 : decode cX11_down 39 = .ok (.idiv, 1) := by decide +kernel
theorem dX11_down_40 : decode cX11_down 40 = .ok (.if_icmp .lt 13, 3) := by decide +kernel
theorem dX11_down_43 : decode cX11_down 43 = .ok (.new 96, 3) := by decide +kernel
theorem dX11_down_46 : decode cX11_down 46 = .ok (.dup, 1) := by decide +kernel
theorem dX11_down_47 : decode cX11_down 47 = .ok (.ldc 155, 2) := by decide +kernel
theorem dX11_down_49 : decode cX11_down 49 = .ok (.invokespecial 100, 3) := by decide +kernel
theorem dX11_down_52 : decode cX11_down 52 = .ok (.athrow, 1) := by decide +kernel
theorem dX11_down_53 : decode cX11_down 53 = .ok (.aload_n 0, 1) := by decide +kernel
theorem dX11_down_54 : decode cX11_down 54 = .ok (.getfield 51, 3) := by decide +kernel
theorem dX11_down_57 : decode cX11_down 57 = .ok (.iload_n 1, 1) := by decide +kernel
theorem dX11_down_58 : decode cX11_down 58 = .ok (.aaload, 1) := by decide +kernel
theorem dX11_down_59 : decode cX11_down 59 = .ok (.iconst 1, 1) := by decide +kernel
theorem dX11_down_60 : decode cX11_down 60 = .ok (.putfield 148, 3) := by decide +kernel
theorem dX11_down_63 : decode cX11_down 63 = .ok (.aload_n 0, 1) := by decide +kernel
theorem dX11_down_64 : decode cX11_down 64 = .ok (.getfield 51, 3) := by decide +kernel
theorem dX11_down_67 : decode cX11_down 67 = .ok (.iload_n 1, 1) := by decide +kernel
theorem dX11_down_68 : decode cX11_down 68 = .ok (.aaload, 1) := by decide +kernel
theorem dX11_down_69 : decode cX11_down 69 = .ok (.invokevirtual 157, 3) := by decide +kernel
theorem dX11_down_72 : decode cX11_down 72 = .ok (.return_, 1) := by decide +kernel
theorem dX11_up_0 : decode cX11_up 0 = .ok (.aload_n 0, 1) := by decide +kernel
theorem dX11_up_1 : decode cX11_up 1 = .ok (.iload_n 1, 1) := by decide +kernel
theorem dX11_up_2 : decode cX11_up 2 = .ok (.invokevirtual 143, 3) := by decide +kernel
theorem dX11_up_5 : decode cX11_up 5 = .ok (.ifCond .ne 13, 3) := by decide +kernel
theorem dX11_up_8 : decode cX11_up 8 = .ok (.new 81, 3) := by decide +kernel
theorem dX11_up_11 : decode cX11_up 11 = .ok (.dup, 1) := by decide +kernel
theorem dX11_up_12 : decode cX11_up 12 = .ok (.ldc 146, 2) := by decide +kernel
theorem dX11_up_14 : decode cX11_up 14 = .ok (.invokespecial 85, 3) := by decide +kernel
theorem dX11_up_17 : decode cX11_up 17 = .ok (.athrow, 1) := by decide +kernel
theorem dX11_up_18 : decode cX11_up 18 = .ok (.aload_n 0, 1) := by decide +kernel
theorem dX11_up_19 : decode cX11_up 19 = .ok (.getfield 51, 3) := by decide +kernel
theorem dX11_up_22 : decode cX11_up 22 = .ok (.iload_n 1, 1) := by decide +kernel
theorem dX11_up_23 : decode cX11_up 23 = .ok (.aaload, 1) := by decide +kernel
theorem dX11_up_24 : decode cX11_up 24 = .ok (.getfield 148, 3) := by decide +kernel
theorem dX11_up_27 : decode cX11_up 27 = .ok (.ifCond .ne 13, 3) := by decide +kernel
theorem dX11_up_30 : decode cX11_up 30 = .ok (.new 96, 3) := by decide +kernel
theorem dX11_up_33 : decode cX11_up 33 = .ok (.dup, 1) := by decide +kernel
theorem dX11_up_34 : decode cX11_up 34 = .ok (.ldc 160, 2) := by decide +kernel
theorem dX11_up_36 : decode cX11_up 36 = .ok (.invokespecial 100, 3) := by decide +kernel
theorem dX11_up_39 : decode cX11_up 39 = .ok (.athrow, 1) := by decide +kernel
theorem dX11_up_40 : decode cX11_up 40 = .ok (.aload_n 0, 1) := by decide +kernel
theorem dX11_up_41 : decode cX11_up 41 = .ok (.getfield 51, 3) := by decide +kernel
theorem dX11_up_44 : decode cX11_up 44 = .ok (.iload_n 1, 1) := by decide +kernel
theorem dX11_up_45 : decode cX11_up 45 = .ok (.aaload, 1) := by decide +kernel
theorem dX11_up_46 : decode cX11_up 46 = .ok (.iconst 0, 1) := by decide +kernel
theorem dX11_up_47 : decode cX11_up 47 = .ok (.putfield 148, 3) := by decide +kernel
theorem dX11_up_50 : decode cX11_up 50 = .ok (.return_, 1) := by decide +kernel
theorem dX11_suspect_0 : decode cX11_suspect 0 = .ok (.aload_n 0, 1) := by decide +kernel
theorem dX11_suspect_1 : decode cX11_suspect 1 = .ok (.iload_n 1, 1) := by decide +kernel
theorem dX11_suspect_2 : decode cX11_suspect 2 = .ok (.invokevirtual 143, 3) := by decide +kernel
theorem dX11_suspect_5 : decode cX11_suspect 5 = .ok (.ifCond .ne 13, 3) := by decide +kernel
theorem dX11_suspect_8 : decode cX11_suspect 8 = .ok (.new 81, 3) := by decide +kernel
theorem dX11_suspect_11 : decode cX11_suspect 11 = .ok (.dup, 1) := by decide +kernel
theorem dX11_suspect_12 : decode cX11_suspect 12 = .ok (.ldc 146, 2) := by decide +kernel
theorem dX11_suspect_14 : decode cX11_suspect 14 = .ok (.invokespecial 85, 3) := by decide +kernel
theorem dX11_suspect_17 : decode cX11_suspect 17 = .ok (.athrow, 1) := by decide +kernel
theorem dX11_suspect_18 : decode cX11_suspect 18 = .ok (.aload_n 0, 1) := by decide +kernel
theorem dX11_suspect_19 : decode cX11_suspect 19 = .ok (.getfield 51, 3) := by decide +kernel
theorem dX11_suspect_22 : decode cX11_suspect 22 = .ok (.iload_n 1, 1) := by decide +kernel
theorem dX11_suspect_23 : decode cX11_suspect 23 = .ok (.aaload, 1) := by decide +kernel
theorem dX11_suspect_24 : decode cX11_suspect 24 = .ok (.astore_n 2, 1) := by decide +kernel
theorem dX11_suspect_25 : decode cX11_suspect 25 = .ok (.aload_n 2, 1) := by decide +kernel
theorem dX11_suspect_26 : decode cX11_suspect 26 = .ok (.getfield 148, 3) := by decide +kernel
theorem dX11_suspect_29 : decode cX11_suspect 29 = .ok (.ifCond .eq 13, 3) := by decide +kernel
theorem dX11_suspect_32 : decode cX11_suspect 32 = .ok (.new 96, 3) := by decide +kernel
theorem dX11_suspect_35 : decode cX11_suspect 35 = .ok (.dup, 1) := by decide +kernel
theorem dX11_suspect_36 : decode cX11_suspect 36 = .ok (.ldc 162, 2) := by decide +kernel
theorem dX11_suspect_38 : decode cX11_suspect 38 = .ok (.invokespecial 100, 3) := by decide +kernel
theorem dX11_suspect_41 : decode cX11_suspect 41 = .ok (.athrow, 1) := by decide +kernel
theorem dX11_suspect_42 : decode cX11_suspect 42 = .ok (.aload_n 2, 1) := by decide +kernel
theorem dX11_suspect_43 : decode cX11_suspect 43 = .ok (.new 164, 3) := by decide +kernel
theorem dX11_suspect_46 : decode cX11_suspect 46 = .ok (.dup, 1) := by decide +kernel
theorem dX11_suspect_47 : decode cX11_suspect 47 = .ok (.aload_n 2, 1) := by decide +kernel
theorem dX11_suspect_48 : decode cX11_suspect 48 = .ok (.getfield 166, 3) := by decide +kernel
theorem dX11_suspect_51 : decode cX11_suspect 51 = .ok (.getfield 170, 3) := by decide +kernel
theorem dX11_suspect_54 : decode cX11_suspect 54 = .ok (.iconst 1, 1) := by decide +kernel
theorem dX11_suspect_55 : decode cX11_suspect 55 = .ok (.iadd, 1) := by decide +kernel
theorem dX11_suspect_56 : decode cX11_suspect 56 = .ok (.aload_n 2, 1) := by decide +kernel
theorem dX11_suspect_57 : decode cX11_suspect 57 = .ok (.getfield 166, 3) := by decide +kernel
theorem dX11_suspect_60 : decode cX11_suspect 60 = .ok (.getfield 173, 3) := by decide +kernel
theorem dX11_suspect_63 : decode cX11_suspect 63 = .ok (.invokespecial 174, 3) := by decide +kernel
theorem dX11_suspect_66 : decode cX11_suspect 66 = .ok (.invokevirtual 177, 3) := by decide +kernel
theorem dX11_suspect_69 : decode cX11_suspect 69 = .ok (.return_, 1) := by decide +kernel
theorem dX11_nudge_0 : decode cX11_nudge 0 = .ok (.aload_n 0, 1) := by decide +kernel
theorem dX11_nudge_1 : decode cX11_nudge 1 = .ok (.iload_n 1, 1) := by decide +kernel
theorem dX11_nudge_2 : decode cX11_nudge 2 = .ok (.invokevirtual 143, 3) := by decide +kernel
theorem dX11_nudge_5 : decode cX11_nudge 5 = .ok (.ifCond .ne 13, 3) := by decide +kernel
theorem dX11_nudge_8 : decode cX11_nudge 8 = .ok (.new 81, 3) := by decide +kernel
theorem dX11_nudge_11 : decode cX11_nudge 11 = .ok (.dup, 1) := by decide +kernel
theorem dX11_nudge_12 : decode cX11_nudge 12 = .ok (.ldc 146, 2) := by decide +kernel
theorem dX11_nudge_14 : decode cX11_nudge 14 = .ok (.invokespecial 85, 3) := by decide +kernel
theorem dX11_nudge_17 : decode cX11_nudge 17 = .ok (.athrow, 1) := by decide +kernel
theorem dX11_nudge_18 : decode cX11_nudge 18 = .ok (.aload_n 0, 1) := by decide +kernel
theorem dX11_nudge_19 : decode cX11_nudge 19 = .ok (.getfield 51, 3) := by decide +kernel
theorem dX11_nudge_22 : decode cX11_nudge 22 = .ok (.iload_n 1, 1) := by decide +kernel
theorem dX11_nudge_23 : decode cX11_nudge 23 = .ok (.aaload, 1) := by decide +kernel
theorem dX11_nudge_24 : decode cX11_nudge 24 = .ok (.getfield 148, 3) := by decide +kernel
theorem dX11_nudge_27 : decode cX11_nudge 27 = .ok (.ifCond .eq 13, 3) := by decide +kernel
theorem dX11_nudge_30 : decode cX11_nudge 30 = .ok (.new 96, 3) := by decide +kernel
theorem dX11_nudge_33 : decode cX11_nudge 33 = .ok (.dup, 1) := by decide +kernel
theorem dX11_nudge_34 : decode cX11_nudge 34 = .ok (.ldc 162, 2) := by decide +kernel
theorem dX11_nudge_36 : decode cX11_nudge 36 = .ok (.invokespecial 100, 3) := by decide +kernel
theorem dX11_nudge_39 : decode cX11_nudge 39 = .ok (.athrow, 1) := by decide +kernel
theorem dX11_nudge_40 : decode cX11_nudge 40 = .ok (.aload_n 0, 1) := by decide +kernel
theorem dX11_nudge_41 : decode cX11_nudge 41 = .ok (.getfield 38, 3) := by decide +kernel
theorem dX11_nudge_44 : decode cX11_nudge 44 = .ok (.getfield 181, 3) := by decide +kernel
theorem dX11_nudge_47 : decode cX11_nudge 47 = .ok (.istore_n 2, 1) := by decide +kernel
theorem dX11_nudge_48 : decode cX11_nudge 48 = .ok (.aload_n 0, 1) := by decide +kernel
theorem dX11_nudge_49 : decode cX11_nudge 49 = .ok (.getfield 51, 3) := by decide +kernel
theorem dX11_nudge_52 : decode cX11_nudge 52 = .ok (.iload_n 1, 1) := by decide +kernel
theorem dX11_nudge_53 : decode cX11_nudge 53 = .ok (.aaload, 1) := by decide +kernel
theorem dX11_nudge_54 : decode cX11_nudge 54 = .ok (.invokevirtual 184, 3) := by decide +kernel
theorem dX11_nudge_57 : decode cX11_nudge 57 = .ok (.aload_n 0, 1) := by decide +kernel
theorem dX11_nudge_58 : decode cX11_nudge 58 = .ok (.getfield 38, 3) := by decide +kernel
theorem dX11_nudge_61 : decode cX11_nudge 61 = .ok (.getfield 181, 3) := by decide +kernel
theorem dX11_nudge_64 : decode cX11_nudge 64 = .ok (.iload_n 2, 1) := by decide +kernel
theorem dX11_nudge_65 : decode cX11_nudge 65 = .ok (.isub, 1) := by decide +kernel
theorem dX11_nudge_66 : decode cX11_nudge 66 = .ok (.ireturn, 1) := by decide +kernel
theorem dX11_sync_0 : decode cX11_sync 0 = .ok (.aload_n 0, 1) := by decide +kernel
theorem dX11_sync_1 : decode cX11_sync 1 = .ok (.iload_n 1, 1) := by decide +kernel
theorem dX11_sync_2 : decode cX11_sync 2 = .ok (.invokevirtual 143, 3) := by decide +kernel
theorem dX11_sync_5 : decode cX11_sync 5 = .ok (.ifCond .ne 13, 3) := by decide +kernel
theorem dX11_sync_8 : decode cX11_sync 8 = .ok (.new 81, 3) := by decide +kernel
theorem dX11_sync_11 : decode cX11_sync 11 = .ok (.dup, 1) := by decide +kernel
theorem dX11_sync_12 : decode cX11_sync 12 = .ok (.ldc 146, 2) := by decide +kernel
theorem dX11_sync_14 : decode cX11_sync 14 = .ok (.invokespecial 85, 3) := by decide +kernel
theorem dX11_sync_17 : decode cX11_sync 17 = .ok (.athrow, 1) := by decide +kernel
theorem dX11_sync_18 : decode cX11_sync 18 = .ok (.aload_n 0, 1) := by decide +kernel
theorem dX11_sync_19 : decode cX11_sync 19 = .ok (.getfield 51, 3) := by decide +kernel
theorem dX11_sync_22 : decode cX11_sync 22 = .ok (.iload_n 1, 1) := by decide +kernel
theorem dX11_sync_23 : decode cX11_sync 23 = .ok (.aaload, 1) := by decide +kernel
theorem dX11_sync_24 : decode cX11_sync 24 = .ok (.astore_n 2, 1) := by decide +kernel
theorem dX11_sync_25 : decode cX11_sync 25 = .ok (.aload_n 2, 1) := by decide +kernel
theorem dX11_sync_26 : decode cX11_sync 26 = .ok (.getfield 148, 3) := by decide +kernel
theorem dX11_sync_29 : decode cX11_sync 29 = .ok (.ifCond .ne 17, 3) := by decide +kernel
theorem dX11_sync_32 : decode cX11_sync 32 = .ok (.aload_n 2, 1) := by decide +kernel
theorem dX11_sync_33 : decode cX11_sync 33 = .ok (.invokevirtual 187, 3) := by decide +kernel
theorem dX11_sync_36 : decode cX11_sync 36 = .ok (.ifCond .eq 10, 3) := by decide +kernel
theorem dX11_sync_39 : decode cX11_sync 39 = .ok (.aload_n 2, 1) := by decide +kernel
theorem dX11_sync_40 : decode cX11_sync 40 = .ok (.getfield 191, 3) := by decide +kernel
theorem dX11_sync_43 : decode cX11_sync 43 = .ok (.ifCond .eq 13, 3) := by decide +kernel
theorem dX11_sync_46 : decode cX11_sync 46 = .ok (.new 96, 3) := by decide +kernel
theorem dX11_sync_49 : decode cX11_sync 49 = .ok (.dup, 1) := by decide +kernel
theorem dX11_sync_50 : decode cX11_sync 50 = .ok (.ldc 194, 2) := by decide +kernel
theorem dX11_sync_52 : decode cX11_sync 52 = .ok (.invokespecial 100, 3) := by decide +kernel
theorem dX11_sync_55 : decode cX11_sync 55 = .ok (.athrow, 1) := by decide +kernel
theorem dX11_sync_56 : decode cX11_sync 56 = .ok (.aload_n 2, 1) := by decide +kernel
theorem dX11_sync_57 : decode cX11_sync 57 = .ok (.iconst 5, 1) := by decide +kernel
theorem dX11_sync_58 : decode cX11_sync 58 = .ok (.invokevirtual 196, 3) := by decide +kernel
theorem dX11_sync_61 : decode cX11_sync 61 = .ok (.return_, 1) := by decide +kernel
theorem dX11_fail_0 : decode cX11_fail 0 = .ok (.aload_n 0, 1) := by decide +kernel
theorem dX11_fail_1 : decode cX11_fail 1 = .ok (.getfield 67, 3) := by decide +kernel
theorem dX11_fail_4 : decode cX11_fail 4 = .ok (.istore_n 1, 1) := by decide +kernel
theorem dX11_fail_5 : decode cX11_fail 5 = .ok (.aload_n 0, 1) := by decide +kernel
theorem dX11_fail_6 : decode cX11_fail 6 = .ok (.iconst 0, 1) := by decide +kernel
theorem dX11_fail_7 : decode cX11_fail 7 = .ok (.putfield 67, 3) := by decide +kernel
theorem dX11_fail_10 : decode cX11_fail 10 = .ok (.iload_n 1, 1) := by decide +kernel
theorem dX11_fail_11 : decode cX11_fail 11 = .ok (.ireturn, 1) := by decide +kernel
theorem dX11_install_0 : decode cX11_install 0 = .ok (.aload_n 0, 1) := by decide +kernel
theorem dX11_install_1 : decode cX11_install 1 = .ok (.iconst 1, 1) := by decide +kernel
theorem dX11_install_2 : decode cX11_install 2 = .ok (.putfield 67, 3) := by decide +kernel
theorem dX11_install_5 : decode cX11_install 5 = .ok (.aload_n 0, 1) := by decide +kernel
theorem dX11_install_6 : decode cX11_install 6 = .ok (.dup, 1) := by decide +kernel
theorem dX11_install_7 : decode cX11_install 7 = .ok (.getfield 71, 3) := by decide +kernel
theorem dX11_install_10 : decode cX11_install 10 = .ok (.iconst 1, 1) := by decide +kernel
theorem dX11_install_11 : decode cX11_install 11 = .ok (.iadd, 1) := by decide +kernel
theorem dX11_install_12 : decode cX11_install 12 = .ok (.putfield 71, 3) := by decide +kernel
theorem dX11_install_15 : decode cX11_install 15 = .ok (.aload_n 0, 1) := by decide +kernel
theorem dX11_install_16 : decode cX11_install 16 = .ok (.iconst 0, 1) := by decide +kernel
theorem dX11_install_17 : decode cX11_install 17 = .ok (.putfield 199, 3) := by decide +kernel
theorem dX11_install_20 : decode cX11_install 20 = .ok (.aload_n 0, 1) := by decide +kernel
theorem dX11_install_21 : decode cX11_install 21 = .ok (.getfield 71, 3) := by decide +kernel
theorem dX11_install_24 : decode cX11_install 24 = .ok (.ireturn, 1) := by decide +kernel
theorem dX11_replica_0 : decode cX11_replica 0 = .ok (.aload_n 0, 1) := by decide +kernel
theorem dX11_replica_1 : decode cX11_replica 1 = .ok (.iload_n 1, 1) := by decide +kernel
theorem dX11_replica_2 : decode cX11_replica 2 = .ok (.invokevirtual 143, 3) := by decide +kernel
theorem dX11_replica_5 : decode cX11_replica 5 = .ok (.ifCond .ne 5, 3) := by decide +kernel
theorem dX11_replica_8 : decode cX11_replica 8 = .ok (.iconst (-1), 1) := by decide +kernel
theorem dX11_replica_9 : decode cX11_replica 9 = .ok (.ireturn, 1) := by decide +kernel
theorem dX11_replica_10 : decode cX11_replica 10 = .ok (.aload_n 0, 1) := by decide +kernel
theorem dX11_replica_11 : decode cX11_replica 11 = .ok (.getfield 51, 3) := by decide +kernel
theorem dX11_replica_14 : decode cX11_replica 14 = .ok (.iload_n 1, 1) := by decide +kernel
theorem dX11_replica_15 : decode cX11_replica 15 = .ok (.aaload, 1) := by decide +kernel
theorem dX11_replica_16 : decode cX11_replica 16 = .ok (.astore_n 3, 1) := by decide +kernel
theorem dX11_replica_17 : decode cX11_replica 17 = .ok (.iload_n 2, 1) := by decide +kernel
theorem dX11_replica_18 : decode cX11_replica 18 = .ok (.tableswitch 139 0 10 #[58, 71, 76, 84, 92, 97, 105, 110, 118, 126, 134], 58) := by decide +kernel
theorem dX11_replica_76 : decode cX11_replica 76 = .ok (.aload_n 3, 1) := by decide +kernel
theorem dX11_replica_77 : decode cX11_replica 77 = .ok (.getfield 148, 3) := by decide +kernel
theorem dX11_replica_80 : decode cX11_replica 80 = .ok (.ifCond .eq 7, 3) := by decide +kernel
theorem dX11_replica_83 : decode cX11_replica 83 = .ok (.iconst 1, 1) := by decide +kernel
theorem dX11_replica_84 : decode cX11_replica 84 = .ok (.goto 4, 3) := by decide +kernel
theorem dX11_replica_87 : decode cX11_replica 87 = .ok (.iconst 0, 1) := by decide +kernel
theorem dX11_replica_88 : decode cX11_replica 88 = .ok (.ireturn, 1) := by decide +kernel
theorem dX11_replica_89 : decode cX11_replica 89 = .ok (.aload_n 3, 1) := by decide +kernel
theorem dX11_replica_90 : decode cX11_replica 90 = .ok (.getfield 191, 3) := by decide +kernel
theorem dX11_replica_93 : decode cX11_replica 93 = .ok (.ireturn, 1) := by decide +kernel
theorem dX11_replica_94 : decode cX11_replica 94 = .ok (.aload_n 3, 1) := by decide +kernel
theorem dX11_replica_95 : decode cX11_replica 95 = .ok (.getfield 166, 3) := by decide +kernel
theorem dX11_replica_98 : decode cX11_replica 98 = .ok (.getfield 170, 3) := by decide +kernel
theorem dX11_replica_101 : decode cX11_replica 101 = .ok (.ireturn, 1) := by decide +kernel
theorem dX11_replica_102 : decode cX11_replica 102 = .ok (.aload_n 3, 1) := by decide +kernel
theorem dX11_replica_103 : decode cX11_replica 103 = .ok (.getfield 166, 3) := by decide +kernel
theorem dX11_replica_106 : decode cX11_replica 106 = .ok (.getfield 173, 3) := by decide +kernel
theorem dX11_replica_109 : decode cX11_replica 109 = .ok (.ireturn, 1) := by decide +kernel
theorem dX11_replica_110 : decode cX11_replica 110 = .ok (.aload_n 3, 1) := by decide +kernel
theorem dX11_replica_111 : decode cX11_replica 111 = .ok (.getfield 202, 3) := by decide +kernel
theorem dX11_replica_114 : decode cX11_replica 114 = .ok (.ireturn, 1) := by decide +kernel
theorem dX11_replica_115 : decode cX11_replica 115 = .ok (.aload_n 3, 1) := by decide +kernel
theorem dX11_replica_116 : decode cX11_replica 116 = .ok (.getfield 205, 3) := by decide +kernel
theorem dX11_replica_119 : decode cX11_replica 119 = .ok (.getfield 209, 3) := by decide +kernel
theorem dX11_replica_122 : decode cX11_replica 122 = .ok (.ireturn, 1) := by decide +kernel
theorem dX11_replica_123 : decode cX11_replica 123 = .ok (.aload_n 3, 1) := by decide +kernel
theorem dX11_replica_124 : decode cX11_replica 124 = .ok (.getfield 214, 3) := by decide +kernel
theorem dX11_replica_127 : decode cX11_replica 127 = .ok (.ireturn, 1) := by decide +kernel
theorem dX11_replica_128 : decode cX11_replica 128 = .ok (.aload_n 3, 1) := by decide +kernel
theorem dX11_replica_129 : decode cX11_replica 129 = .ok (.getfield 217, 3) := by decide +kernel
theorem dX11_replica_132 : decode cX11_replica 132 = .ok (.getfield 221, 3) := by decide +kernel
theorem dX11_replica_135 : decode cX11_replica 135 = .ok (.ireturn, 1) := by decide +kernel
theorem dX11_replica_136 : decode cX11_replica 136 = .ok (.aload_n 3, 1) := by decide +kernel
theorem dX11_replica_137 : decode cX11_replica 137 = .ok (.getfield 224, 3) := by decide +kernel
theorem dX11_replica_140 : decode cX11_replica 140 = .ok (.getfield 170, 3) := by decide +kernel
theorem dX11_replica_143 : decode cX11_replica 143 = .ok (.ireturn, 1) := by decide +kernel
theorem dX11_replica_144 : decode cX11_replica 144 = .ok (.aload_n 3, 1) := by decide +kernel
theorem dX11_replica_145 : decode cX11_replica 145 = .ok (.getfield 224, 3) := by decide +kernel
theorem dX11_replica_148 : decode cX11_replica 148 = .ok (.getfield 173, 3) := by decide +kernel
theorem dX11_replica_151 : decode cX11_replica 151 = .ok (.ireturn, 1) := by decide +kernel
theorem dX11_replica_152 : decode cX11_replica 152 = .ok (.aload_n 3, 1) := by decide +kernel
theorem dX11_replica_153 : decode cX11_replica 153 = .ok (.getfield 227, 3) := by decide +kernel
theorem dX11_replica_156 : decode cX11_replica 156 = .ok (.ireturn, 1) := by decide +kernel
theorem dX11_replica_157 : decode cX11_replica 157 = .ok (.iconst (-1), 1) := by decide +kernel
theorem dX11_replica_158 : decode cX11_replica 158 = .ok (.ireturn, 1) := by decide +kernel
theorem dX11_entry_0 : decode cX11_entry 0 = .ok (.aload_n 0, 1) := by decide +kernel
theorem dX11_entry_1 : decode cX11_entry 1 = .ok (.iload_n 1, 1) := by decide +kernel
theorem dX11_entry_2 : decode cX11_entry 2 = .ok (.invokevirtual 143, 3) := by decide +kernel
theorem dX11_entry_5 : decode cX11_entry 5 = .ok (.ifCond .eq 23, 3) := by decide +kernel
theorem dX11_entry_8 : decode cX11_entry 8 = .ok (.aload_n 0, 1) := by decide +kernel
theorem dX11_entry_9 : decode cX11_entry 9 = .ok (.getfield 51, 3) := by decide +kernel
theorem dX11_entry_12 : decode cX11_entry 12 = .ok (.iload_n 1, 1) := by decide +kernel
theorem dX11_entry_13 : decode cX11_entry 13 = .ok (.aaload, 1) := by decide +kernel
theorem dX11_entry_14 : decode cX11_entry 14 = .ok (.getfield 205, 3) := by decide +kernel
theorem dX11_entry_17 : decode cX11_entry 17 = .ok (.iload_n 2, 1) := by decide +kernel
theorem dX11_entry_18 : decode cX11_entry 18 = .ok (.invokevirtual 230, 3) := by decide +kernel
theorem dX11_entry_21 : decode cX11_entry 21 = .ok (.ifCond .eq 7, 3) := by decide +kernel
theorem dX11_entry_24 : decode cX11_entry 24 = .ok (.iconst 1, 1) := by decide +kernel
theorem dX11_entry_25 : decode cX11_entry 25 = .ok (.goto 4, 3) := by decide +kernel
theorem dX11_entry_28 : decode cX11_entry 28 = .ok (.iconst 0, 1) := by decide +kernel
theorem dX11_entry_29 : decode cX11_entry 29 = .ok (.istore 4, 2) := by decide +kernel
theorem dX11_entry_31 : decode cX11_entry 31 = .ok (.iload 4, 2) := by decide +kernel
theorem dX11_entry_33 : decode cX11_entry 33 = .ok (.ifCond .eq 19, 3) := by decide +kernel
theorem dX11_entry_36 : decode cX11_entry 36 = .ok (.aload_n 0, 1) := by decide +kernel
theorem dX11_entry_37 : decode cX11_entry 37 = .ok (.getfield 51, 3) := by decide +kernel
theorem dX11_entry_40 : decode cX11_entry 40 = .ok (.iload_n 1, 1) := by decide +kernel
theorem dX11_entry_41 : decode cX11_entry 41 = .ok (.aaload, 1) := by decide +kernel
theorem dX11_entry_42 : decode cX11_entry 42 = .ok (.getfield 205, 3) := by decide +kernel
theorem dX11_entry_45 : decode cX11_entry 45 = .ok (.iload_n 2, 1) := by decide +kernel
theorem dX11_entry_46 : decode cX11_entry 46 = .ok (.invokevirtual 233, 3) := by decide +kernel
theorem dX11_entry_49 : decode cX11_entry 49 = .ok (.goto 4, 3) := by decide +kernel
theorem dX11_entry_52 : decode cX11_entry 52 = .ok (.iconst 0, 1) := by decide +kernel
theorem dX11_entry_53 : decode cX11_entry 53 = .ok (.istore 5, 2) := by decide +kernel
theorem dX11_entry_55 : decode cX11_entry 55 = .ok (.iload_n 3, 1) := by decide +kernel
theorem dX11_entry_56 : decode cX11_entry 56 = .ok (.ifCond .ne 19, 3) := by decide +kernel
theorem dX11_entry_59 : decode cX11_entry 59 = .ok (.iload 4, 2) := by decide +kernel
theorem dX11_entry_61 : decode cX11_entry 61 = .ok (.ifCond .eq 14, 3) := by decide +kernel
theorem dX11_entry_64 : decode cX11_entry 64 = .ok (.iload 5, 2) := by decide +kernel
theorem dX11_entry_66 : decode cX11_entry 66 = .ok (.ifCond .ne 7, 3) := by decide +kernel
theorem dX11_entry_69 : decode cX11_entry 69 = .ok (.iconst 0, 1) := by decide +kernel
theorem dX11_entry_70 : decode cX11_entry 70 = .ok (.goto 4, 3) := by decide +kernel
theorem dX11_entry_73 : decode cX11_entry 73 = .ok (.iconst 1, 1) := by decide +kernel
theorem dX11_entry_74 : decode cX11_entry 74 = .ok (.ireturn, 1) := by decide +kernel
theorem dX11_entry_75 : decode cX11_entry 75 = .ok (.iload_n 3, 1) := by decide +kernel
theorem dX11_entry_76 : decode cX11_entry 76 = .ok (.iconst 5, 1) := by decide +kernel
theorem dX11_entry_77 : decode cX11_entry 77 = .ok (.if_icmp .ne 23, 3) := by decide +kernel
theorem dX11_entry_80 : decode cX11_entry 80 = .ok (.iload 5, 2) := by decide +kernel
theorem dX11_entry_82 : decode cX11_entry 82 = .ok (.ifCond .ne 7, 3) := by decide +kernel
theorem dX11_entry_85 : decode cX11_entry 85 = .ok (.iconst 0, 1) := by decide +kernel
theorem dX11_entry_86 : decode cX11_entry 86 = .ok (.goto 13, 3) := by decide +kernel
theorem dX11_entry_89 : decode cX11_entry 89 = .ok (.aload_n 0, 1) := by decide +kernel
theorem dX11_entry_90 : decode cX11_entry 90 = .ok (.getfield 22, 3) := by decide +kernel
theorem dX11_entry_93 : decode cX11_entry 93 = .ok (.getfield 236, 3) := by decide +kernel
theorem dX11_entry_96 : decode cX11_entry 96 = .ok (.iload 5, 2) := by decide +kernel
theorem dX11_entry_98 : decode cX11_entry 98 = .ok (.iaload, 1) := by decide +kernel
theorem dX11_entry_99 : decode cX11_entry 99 = .ok (.ireturn, 1) := by decide +kernel
theorem dX11_entry_100 : decode cX11_entry 100 = .ok (.iload 5, 2) := by decide +kernel
theorem dX11_entry_102 : decode cX11_entry 102 = .ok (.ifCond .ne 5, 3) := by decide +kernel
theorem dX11_entry_105 : decode cX11_entry 105 = .ok (.iconst (-1), 1) := by decide +kernel
theorem dX11_entry_106 : decode cX11_entry 106 = .ok (.ireturn, 1) := by decide +kernel
theorem dX11_entry_107 : decode cX11_entry 107 = .ok (.iload_n 3, 1) := by decide +kernel
theorem dX11_entry_108 : decode cX11_entry 108 = .ok (.tableswitch 76 1 4 #[32, 43, 54, 65], 32) := by decide +kernel
theorem dX11_entry_140 : decode cX11_entry 140 = .ok (.aload_n 0, 1) := by decide +kernel
theorem dX11_entry_141 : decode cX11_entry 141 = .ok (.getfield 22, 3) := by decide +kernel
theorem dX11_entry_144 : decode cX11_entry 144 = .ok (.getfield 240, 3) := by decide +kernel
theorem dX11_entry_147 : decode cX11_entry 147 = .ok (.iload 5, 2) := by decide +kernel
theorem dX11_entry_149 : decode cX11_entry 149 = .ok (.iaload, 1) := by decide +kernel
theorem dX11_entry_150 : decode cX11_entry 150 = .ok (.ireturn, 1) := by decide +kernel
theorem dX11_entry_151 : decode cX11_entry 151 = .ok (.aload_n 0, 1) := by decide +kernel
theorem dX11_entry_152 : decode cX11_entry 152 = .ok (.getfield 22, 3) := by decide +kernel
theorem dX11_entry_155 : decode cX11_entry 155 = .ok (.getfield 243, 3) := by decide +kernel
theorem dX11_entry_158 : decode cX11_entry 158 = .ok (.iload 5, 2) := by decide +kernel
theorem dX11_entry_160 : decode cX11_entry 160 = .ok (.iaload, 1) := by decide +kernel
theorem dX11_entry_161 : decode cX11_entry 161 = .ok (.ireturn, 1) := by decide +kernel
theorem dX11_entry_162 : decode cX11_entry 162 = .ok (.aload_n 0, 1) := by decide +kernel
theorem dX11_entry_163 : decode cX11_entry 163 = .ok (.getfield 22, 3) := by decide +kernel
theorem dX11_entry_166 : decode cX11_entry 166 = .ok (.getfield 246, 3) := by decide +kernel
theorem dX11_entry_169 : decode cX11_entry 169 = .ok (.iload 5, 2) := by decide +kernel
theorem dX11_entry_171 : decode cX11_entry 171 = .ok (.iaload, 1) := by decide +kernel
theorem dX11_entry_172 : decode cX11_entry 172 = .ok (.ireturn, 1) := by decide +kernel
theorem dX11_entry_173 : decode cX11_entry 173 = .ok (.aload_n 0, 1) := by decide +kernel
theorem dX11_entry_174 : decode cX11_entry 174 = .ok (.getfield 22, 3) := by decide +kernel
theorem dX11_entry_177 : decode cX11_entry 177 = .ok (.getfield 249, 3) := by decide +kernel
theorem dX11_entry_180 : decode cX11_entry 180 = .ok (.iload 5, 2) := by decide +kernel
theorem dX11_entry_182 : decode cX11_entry 182 = .ok (.iaload, 1) := by decide +kernel
theorem dX11_entry_183 : decode cX11_entry 183 = .ok (.ireturn, 1) := by decide +kernel
theorem dX11_entry_184 : decode cX11_entry 184 = .ok (.iconst (-1), 1) := by decide +kernel
theorem dX11_entry_185 : decode cX11_entry 185 = .ok (.ireturn, 1) := by decide +kernel
theorem dX11_word_0 : decode cX11_word 0 = .ok (.aload_n 0, 1) := by decide +kernel
theorem dX11_word_1 : decode cX11_word 1 = .ok (.iload_n 1, 1) := by decide +kernel
theorem dX11_word_2 : decode cX11_word 2 = .ok (.invokevirtual 143, 3) := by decide +kernel
theorem dX11_word_5 : decode cX11_word 5 = .ok (.ifCond .eq 11, 3) := by decide +kernel
theorem dX11_word_8 : decode cX11_word 8 = .ok (.aload_n 0, 1) := by decide +kernel
theorem dX11_word_9 : decode cX11_word 9 = .ok (.iload_n 2, 1) := by decide +kernel
theorem dX11_word_10 : decode cX11_word 10 = .ok (.invokevirtual 78, 3) := by decide +kernel
theorem dX11_word_13 : decode cX11_word 13 = .ok (.ifCond .ne 5, 3) := by decide +kernel
theorem dX11_word_16 : decode cX11_word 16 = .ok (.iconst 0, 1) := by decide +kernel
theorem dX11_word_17 : decode cX11_word 17 = .ok (.ireturn, 1) := by decide +kernel
theorem dX11_word_18 : decode cX11_word 18 = .ok (.aload_n 0, 1) := by decide +kernel
theorem dX11_word_19 : decode cX11_word 19 = .ok (.getfield 31, 3) := by decide +kernel
theorem dX11_word_22 : decode cX11_word 22 = .ok (.aload_n 0, 1) := by decide +kernel
theorem dX11_word_23 : decode cX11_word 23 = .ok (.getfield 51, 3) := by decide +kernel
theorem dX11_word_26 : decode cX11_word 26 = .ok (.iload_n 1, 1) := by decide +kernel
theorem dX11_word_27 : decode cX11_word 27 = .ok (.aaload, 1) := by decide +kernel
theorem dX11_word_28 : decode cX11_word 28 = .ok (.getfield 205, 3) := by decide +kernel
theorem dX11_word_31 : decode cX11_word 31 = .ok (.aload_n 0, 1) := by decide +kernel
theorem dX11_word_32 : decode cX11_word 32 = .ok (.getfield 51, 3) := by decide +kernel
theorem dX11_word_35 : decode cX11_word 35 = .ok (.iload_n 1, 1) := by decide +kernel
theorem dX11_word_36 : decode cX11_word 36 = .ok (.aaload, 1) := by decide +kernel
theorem dX11_word_37 : decode cX11_word 37 = .ok (.invokevirtual 252, 3) := by decide +kernel
theorem dX11_word_40 : decode cX11_word 40 = .ok (.invokevirtual 255, 3) := by decide +kernel
theorem dX11_word_43 : decode cX11_word 43 = .ok (.aload_n 0, 1) := by decide +kernel
theorem dX11_word_44 : decode cX11_word 44 = .ok (.getfield 31, 3) := by decide +kernel
theorem dX11_word_47 : decode cX11_word 47 = .ok (.getfield 259, 3) := by decide +kernel
theorem dX11_word_50 : decode cX11_word 50 = .ok (.iload_n 2, 1) := by decide +kernel
theorem dX11_word_51 : decode cX11_word 51 = .ok (.iaload, 1) := by decide +kernel
theorem dX11_word_52 : decode cX11_word 52 = .ok (.ireturn, 1) := by decide +kernel
theorem dX11_client_0 : decode cX11_client 0 = .ok (.aload_n 0, 1) := by decide +kernel
theorem dX11_client_1 : decode cX11_client 1 = .ok (.iload_n 1, 1) := by decide +kernel
theorem dX11_client_2 : decode cX11_client 2 = .ok (.invokevirtual 74, 3) := by decide +kernel
theorem dX11_client_5 : decode cX11_client 5 = .ok (.ifCond .ne 5, 3) := by decide +kernel
theorem dX11_client_8 : decode cX11_client 8 = .ok (.iconst (-1), 1) := by decide +kernel
theorem dX11_client_9 : decode cX11_client 9 = .ok (.ireturn, 1) := by decide +kernel
theorem dX11_client_10 : decode cX11_client 10 = .ok (.aload_n 0, 1) := by decide +kernel
theorem dX11_client_11 : decode cX11_client 11 = .ok (.getfield 60, 3) := by decide +kernel
theorem dX11_client_14 : decode cX11_client 14 = .ok (.iload_n 1, 1) := by decide +kernel
theorem dX11_client_15 : decode cX11_client 15 = .ok (.aaload, 1) := by decide +kernel
theorem dX11_client_16 : decode cX11_client 16 = .ok (.astore_n 3, 1) := by decide +kernel
theorem dX11_client_17 : decode cX11_client 17 = .ok (.iload_n 2, 1) := by decide +kernel
theorem dX11_client_18 : decode cX11_client 18 = .ok (.ifCond .ne 8, 3) := by decide +kernel
theorem dX11_client_21 : decode cX11_client 21 = .ok (.aload_n 3, 1) := by decide +kernel
theorem dX11_client_22 : decode cX11_client 22 = .ok (.getfield 101, 3) := by decide +kernel
theorem dX11_client_25 : decode cX11_client 25 = .ok (.ireturn, 1) := by decide +kernel
theorem dX11_client_26 : decode cX11_client 26 = .ok (.iload_n 2, 1) := by decide +kernel
theorem dX11_client_27 : decode cX11_client 27 = .ok (.iconst 1, 1) := by decide +kernel
theorem dX11_client_28 : decode cX11_client 28 = .ok (.if_icmp .ne 8, 3) := by decide +kernel
theorem dX11_client_31 : decode cX11_client 31 = .ok (.aload_n 3, 1) := by decide +kernel
theorem dX11_client_32 : decode cX11_client 32 = .ok (.getfield 93, 3) := by decide +kernel
theorem dX11_client_35 : decode cX11_client 35 = .ok (.ireturn, 1) := by decide +kernel
theorem dX11_client_36 : decode cX11_client 36 = .ok (.aload_n 3, 1) := by decide +kernel
theorem dX11_client_37 : decode cX11_client 37 = .ok (.getfield 93, 3) := by decide +kernel
theorem dX11_client_40 : decode cX11_client 40 = .ok (.iconst 2, 1) := by decide +kernel
theorem dX11_client_41 : decode cX11_client 41 = .ok (.if_icmp .eq 5, 3) := by decide +kernel
theorem dX11_client_44 : decode cX11_client 44 = .ok (.iconst (-1), 1) := by decide +kernel
theorem dX11_client_45 : decode cX11_client 45 = .ok (.ireturn, 1) := by decide +kernel
theorem dX11_client_46 : decode cX11_client 46 = .ok (.iload_n 2, 1) := by decide +kernel
theorem dX11_client_47 : decode cX11_client 47 = .ok (.tableswitch 46 2 4 #[25, 30, 38], 25) := by decide +kernel
theorem dX11_client_72 : decode cX11_client 72 = .ok (.aload_n 3, 1) := by decide +kernel
theorem dX11_client_73 : decode cX11_client 73 = .ok (.getfield 261, 3) := by decide +kernel
theorem dX11_client_76 : decode cX11_client 76 = .ok (.ireturn, 1) := by decide +kernel
theorem dX11_client_77 : decode cX11_client 77 = .ok (.aload_n 3, 1) := by decide +kernel
theorem dX11_client_78 : decode cX11_client 78 = .ok (.getfield 264, 3) := by decide +kernel
theorem dX11_client_81 : decode cX11_client 81 = .ok (.getfield 170, 3) := by decide +kernel
theorem dX11_client_84 : decode cX11_client 84 = .ok (.ireturn, 1) := by decide +kernel
theorem dX11_client_85 : decode cX11_client 85 = .ok (.aload_n 3, 1) := by decide +kernel
theorem dX11_client_86 : decode cX11_client 86 = .ok (.getfield 264, 3) := by decide +kernel
theorem dX11_client_89 : decode cX11_client 89 = .ok (.getfield 173, 3) := by decide +kernel
theorem dX11_client_92 : decode cX11_client 92 = .ok (.ireturn, 1) := by decide +kernel
theorem dX11_client_93 : decode cX11_client 93 = .ok (.iconst (-1), 1) := by decide +kernel
theorem dX11_client_94 : decode cX11_client 94 = .ok (.ireturn, 1) := by decide +kernel
theorem dX11_answer_0 : decode cX11_answer 0 = .ok (.aload_n 0, 1) := by decide +kernel
theorem dX11_answer_1 : decode cX11_answer 1 = .ok (.iload_n 1, 1) := by decide +kernel
theorem dX11_answer_2 : decode cX11_answer 2 = .ok (.invokevirtual 74, 3) := by decide +kernel
theorem dX11_answer_5 : decode cX11_answer 5 = .ok (.ifCond .eq 15, 3) := by decide +kernel
theorem dX11_answer_8 : decode cX11_answer 8 = .ok (.aload_n 0, 1) := by decide +kernel
theorem dX11_answer_9 : decode cX11_answer 9 = .ok (.getfield 60, 3) := by decide +kernel
theorem dX11_answer_12 : decode cX11_answer 12 = .ok (.iload_n 1, 1) := by decide +kernel
theorem dX11_answer_13 : decode cX11_answer 13 = .ok (.aaload, 1) := by decide +kernel
theorem dX11_answer_14 : decode cX11_answer 14 = .ok (.getfield 267, 3) := by decide +kernel
theorem dX11_answer_17 : decode cX11_answer 17 = .ok (.goto 4, 3) := by decide +kernel
theorem dX11_answer_20 : decode cX11_answer 20 = .ok (.iconst 0, 1) := by decide +kernel
theorem dX11_answer_21 : decode cX11_answer 21 = .ok (.ireturn, 1) := by decide +kernel
theorem dX11_about_0 : decode cX11_about 0 = .ok (.iload_n 1, 1) := by decide +kernel
theorem dX11_about_1 : decode cX11_about 1 = .ok (.tableswitch 98 0 6 #[43, 51, 59, 67, 80, 85, 90], 43) := by decide +kernel
theorem dX11_about_44 : decode cX11_about 44 = .ok (.aload_n 0, 1) := by decide +kernel
theorem dX11_about_45 : decode cX11_about 45 = .ok (.getfield 38, 3) := by decide +kernel
theorem dX11_about_48 : decode cX11_about 48 = .ok (.getfield 140, 3) := by decide +kernel
theorem dX11_about_51 : decode cX11_about 51 = .ok (.ireturn, 1) := by decide +kernel
theorem dX11_about_52 : decode cX11_about 52 = .ok (.aload_n 0, 1) := by decide +kernel
theorem dX11_about_53 : decode cX11_about 53 = .ok (.getfield 38, 3) := by decide +kernel
theorem dX11_about_56 : decode cX11_about 56 = .ok (.getfield 181, 3) := by decide +kernel
theorem dX11_about_59 : decode cX11_about 59 = .ok (.ireturn, 1) := by decide +kernel
theorem dX11_about_60 : decode cX11_about 60 = .ok (.aload_n 0, 1) := by decide +kernel
theorem dX11_about_61 : decode cX11_about 61 = .ok (.getfield 38, 3) := by decide +kernel
theorem dX11_about_64 : decode cX11_about 64 = .ok (.getfield 135, 3) := by decide +kernel
theorem dX11_about_67 : decode cX11_about 67 = .ok (.ireturn, 1) := by decide +kernel
theorem dX11_about_68 : decode cX11_about 68 = .ok (.aload_n 0, 1) := by decide +kernel
theorem dX11_about_69 : decode cX11_about 69 = .ok (.getfield 67, 3) := by decide +kernel
theorem dX11_about_72 : decode cX11_about 72 = .ok (.ifCond .eq 7, 3) := by decide +kernel
theorem dX11_about_75 : decode cX11_about 75 = .ok (.iconst 1, 1) := by decide +kernel
theorem dX11_about_76 : decode cX11_about 76 = .ok (.goto 4, 3) := by decide +kernel
theorem dX11_about_79 : decode cX11_about 79 = .ok (.iconst 0, 1) := by decide +kernel
theorem dX11_about_80 : decode cX11_about 80 = .ok (.ireturn, 1) := by decide +kernel
theorem dX11_about_81 : decode cX11_about 81 = .ok (.aload_n 0, 1) := by decide +kernel
theorem dX11_about_82 : decode cX11_about 82 = .ok (.getfield 71, 3) := by decide +kernel
theorem dX11_about_85 : decode cX11_about 85 = .ok (.ireturn, 1) := by decide +kernel
theorem dX11_about_86 : decode cX11_about 86 = .ok (.aload_n 0, 1) := by decide +kernel
theorem dX11_about_87 : decode cX11_about 87 = .ok (.getfield 199, 3) := by decide +kernel
theorem dX11_about_90 : decode cX11_about 90 = .ok (.ireturn, 1) := by decide +kernel
theorem dX11_about_91 : decode cX11_about 91 = .ok (.aload_n 0, 1) := by decide +kernel
theorem dX11_about_92 : decode cX11_about 92 = .ok (.getfield 45, 3) := by decide +kernel
theorem dX11_about_95 : decode cX11_about 95 = .ok (.getfield 270, 3) := by decide +kernel
theorem dX11_about_98 : decode cX11_about 98 = .ok (.ireturn, 1) := by decide +kernel
theorem dX11_about_99 : decode cX11_about 99 = .ok (.iconst (-1), 1) := by decide +kernel
theorem dX11_about_100 : decode cX11_about 100 = .ok (.ireturn, 1) := by decide +kernel
theorem dX11_message_0 : decode cX11_message 0 = .ok (.iload_n 1, 1) := by decide +kernel
theorem dX11_message_1 : decode cX11_message 1 = .ok (.ifCond .lt 14, 3) := by decide +kernel
theorem dX11_message_4 : decode cX11_message 4 = .ok (.iload_n 1, 1) := by decide +kernel
theorem dX11_message_5 : decode cX11_message 5 = .ok (.aload_n 0, 1) := by decide +kernel
theorem dX11_message_6 : decode cX11_message 6 = .ok (.getfield 38, 3) := by decide +kernel
theorem dX11_message_9 : decode cX11_message 9 = .ok (.getfield 140, 3) := by decide +kernel
theorem dX11_message_12 : decode cX11_message 12 = .ok (.if_icmp .lt 5, 3) := by decide +kernel
theorem dX11_message_15 : decode cX11_message 15 = .ok (.iconst (-1), 1) := by decide +kernel
theorem dX11_message_16 : decode cX11_message 16 = .ok (.ireturn, 1) := by decide +kernel
theorem dX11_message_17 : decode cX11_message 17 = .ok (.aload_n 0, 1) := by decide +kernel
theorem dX11_message_18 : decode cX11_message 18 = .ok (.getfield 38, 3) := by decide +kernel
theorem dX11_message_21 : decode cX11_message 21 = .ok (.getfield 273, 3) := by decide +kernel
theorem dX11_message_24 : decode cX11_message 24 = .ok (.iload_n 1, 1) := by decide +kernel
theorem dX11_message_25 : decode cX11_message 25 = .ok (.aaload, 1) := by decide +kernel
theorem dX11_message_26 : decode cX11_message 26 = .ok (.astore_n 3, 1) := by decide +kernel
theorem dX11_message_27 : decode cX11_message 27 = .ok (.iload_n 2, 1) := by decide +kernel
theorem dX11_message_28 : decode cX11_message 28 = .ok (.tableswitch 52 0 3 #[32, 37, 42, 47], 32) := by decide +kernel
theorem dX11_message_60 : decode cX11_message 60 = .ok (.aload_n 3, 1) := by decide +kernel
theorem dX11_message_61 : decode cX11_message 61 = .ok (.getfield 277, 3) := by decide +kernel
theorem dX11_message_64 : decode cX11_message 64 = .ok (.ireturn, 1) := by decide +kernel
theorem dX11_message_65 : decode cX11_message 65 = .ok (.aload_n 3, 1) := by decide +kernel
theorem dX11_message_66 : decode cX11_message 66 = .ok (.getfield 281, 3) := by decide +kernel
theorem dX11_message_69 : decode cX11_message 69 = .ok (.ireturn, 1) := by decide +kernel
theorem dX11_message_70 : decode cX11_message 70 = .ok (.aload_n 3, 1) := by decide +kernel
theorem dX11_message_71 : decode cX11_message 71 = .ok (.getfield 283, 3) := by decide +kernel
theorem dX11_message_74 : decode cX11_message 74 = .ok (.ireturn, 1) := by decide +kernel
theorem dX11_message_75 : decode cX11_message 75 = .ok (.aload_n 3, 1) := by decide +kernel
theorem dX11_message_76 : decode cX11_message 76 = .ok (.getfield 286, 3) := by decide +kernel
theorem dX11_message_79 : decode cX11_message 79 = .ok (.ireturn, 1) := by decide +kernel
theorem dX11_message_80 : decode cX11_message 80 = .ok (.iconst (-1), 1) := by decide +kernel
theorem dX11_message_81 : decode cX11_message 81 = .ok (.ireturn, 1) := by decide +kernel
theorem dX11_broken_0 : decode cX11_broken 0 = .ok (.aload_n 0, 1) := by decide +kernel
theorem dX11_broken_1 : decode cX11_broken 1 = .ok (.getfield 45, 3) := by decide +kernel
theorem dX11_broken_4 : decode cX11_broken 4 = .ok (.invokevirtual 289, 3) := by decide +kernel
theorem dX11_broken_7 : decode cX11_broken 7 = .ok (.aload_n 0, 1) := by decide +kernel
theorem dX11_broken_8 : decode cX11_broken 8 = .ok (.getfield 51, 3) := by decide +kernel
theorem dX11_broken_11 : decode cX11_broken 11 = .ok (.astore_n 1, 1) := by decide +kernel
theorem dX11_broken_12 : decode cX11_broken 12 = .ok (.aload_n 1, 1) := by decide +kernel
theorem dX11_broken_13 : decode cX11_broken 13 = .ok (.arraylength, 1) := by decide +kernel
theorem dX11_broken_14 : decode cX11_broken 14 = .ok (.istore_n 2, 1) := by decide +kernel
theorem dX11_broken_15 : decode cX11_broken 15 = .ok (.iconst 0, 1) := by decide +kernel
theorem dX11_broken_16 : decode cX11_broken 16 = .ok (.istore_n 3, 1) := by decide +kernel
theorem dX11_broken_17 : decode cX11_broken 17 = .ok (.iload_n 3, 1) := by decide +kernel
theorem dX11_broken_18 : decode cX11_broken 18 = .ok (.iload_n 2, 1) := by decide +kernel
theorem dX11_broken_19 : decode cX11_broken 19 = .ok (.if_icmp .ge 64, 3) := by decide +kernel
theorem dX11_broken_22 : decode cX11_broken 22 = .ok (.aload_n 1, 1) := by decide +kernel
theorem dX11_broken_23 : decode cX11_broken 23 = .ok (.iload_n 3, 1) := by decide +kernel
theorem dX11_broken_24 : decode cX11_broken 24 = .ok (.aaload, 1) := by decide +kernel
theorem dX11_broken_25 : decode cX11_broken 25 = .ok (.astore 4, 2) := by decide +kernel
theorem dX11_broken_27 : decode cX11_broken 27 = .ok (.aload 4, 2) := by decide +kernel
theorem dX11_broken_29 : decode cX11_broken 29 = .ok (.invokevirtual 187, 3) := by decide +kernel
theorem dX11_broken_32 : decode cX11_broken 32 = .ok (.ifCond .eq 45, 3) := by decide +kernel
theorem dX11_broken_35 : decode cX11_broken 35 = .ok (.aload 4, 2) := by decide +kernel
theorem dX11_broken_37 : decode cX11_broken 37 = .ok (.getfield 191, 3) := by decide +kernel
theorem dX11_broken_40 : decode cX11_broken 40 = .ok (.iconst 2, 1) := by decide +kernel
theorem dX11_broken_41 : decode cX11_broken 41 = .ok (.if_icmp .eq 36, 3) := by decide +kernel
theorem dX11_broken_44 : decode cX11_broken 44 = .ok (.aload_n 0, 1) := by decide +kernel
theorem dX11_broken_45 : decode cX11_broken 45 = .ok (.getfield 31, 3) := by decide +kernel
theorem dX11_broken_48 : decode cX11_broken 48 = .ok (.aload 4, 2) := by decide +kernel
theorem dX11_broken_50 : decode cX11_broken 50 = .ok (.getfield 205, 3) := by decide +kernel
theorem dX11_broken_53 : decode cX11_broken 53 = .ok (.aload 4, 2) := by decide +kernel
theorem dX11_broken_55 : decode cX11_broken 55 = .ok (.getfield 205, 3) := by decide +kernel
theorem dX11_broken_58 : decode cX11_broken 58 = .ok (.getfield 209, 3) := by decide +kernel
theorem dX11_broken_61 : decode cX11_broken 61 = .ok (.invokevirtual 255, 3) := by decide +kernel
theorem dX11_broken_64 : decode cX11_broken 64 = .ok (.aload_n 0, 1) := by decide +kernel
theorem dX11_broken_65 : decode cX11_broken 65 = .ok (.getfield 45, 3) := by decide +kernel
theorem dX11_broken_68 : decode cX11_broken 68 = .ok (.aload 4, 2) := by decide +kernel
theorem dX11_broken_70 : decode cX11_broken 70 = .ok (.aload_n 0, 1) := by decide +kernel
theorem dX11_broken_71 : decode cX11_broken 71 = .ok (.getfield 31, 3) := by decide +kernel
theorem dX11_broken_74 : decode cX11_broken 74 = .ok (.invokevirtual 292, 3) := by decide +kernel
theorem dX11_broken_77 : decode cX11_broken 77 = .ok (.iinc 3 1, 3) := by decide +kernel
theorem dX11_broken_80 : decode cX11_broken 80 = .ok (.goto (-63), 3) := by decide +kernel
theorem dX11_broken_83 : decode cX11_broken 83 = .ok (.aload_n 0, 1) := by decide +kernel
theorem dX11_broken_84 : decode cX11_broken 84 = .ok (.getfield 45, 3) := by decide +kernel
theorem dX11_broken_87 : decode cX11_broken 87 = .ok (.invokevirtual 296, 3) := by decide +kernel
theorem dX11_broken_90 : decode cX11_broken 90 = .ok (.ireturn, 1) := by decide +kernel
theorem dX11_isClient_0 : decode cX11_isClient 0 = .ok (.iload_n 1, 1) := by decide +kernel
theorem dX11_isClient_1 : decode cX11_isClient 1 = .ok (.ifCond .lt 12, 3) := by decide +kernel
theorem dX11_isClient_4 : decode cX11_isClient 4 = .ok (.iload_n 1, 1) := by decide +kernel
theorem dX11_isClient_5 : decode cX11_isClient 5 = .ok (.iconst 4, 1) := by decide +kernel
theorem dX11_isClient_6 : decode cX11_isClient 6 = .ok (.if_icmp .ge 7, 3) := by decide +kernel
theorem dX11_isClient_9 : decode cX11_isClient 9 = .ok (.iconst 1, 1) := by decide +kernel
theorem dX11_isClient_10 : decode cX11_isClient 10 = .ok (.goto 4, 3) := by decide +kernel
theorem dX11_isClient_13 : decode cX11_isClient 13 = .ok (.iconst 0, 1) := by decide +kernel
theorem dX11_isClient_14 : decode cX11_isClient 14 = .ok (.ireturn, 1) := by decide +kernel
theorem dX11_isKey_0 : decode cX11_isKey 0 = .ok (.iload_n 1, 1) := by decide +kernel
theorem dX11_isKey_1 : decode cX11_isKey 1 = .ok (.ifCond .lt 13, 3) := by decide +kernel
theorem dX11_isKey_4 : decode cX11_isKey 4 = .ok (.iload_n 1, 1) := by decide +kernel
theorem dX11_isKey_5 : decode cX11_isKey 5 = .ok (.bipush 8, 2) := by decide +kernel
theorem dX11_isKey_7 : decode cX11_isKey 7 = .ok (.if_icmp .ge 7, 3) := by decide +kernel
theorem dX11_isKey_10 : decode cX11_isKey 10 = .ok (.iconst 1, 1) := by decide +kernel
theorem dX11_isKey_11 : decode cX11_isKey 11 = .ok (.goto 4, 3) := by decide +kernel
theorem dX11_isKey_14 : decode cX11_isKey 14 = .ok (.iconst 0, 1) := by decide +kernel
theorem dX11_isKey_15 : decode cX11_isKey 15 = .ok (.ireturn, 1) := by decide +kernel
theorem dX11_isReplica_0 : decode cX11_isReplica 0 = .ok (.iload_n 1, 1) := by decide +kernel
theorem dX11_isReplica_1 : decode cX11_isReplica 1 = .ok (.ifCond .lt 15, 3) := by decide +kernel
theorem dX11_isReplica_4 : decode cX11_isReplica 4 = .ok (.iload_n 1, 1) := by decide +kernel
theorem dX11_isReplica_5 : decode cX11_isReplica 5 = .ok (.aload_n 0, 1) := by decide +kernel
theorem dX11_isReplica_6 : decode cX11_isReplica 6 = .ok (.getfield 13, 3) := by decide +kernel
theorem dX11_isReplica_9 : decode cX11_isReplica 9 = .ok (.if_icmp .ge 7, 3) := by decide +kernel
theorem dX11_isReplica_12 : decode cX11_isReplica 12 = .ok (.iconst 1, 1) := by decide +kernel
theorem dX11_isReplica_13 : decode cX11_isReplica 13 = .ok (.goto 4, 3) := by decide +kernel
theorem dX11_isReplica_16 : decode cX11_isReplica 16 = .ok (.iconst 0, 1) := by decide +kernel
theorem dX11_isReplica_17 : decode cX11_isReplica 17 = .ok (.ireturn, 1) := by decide +kernel
theorem dX11_downNow_0 : decode cX11_downNow 0 = .ok (.iconst 0, 1) := by decide +kernel
theorem dX11_downNow_1 : decode cX11_downNow 1 = .ok (.istore_n 1, 1) := by decide +kernel
theorem dX11_downNow_2 : decode cX11_downNow 2 = .ok (.aload_n 0, 1) := by decide +kernel
theorem dX11_downNow_3 : decode cX11_downNow 3 = .ok (.getfield 51, 3) := by decide +kernel
theorem dX11_downNow_6 : decode cX11_downNow 6 = .ok (.astore_n 2, 1) := by decide +kernel
theorem dX11_downNow_7 : decode cX11_downNow 7 = .ok (.aload_n 2, 1) := by decide +kernel
theorem dX11_downNow_8 : decode cX11_downNow 8 = .ok (.arraylength, 1) := by decide +kernel
theorem dX11_downNow_9 : decode cX11_downNow 9 = .ok (.istore_n 3, 1) := by decide +kernel
theorem dX11_downNow_10 : decode cX11_downNow 10 = .ok (.iconst 0, 1) := by decide +kernel
theorem dX11_downNow_11 : decode cX11_downNow 11 = .ok (.istore 4, 2) := by decide +kernel
theorem dX11_downNow_13 : decode cX11_downNow 13 = .ok (.iload 4, 2) := by decide +kernel
theorem dX11_downNow_15 : decode cX11_downNow 15 = .ok (.iload_n 3, 1) := by decide +kernel
theorem dX11_downNow_16 : decode cX11_downNow 16 = .ok (.if_icmp .ge 26, 3) := by decide +kernel
theorem dX11_downNow_19 : decode cX11_downNow 19 = .ok (.aload_n 2, 1) := by decide +kernel
theorem dX11_downNow_20 : decode cX11_downNow 20 = .ok (.iload 4, 2) := by decide +kernel
theorem dX11_downNow_22 : decode cX11_downNow 22 = .ok (.aaload, 1) := by decide +kernel
theorem dX11_downNow_23 : decode cX11_downNow 23 = .ok (.astore 5, 2) := by decide +kernel
theorem dX11_downNow_25 : decode cX11_downNow 25 = .ok (.aload 5, 2) := by decide +kernel
theorem dX11_downNow_27 : decode cX11_downNow 27 = .ok (.getfield 148, 3) := by decide +kernel
theorem dX11_downNow_30 : decode cX11_downNow 30 = .ok (.ifCond .eq 6, 3) := by decide +kernel
theorem dX11_downNow_33 : decode cX11_downNow 33 = .ok (.iinc 1 1, 3) := by decide +kernel
theorem dX11_downNow_36 : decode cX11_downNow 36 = .ok (.iinc 4 1, 3) := by decide +kernel
theorem dX11_downNow_39 : decode cX11_downNow 39 = .ok (.goto (-26), 3) := by decide +kernel
theorem dX11_downNow_42 : decode cX11_downNow 42 = .ok (.iload_n 1, 1) := by decide +kernel
theorem dX11_downNow_43 : decode cX11_downNow 43 = .ok (.ireturn, 1) := by decide +kernel
theorem dX11_stamp_0 : decode cX11_stamp 0 = .ok (.aload_n 0, 1) := by decide +kernel
theorem dX11_stamp_1 : decode cX11_stamp 1 = .ok (.getfield 67, 3) := by decide +kernel
theorem dX11_stamp_4 : decode cX11_stamp 4 = .ok (.ifCond .ne 4, 3) := by decide +kernel
theorem dX11_stamp_7 : decode cX11_stamp 7 = .ok (.return_, 1) := by decide +kernel
theorem dX11_stamp_8 : decode cX11_stamp 8 = .ok (.aload_n 0, 1) := by decide +kernel
theorem dX11_stamp_9 : decode cX11_stamp 9 = .ok (.dup, 1) := by decide +kernel
theorem dX11_stamp_10 : decode cX11_stamp 10 = .ok (.getfield 199, 3) := by decide +kernel
theorem dX11_stamp_13 : decode cX11_stamp 13 = .ok (.iconst 1, 1) := by decide +kernel
theorem dX11_stamp_14 : decode cX11_stamp 14 = .ok (.iadd, 1) := by decide +kernel
theorem dX11_stamp_15 : decode cX11_stamp 15 = .ok (.putfield 199, 3) := by decide +kernel
theorem dX11_stamp_18 : decode cX11_stamp 18 = .ok (.iconst 0, 1) := by decide +kernel
theorem dX11_stamp_19 : decode cX11_stamp 19 = .ok (.istore_n 2, 1) := by decide +kernel
theorem dX11_stamp_20 : decode cX11_stamp 20 = .ok (.iload_n 2, 1) := by decide +kernel
theorem dX11_stamp_21 : decode cX11_stamp 21 = .ok (.aload_n 0, 1) := by decide +kernel
theorem dX11_stamp_22 : decode cX11_stamp 22 = .ok (.getfield 13, 3) := by decide +kernel
theorem dX11_stamp_25 : decode cX11_stamp 25 = .ok (.if_icmp .ge 41, 3) := by decide +kernel
theorem dX11_stamp_28 : decode cX11_stamp 28 = .ok (.aload_n 0, 1) := by decide +kernel
theorem dX11_stamp_29 : decode cX11_stamp 29 = .ok (.getfield 38, 3) := by decide +kernel
theorem dX11_stamp_32 : decode cX11_stamp 32 = .ok (.iconst 0, 1) := by decide +kernel
theorem dX11_stamp_33 : decode cX11_stamp 33 = .ok (.iconst (-1), 1) := by decide +kernel
theorem dX11_stamp_34 : decode cX11_stamp 34 = .ok (.iload_n 2, 1) := by decide +kernel
theorem dX11_stamp_35 : decode cX11_stamp 35 = .ok (.invokevirtual 299, 3) := by decide +kernel
theorem dX11_stamp_38 : decode cX11_stamp 38 = .ok (.astore_n 3, 1) := by decide +kernel
theorem dX11_stamp_39 : decode cX11_stamp 39 = .ok (.aload_n 3, 1) := by decide +kernel
theorem dX11_stamp_40 : decode cX11_stamp 40 = .ok (.aload_n 0, 1) := by decide +kernel
theorem dX11_stamp_41 : decode cX11_stamp 41 = .ok (.getfield 71, 3) := by decide +kernel
theorem dX11_stamp_44 : decode cX11_stamp 44 = .ok (.putfield 303, 3) := by decide +kernel
theorem dX11_stamp_47 : decode cX11_stamp 47 = .ok (.aload_n 3, 1) := by decide +kernel
theorem dX11_stamp_48 : decode cX11_stamp 48 = .ok (.aload_n 0, 1) := by decide +kernel
theorem dX11_stamp_49 : decode cX11_stamp 49 = .ok (.getfield 199, 3) := by decide +kernel
theorem dX11_stamp_52 : decode cX11_stamp 52 = .ok (.putfield 304, 3) := by decide +kernel
theorem dX11_stamp_55 : decode cX11_stamp 55 = .ok (.aload_n 3, 1) := by decide +kernel
theorem dX11_stamp_56 : decode cX11_stamp 56 = .ok (.iload_n 1, 1) := by decide +kernel
theorem dX11_stamp_57 : decode cX11_stamp 57 = .ok (.putfield 307, 3) := by decide +kernel
theorem dX11_stamp_60 : decode cX11_stamp 60 = .ok (.iinc 2 1, 3) := by decide +kernel
theorem dX11_stamp_63 : decode cX11_stamp 63 = .ok (.goto (-43), 3) := by decide +kernel
theorem dX11_stamp_66 : decode cX11_stamp 66 = .ok (.return_, 1) := by decide +kernel
theorem dX11_handOver_0 : decode cX11_handOver 0 = .ok (.aload_n 1, 1) := by decide +kernel
theorem dX11_handOver_1 : decode cX11_handOver 1 = .ok (.getfield 281, 3) := by decide +kernel
theorem dX11_handOver_4 : decode cX11_handOver 4 = .ok (.bipush 11, 2) := by decide +kernel
theorem dX11_handOver_6 : decode cX11_handOver 6 = .ok (.if_icmp .ne 45, 3) := by decide +kernel
theorem dX11_handOver_9 : decode cX11_handOver 9 = .ok (.aload_n 0, 1) := by decide +kernel
theorem dX11_handOver_10 : decode cX11_handOver 10 = .ok (.getfield 60, 3) := by decide +kernel
theorem dX11_handOver_13 : decode cX11_handOver 13 = .ok (.aload_n 1, 1) := by decide +kernel
theorem dX11_handOver_14 : decode cX11_handOver 14 = .ok (.getfield 286, 3) := by decide +kernel
theorem dX11_handOver_17 : decode cX11_handOver 17 = .ok (.aaload, 1) := by decide +kernel
theorem dX11_handOver_18 : decode cX11_handOver 18 = .ok (.astore_n 2, 1) := by decide +kernel
theorem dX11_handOver_19 : decode cX11_handOver 19 = .ok (.aload_n 2, 1) := by decide +kernel
theorem dX11_handOver_20 : decode cX11_handOver 20 = .ok (.aload_n 1, 1) := by decide +kernel
theorem dX11_handOver_21 : decode cX11_handOver 21 = .ok (.invokevirtual 310, 3) := by decide +kernel
theorem dX11_handOver_24 : decode cX11_handOver 24 = .ok (.ifCond .eq 26, 3) := by decide +kernel
theorem dX11_handOver_27 : decode cX11_handOver 27 = .ok (.aload_n 0, 1) := by decide +kernel
theorem dX11_handOver_28 : decode cX11_handOver 28 = .ok (.getfield 45, 3) := by decide +kernel
theorem dX11_handOver_31 : decode cX11_handOver 31 = .ok (.aload_n 2, 1) := by decide +kernel
theorem dX11_handOver_32 : decode cX11_handOver 32 = .ok (.getfield 118, 3) := by decide +kernel
theorem dX11_handOver_35 : decode cX11_handOver 35 = .ok (.aload_n 2, 1) := by decide +kernel
theorem dX11_handOver_36 : decode cX11_handOver 36 = .ok (.getfield 264, 3) := by decide +kernel
theorem dX11_handOver_39 : decode cX11_handOver 39 = .ok (.aload_n 2, 1) := by decide +kernel
theorem dX11_handOver_40 : decode cX11_handOver 40 = .ok (.getfield 261, 3) := by decide +kernel
theorem dX11_handOver_43 : decode cX11_handOver 43 = .ok (.aload_n 2, 1) := by decide +kernel
theorem dX11_handOver_44 : decode cX11_handOver 44 = .ok (.getfield 267, 3) := by decide +kernel
theorem dX11_handOver_47 : decode cX11_handOver 47 = .ok (.invokevirtual 314, 3) := by decide +kernel
theorem dX11_handOver_50 : decode cX11_handOver 50 = .ok (.return_, 1) := by decide +kernel
theorem dX11_handOver_51 : decode cX11_handOver 51 = .ok (.aload_n 0, 1) := by decide +kernel
theorem dX11_handOver_52 : decode cX11_handOver 52 = .ok (.getfield 51, 3) := by decide +kernel
theorem dX11_handOver_55 : decode cX11_handOver 55 = .ok (.aload_n 1, 1) := by decide +kernel
theorem dX11_handOver_56 : decode cX11_handOver 56 = .ok (.getfield 286, 3) := by decide +kernel
theorem dX11_handOver_59 : decode cX11_handOver 59 = .ok (.aaload, 1) := by decide +kernel
theorem dX11_handOver_60 : decode cX11_handOver 60 = .ok (.astore_n 2, 1) := by decide +kernel
theorem dX11_handOver_61 : decode cX11_handOver 61 = .ok (.aload_n 2, 1) := by decide +kernel
theorem dX11_handOver_62 : decode cX11_handOver 62 = .ok (.getfield 148, 3) := by decide +kernel
theorem dX11_handOver_65 : decode cX11_handOver 65 = .ok (.ifCond .eq 19, 3) := by decide +kernel
theorem dX11_handOver_68 : decode cX11_handOver 68 = .ok (.aload_n 0, 1) := by decide +kernel
theorem dX11_handOver_69 : decode cX11_handOver 69 = .ok (.getfield 38, 3) := by decide +kernel
theorem dX11_handOver_72 : decode cX11_handOver 72 = .ok (.dup, 1) := by decide +kernel
theorem dX11_handOver_73 : decode cX11_handOver 73 = .ok (.getfield 135, 3) := by decide +kernel
theorem dX11_handOver_76 : decode cX11_handOver 76 = .ok (.iconst 1, 1) := by decide +kernel
theorem dX11_handOver_77 : decode cX11_handOver 77 = .ok (.iadd, 1) := by decide +kernel
theorem dX11_handOver_78 : decode cX11_handOver 78 = .ok (.putfield 135, 3) := by decide +kernel
theorem dX11_handOver_81 : decode cX11_handOver 81 = .ok (.goto 72, 3) := by decide +kernel
theorem dX11_handOver_84 : decode cX11_handOver 84 = .ok (.aload_n 1, 1) := by decide +kernel
theorem dX11_handOver_85 : decode cX11_handOver 85 = .ok (.getfield 281, 3) := by decide +kernel
theorem dX11_handOver_88 : decode cX11_handOver 88 = .ok (.ifCond .ne 11, 3) := by decide +kernel
theorem dX11_handOver_91 : decode cX11_handOver 91 = .ok (.aload_n 2, 1) := by decide +kernel
theorem dX11_handOver_92 : decode cX11_handOver 92 = .ok (.aload_n 1, 1) := by decide +kernel
theorem dX11_handOver_93 : decode cX11_handOver 93 = .ok (.invokevirtual 317, 3) := by decide +kernel
theorem dX11_handOver_96 : decode cX11_handOver 96 = .ok (.goto 57, 3) := by decide +kernel
theorem dX11_handOver_99 : decode cX11_handOver 99 = .ok (.aload_n 1, 1) := by decide +kernel
theorem dX11_handOver_100 : decode cX11_handOver 100 = .ok (.getfield 281, 3) := by decide +kernel
theorem dX11_handOver_103 : decode cX11_handOver 103 = .ok (.bipush 8, 2) := by decide +kernel
theorem dX11_handOver_105 : decode cX11_handOver 105 = .ok (.if_icmp .eq 21, 3) := by decide +kernel
theorem dX11_handOver_108 : decode cX11_handOver 108 = .ok (.aload_n 1, 1) := by decide +kernel
theorem dX11_handOver_109 : decode cX11_handOver 109 = .ok (.getfield 281, 3) := by decide +kernel
theorem dX11_handOver_112 : decode cX11_handOver 112 = .ok (.bipush 9, 2) := by decide +kernel
theorem dX11_handOver_114 : decode cX11_handOver 114 = .ok (.if_icmp .eq 12, 3) := by decide +kernel
theorem dX11_handOver_117 : decode cX11_handOver 117 = .ok (.aload_n 1, 1) := by decide +kernel
theorem dX11_handOver_118 : decode cX11_handOver 118 = .ok (.getfield 281, 3) := by decide +kernel
theorem dX11_handOver_121 : decode cX11_handOver 121 = .ok (.bipush 10, 2) := by decide +kernel
theorem dX11_handOver_123 : decode cX11_handOver 123 = .ok (.if_icmp .ne 11, 3) := by decide +kernel
theorem dX11_handOver_126 : decode cX11_handOver 126 = .ok (.aload_n 2, 1) := by decide +kernel
theorem dX11_handOver_127 : decode cX11_handOver 127 = .ok (.aload_n 1, 1) := by decide +kernel
theorem dX11_handOver_128 : decode cX11_handOver 128 = .ok (.invokevirtual 320, 3) := by decide +kernel
theorem dX11_handOver_131 : decode cX11_handOver 131 = .ok (.goto 22, 3) := by decide +kernel
theorem dX11_handOver_134 : decode cX11_handOver 134 = .ok (.aload_n 1, 1) := by decide +kernel
theorem dX11_handOver_135 : decode cX11_handOver 135 = .ok (.getfield 323, 3) := by decide +kernel
theorem dX11_handOver_138 : decode cX11_handOver 138 = .ok (.aload_n 2, 1) := by decide +kernel
theorem dX11_handOver_139 : decode cX11_handOver 139 = .ok (.getfield 166, 3) := by decide +kernel
theorem dX11_handOver_142 : decode cX11_handOver 142 = .ok (.invokevirtual 324, 3) := by decide +kernel
theorem dX11_handOver_145 : decode cX11_handOver 145 = .ok (.ifCond .eq 8, 3) := by decide +kernel
theorem dX11_handOver_148 : decode cX11_handOver 148 = .ok (.aload_n 2, 1) := by decide +kernel
theorem dX11_handOver_149 : decode cX11_handOver 149 = .ok (.aload_n 1, 1) := by decide +kernel
theorem dX11_handOver_150 : decode cX11_handOver 150 = .ok (.invokevirtual 328, 3) := by decide +kernel
theorem dX11_handOver_153 : decode cX11_handOver 153 = .ok (.return_, 1) := by decide +kernel
theorem dJ6_bitCount_0f7a4_0 : decode cJ6_bitCount_0f7a4 0 = .ok (.iload_n 0, 1) := by decide +kernel
theorem dJ6_bitCount_0f7a4_1 : decode cJ6_bitCount_0f7a4 1 = .ok (.iload_n 0, 1) := by decide +kernel
theorem dJ6_bitCount_0f7a4_2 : decode cJ6_bitCount_0f7a4 2 = .ok (.iconst 1, 1) := by decide +kernel
theorem dJ6_bitCount_0f7a4_3 : decode cJ6_bitCount_0f7a4 3 = .ok (.iushr, 1) := by decide +kernel
theorem dJ6_bitCount_0f7a4_4 : decode cJ6_bitCount_0f7a4 4 = .ok (.ldc_w 265, 3) := by decide +kernel
theorem dJ6_bitCount_0f7a4_7 : decode cJ6_bitCount_0f7a4 7 = .ok (.iand, 1) := by decide +kernel
theorem dJ6_bitCount_0f7a4_8 : decode cJ6_bitCount_0f7a4 8 = .ok (.isub, 1) := by decide +kernel
theorem dJ6_bitCount_0f7a4_9 : decode cJ6_bitCount_0f7a4 9 = .ok (.istore_n 0, 1) := by decide +kernel
theorem dJ6_bitCount_0f7a4_10 : decode cJ6_bitCount_0f7a4 10 = .ok (.iload_n 0, 1) := by decide +kernel
theorem dJ6_bitCount_0f7a4_11 : decode cJ6_bitCount_0f7a4 11 = .ok (.ldc_w 266, 3) := by decide +kernel
theorem dJ6_bitCount_0f7a4_14 : decode cJ6_bitCount_0f7a4 14 = .ok (.iand, 1) := by decide +kernel
theorem dJ6_bitCount_0f7a4_15 : decode cJ6_bitCount_0f7a4 15 = .ok (.iload_n 0, 1) := by decide +kernel
theorem dJ6_bitCount_0f7a4_16 : decode cJ6_bitCount_0f7a4 16 = .ok (.iconst 2, 1) := by decide +kernel
theorem dJ6_bitCount_0f7a4_17 : decode cJ6_bitCount_0f7a4 17 = .ok (.iushr, 1) := by decide +kernel
theorem dJ6_bitCount_0f7a4_18 : decode cJ6_bitCount_0f7a4 18 = .ok (.ldc_w 266, 3) := by decide +kernel
theorem dJ6_bitCount_0f7a4_21 : decode cJ6_bitCount_0f7a4 21 = .ok (.iand, 1) := by decide +kernel
theorem dJ6_bitCount_0f7a4_22 : decode cJ6_bitCount_0f7a4 22 = .ok (.iadd, 1) := by decide +kernel
theorem dJ6_bitCount_0f7a4_23 : decode cJ6_bitCount_0f7a4 23 = .ok (.istore_n 0, 1) := by decide +kernel
theorem dJ6_bitCount_0f7a4_24 : decode cJ6_bitCount_0f7a4 24 = .ok (.iload_n 0, 1) := by decide +kernel
theorem dJ6_bitCount_0f7a4_25 : decode cJ6_bitCount_0f7a4 25 = .ok (.iload_n 0, 1) := by decide +kernel
theorem dJ6_bitCount_0f7a4_26 : decode cJ6_bitCount_0f7a4 26 = .ok (.iconst 4, 1) := by decide +kernel
theorem dJ6_bitCount_0f7a4_27 : decode cJ6_bitCount_0f7a4 27 = .ok (.iushr, 1) := by decide +kernel
theorem dJ6_bitCount_0f7a4_28 : decode cJ6_bitCount_0f7a4 28 = .ok (.iadd, 1) := by decide +kernel
theorem dJ6_bitCount_0f7a4_29 : decode cJ6_bitCount_0f7a4 29 = .ok (.ldc_w 267, 3) := by decide +kernel
theorem dJ6_bitCount_0f7a4_32 : decode cJ6_bitCount_0f7a4 32 = .ok (.iand, 1) := by decide +kernel
theorem dJ6_bitCount_0f7a4_33 : decode cJ6_bitCount_0f7a4 33 = .ok (.istore_n 0, 1) := by decide +kernel
theorem dJ6_bitCount_0f7a4_34 : decode cJ6_bitCount_0f7a4 34 = .ok (.iload_n 0, 1) := by decide +kernel
theorem dJ6_bitCount_0f7a4_35 : decode cJ6_bitCount_0f7a4 35 = .ok (.iload_n 0, 1) := by decide +kernel
theorem dJ6_bitCount_0f7a4_36 : decode cJ6_bitCount_0f7a4 36 = .ok (.bipush 8, 2) := by decide +kernel
theorem dJ6_bitCount_0f7a4_38 : decode cJ6_bitCount_0f7a4 38 = .ok (.iushr, 1) := by decide +kernel
theorem dJ6_bitCount_0f7a4_39 : decode cJ6_bitCount_0f7a4 39 = .ok (.iadd, 1) := by decide +kernel
theorem dJ6_bitCount_0f7a4_40 : decode cJ6_bitCount_0f7a4 40 = .ok (.istore_n 0, 1) := by decide +kernel
theorem dJ6_bitCount_0f7a4_41 : decode cJ6_bitCount_0f7a4 41 = .ok (.iload_n 0, 1) := by decide +kernel
theorem dJ6_bitCount_0f7a4_42 : decode cJ6_bitCount_0f7a4 42 = .ok (.iload_n 0, 1) := by decide +kernel
theorem dJ6_bitCount_0f7a4_43 : decode cJ6_bitCount_0f7a4 43 = .ok (.bipush 16, 2) := by decide +kernel
theorem dJ6_bitCount_0f7a4_45 : decode cJ6_bitCount_0f7a4 45 = .ok (.iushr, 1) := by decide +kernel
theorem dJ6_bitCount_0f7a4_46 : decode cJ6_bitCount_0f7a4 46 = .ok (.iadd, 1) := by decide +kernel
theorem dJ6_bitCount_0f7a4_47 : decode cJ6_bitCount_0f7a4 47 = .ok (.istore_n 0, 1) := by decide +kernel
theorem dJ6_bitCount_0f7a4_48 : decode cJ6_bitCount_0f7a4 48 = .ok (.iload_n 0, 1) := by decide +kernel
theorem dJ6_bitCount_0f7a4_49 : decode cJ6_bitCount_0f7a4 49 = .ok (.bipush 63, 2) := by decide +kernel
theorem dJ6_bitCount_0f7a4_51 : decode cJ6_bitCount_0f7a4 51 = .ok (.iand, 1) := by decide +kernel
theorem dJ6_bitCount_0f7a4_52 : decode cJ6_bitCount_0f7a4 52 = .ok (.ireturn, 1) := by decide +kernel
theorem dJ9_floorMod_7cf53_0 : decode cJ9_floorMod_7cf53 0 = .ok (.iload_n 0, 1) := by decide +kernel
theorem dJ9_floorMod_7cf53_1 : decode cJ9_floorMod_7cf53 1 = .ok (.iload_n 1, 1) := by decide +kernel
theorem dJ9_floorMod_7cf53_2 : decode cJ9_floorMod_7cf53 2 = .ok (.irem, 1) := by decide +kernel
theorem dJ9_floorMod_7cf53_3 : decode cJ9_floorMod_7cf53 3 = .ok (.istore_n 2, 1) := by decide +kernel
theorem dJ9_floorMod_7cf53_4 : decode cJ9_floorMod_7cf53 4 = .ok (.iload_n 0, 1) := by decide +kernel
theorem dJ9_floorMod_7cf53_5 : decode cJ9_floorMod_7cf53 5 = .ok (.iload_n 1, 1) := by decide +kernel
theorem dJ9_floorMod_7cf53_6 : decode cJ9_floorMod_7cf53 6 = .ok (.ixor, 1) := by decide +kernel
theorem dJ9_floorMod_7cf53_7 : decode cJ9_floorMod_7cf53 7 = .ok (.ifCond .ge 11, 3) := by decide +kernel
theorem dJ9_floorMod_7cf53_10 : decode cJ9_floorMod_7cf53 10 = .ok (.iload_n 2, 1) := by decide +kernel
theorem dJ9_floorMod_7cf53_11 : decode cJ9_floorMod_7cf53 11 = .ok (.ifCond .eq 7, 3) := by decide +kernel
theorem dJ9_floorMod_7cf53_14 : decode cJ9_floorMod_7cf53 14 = .ok (.iload_n 2, 1) := by decide +kernel
theorem dJ9_floorMod_7cf53_15 : decode cJ9_floorMod_7cf53 15 = .ok (.iload_n 1, 1) := by decide +kernel
theorem dJ9_floorMod_7cf53_16 : decode cJ9_floorMod_7cf53 16 = .ok (.iadd, 1) := by decide +kernel
theorem dJ9_floorMod_7cf53_17 : decode cJ9_floorMod_7cf53 17 = .ok (.ireturn, 1) := by decide +kernel
theorem dJ9_floorMod_7cf53_18 : decode cJ9_floorMod_7cf53 18 = .ok (.iload_n 2, 1) := by decide +kernel
theorem dJ9_floorMod_7cf53_19 : decode cJ9_floorMod_7cf53 19 = .ok (.ireturn, 1) := by decide +kernel
theorem dJ9_max_7cf53_0 : decode cJ9_max_7cf53 0 = .ok (.iload_n 0, 1) := by decide +kernel
theorem dJ9_max_7cf53_1 : decode cJ9_max_7cf53 1 = .ok (.iload_n 1, 1) := by decide +kernel
theorem dJ9_max_7cf53_2 : decode cJ9_max_7cf53 2 = .ok (.if_icmp .lt 7, 3) := by decide +kernel
theorem dJ9_max_7cf53_5 : decode cJ9_max_7cf53 5 = .ok (.iload_n 0, 1) := by decide +kernel
theorem dJ9_max_7cf53_6 : decode cJ9_max_7cf53 6 = .ok (.goto 4, 3) := by decide +kernel
theorem dJ9_max_7cf53_9 : decode cJ9_max_7cf53 9 = .ok (.iload_n 1, 1) := by decide +kernel
theorem dJ9_max_7cf53_10 : decode cJ9_max_7cf53 10 = .ok (.ireturn, 1) := by decide +kernel
theorem dJ9_min_7cf53_0 : decode cJ9_min_7cf53 0 = .ok (.iload_n 0, 1) := by decide +kernel
theorem dJ9_min_7cf53_1 : decode cJ9_min_7cf53 1 = .ok (.iload_n 1, 1) := by decide +kernel
theorem dJ9_min_7cf53_2 : decode cJ9_min_7cf53 2 = .ok (.if_icmp .gt 7, 3) := by decide +kernel
theorem dJ9_min_7cf53_5 : decode cJ9_min_7cf53 5 = .ok (.iload_n 0, 1) := by decide +kernel
theorem dJ9_min_7cf53_6 : decode cJ9_min_7cf53 6 = .ok (.goto 4, 3) := by decide +kernel
theorem dJ9_min_7cf53_9 : decode cJ9_min_7cf53 9 = .ok (.iload_n 1, 1) := by decide +kernel
theorem dJ9_min_7cf53_10 : decode cJ9_min_7cf53 10 = .ok (.ireturn, 1) := by decide +kernel
theorem dJ7_fill_53178_0 : decode cJ7_fill_53178 0 = .ok (.iconst 0, 1) := by decide +kernel
theorem dJ7_fill_53178_1 : decode cJ7_fill_53178 1 = .ok (.istore_n 2, 1) := by decide +kernel
theorem dJ7_fill_53178_2 : decode cJ7_fill_53178 2 = .ok (.aload_n 0, 1) := by decide +kernel
theorem dJ7_fill_53178_3 : decode cJ7_fill_53178 3 = .ok (.arraylength, 1) := by decide +kernel
theorem dJ7_fill_53178_4 : decode cJ7_fill_53178 4 = .ok (.istore_n 3, 1) := by decide +kernel
theorem dJ7_fill_53178_5 : decode cJ7_fill_53178 5 = .ok (.iload_n 2, 1) := by decide +kernel
theorem dJ7_fill_53178_6 : decode cJ7_fill_53178 6 = .ok (.iload_n 3, 1) := by decide +kernel
theorem dJ7_fill_53178_7 : decode cJ7_fill_53178 7 = .ok (.if_icmp .ge 13, 3) := by decide +kernel
theorem dJ7_fill_53178_10 : decode cJ7_fill_53178 10 = .ok (.aload_n 0, 1) := by decide +kernel
theorem dJ7_fill_53178_11 : decode cJ7_fill_53178 11 = .ok (.iload_n 2, 1) := by decide +kernel
theorem dJ7_fill_53178_12 : decode cJ7_fill_53178 12 = .ok (.iload_n 1, 1) := by decide +kernel
theorem dJ7_fill_53178_13 : decode cJ7_fill_53178 13 = .ok (.iastore, 1) := by decide +kernel
theorem dJ7_fill_53178_14 : decode cJ7_fill_53178 14 = .ok (.iinc 2 1, 3) := by decide +kernel
theorem dJ7_fill_53178_17 : decode cJ7_fill_53178 17 = .ok (.goto (-12), 3) := by decide +kernel
theorem dJ7_fill_53178_20 : decode cJ7_fill_53178 20 = .ok (.return_, 1) := by decide +kernel
