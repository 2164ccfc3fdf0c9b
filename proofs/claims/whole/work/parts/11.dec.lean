theorem dX10_init_0 : decode cX10_init 0 = .ok (.aload_n 0, 1) := by decide +kernel
theorem dX10_init_1 : decode cX10_init 1 = .ok (.invokespecial 1, 3) := by decide +kernel
theorem dX10_init_4 : decode cX10_init 4 = .ok (.aload_n 0, 1) := by decide +kernel
theorem dX10_init_5 : decode cX10_init 5 = .ok (.sipush 308, 3) := by decide +kernel
theorem dX10_init_8 : decode cX10_init 8 = .ok (.newarray .int, 2) := by decide +kernel
theorem dX10_init_10 : decode cX10_init 10 = .ok (.putfield 7, 3) := by decide +kernel
theorem dX10_init_13 : decode cX10_init 13 = .ok (.aload_n 0, 1) := by decide +kernel
theorem dX10_init_14 : decode cX10_init 14 = .ok (.sipush 308, 3) := by decide +kernel
theorem dX10_init_17 : decode cX10_init 17 = .ok (.newarray .int, 2) := by decide +kernel
theorem dX10_init_19 : decode cX10_init 19 = .ok (.putfield 13, 3) := by decide +kernel
theorem dX10_init_22 : decode cX10_init 22 = .ok (.aload_n 0, 1) := by decide +kernel
theorem dX10_init_23 : decode cX10_init 23 = .ok (.sipush 308, 3) := by decide +kernel
theorem dX10_init_26 : decode cX10_init 26 = .ok (.newarray .int, 2) := by decide +kernel
theorem dX10_init_28 : decode cX10_init 28 = .ok (.putfield 16, 3) := by decide +kernel
theorem dX10_init_31 : decode cX10_init 31 = .ok (.aload_n 0, 1) := by decide +kernel
theorem dX10_init_32 : decode cX10_init 32 = .ok (.sipush 2464, 3) := by decide +kernel
theorem dX10_init_35 : decode cX10_init 35 = .ok (.newarray .int, 2) := by decide +kernel
theorem dX10_init_37 : decode cX10_init 37 = .ok (.putfield 19, 3) := by decide +kernel
theorem dX10_init_40 : decode cX10_init 40 = .ok (.aload_n 0, 1) := by decide +kernel
theorem dX10_init_41 : decode cX10_init 41 = .ok (.sipush 600, 3) := by decide +kernel
theorem dX10_init_44 : decode cX10_init 44 = .ok (.newarray .int, 2) := by decide +kernel
theorem dX10_init_46 : decode cX10_init 46 = .ok (.putfield 22, 3) := by decide +kernel
theorem dX10_init_49 : decode cX10_init 49 = .ok (.aload_n 0, 1) := by decide +kernel
theorem dX10_init_50 : decode cX10_init 50 = .ok (.iconst (-1), 1) := by decide +kernel
theorem dX10_init_51 : decode cX10_init 51 = .ok (.putfield 25, 3) := by decide +kernel
theorem dX10_init_54 : decode cX10_init 54 = .ok (.aload_n 0, 1) := by decide +kernel
theorem dX10_init_55 : decode cX10_init 55 = .ok (.bipush 12, 2) := by decide +kernel
theorem dX10_init_57 : decode cX10_init 57 = .ok (.newarray .int, 2) := by decide +kernel
theorem dX10_init_59 : decode cX10_init 59 = .ok (.putfield 29, 3) := by decide +kernel
theorem dX10_init_62 : decode cX10_init 62 = .ok (.aload_n 0, 1) := by decide +kernel
theorem dX10_init_63 : decode cX10_init 63 = .ok (.bipush 120, 2) := by decide +kernel
theorem dX10_init_65 : decode cX10_init 65 = .ok (.newarray .int, 2) := by decide +kernel
theorem dX10_init_67 : decode cX10_init 67 = .ok (.putfield 32, 3) := by decide +kernel
theorem dX10_init_70 : decode cX10_init 70 = .ok (.aload_n 0, 1) := by decide +kernel
theorem dX10_init_71 : decode cX10_init 71 = .ok (.invokevirtual 35, 3) := by decide +kernel
theorem dX10_init_74 : decode cX10_init 74 = .ok (.aload_n 0, 1) := by decide +kernel
theorem dX10_init_75 : decode cX10_init 75 = .ok (.aload_n 0, 1) := by decide +kernel
theorem dX10_init_76 : decode cX10_init 76 = .ok (.getfield 13, 3) := by decide +kernel
theorem dX10_init_79 : decode cX10_init 79 = .ok (.iconst 0, 1) := by decide +kernel
theorem dX10_init_80 : decode cX10_init 80 = .ok (.invokevirtual 38, 3) := by decide +kernel
theorem dX10_init_83 : decode cX10_init 83 = .ok (.return_, 1) := by decide +kernel
theorem dX10_begins_0 : decode cX10_begins 0 = .ok (.iconst 0, 1) := by decide +kernel
theorem dX10_begins_1 : decode cX10_begins 1 = .ok (.istore_n 1, 1) := by decide +kernel
theorem dX10_begins_2 : decode cX10_begins 2 = .ok (.iload_n 1, 1) := by decide +kernel
theorem dX10_begins_3 : decode cX10_begins 3 = .ok (.sipush 308, 3) := by decide +kernel
theorem dX10_begins_6 : decode cX10_begins 6 = .ok (.if_icmp .ge 16, 3) := by decide +kernel
theorem dX10_begins_9 : decode cX10_begins 9 = .ok (.aload_n 0, 1) := by decide +kernel
theorem dX10_begins_10 : decode cX10_begins 10 = .ok (.getfield 13, 3) := by decide +kernel
theorem dX10_begins_13 : decode cX10_begins 13 = .ok (.iload_n 1, 1) := by decide +kernel
theorem dX10_begins_14 : decode cX10_begins 14 = .ok (.iconst 0, 1) := by decide +kernel
theorem dX10_begins_15 : decode cX10_begins 15 = .ok (.iastore, 1) := by decide +kernel
theorem dX10_begins_16 : decode cX10_begins 16 = .ok (.iinc 1 1, 3) := by decide +kernel
theorem dX10_begins_19 : decode cX10_begins 19 = .ok (.goto (-17), 3) := by decide +kernel
theorem dX10_begins_22 : decode cX10_begins 22 = .ok (.aload_n 0, 1) := by decide +kernel
theorem dX10_begins_23 : decode cX10_begins 23 = .ok (.getfield 13, 3) := by decide +kernel
theorem dX10_begins_26 : decode cX10_begins 26 = .ok (.iconst 1, 1) := by decide +kernel
theorem dX10_begins_27 : decode cX10_begins 27 = .ok (.bipush 10, 2) := by decide +kernel
theorem dX10_begins_29 : decode cX10_begins 29 = .ok (.iastore, 1) := by decide +kernel
theorem dX10_begins_30 : decode cX10_begins 30 = .ok (.aload_n 0, 1) := by decide +kernel
theorem dX10_begins_31 : decode cX10_begins 31 = .ok (.getfield 13, 3) := by decide +kernel
theorem dX10_begins_34 : decode cX10_begins 34 = .ok (.iconst 2, 1) := by decide +kernel
theorem dX10_begins_35 : decode cX10_begins 35 = .ok (.bipush 50, 2) := by decide +kernel
theorem dX10_begins_37 : decode cX10_begins 37 = .ok (.iastore, 1) := by decide +kernel
theorem dX10_begins_38 : decode cX10_begins 38 = .ok (.aload_n 0, 1) := by decide +kernel
theorem dX10_begins_39 : decode cX10_begins 39 = .ok (.getfield 13, 3) := by decide +kernel
theorem dX10_begins_42 : decode cX10_begins 42 = .ok (.iconst 3, 1) := by decide +kernel
theorem dX10_begins_43 : decode cX10_begins 43 = .ok (.iconst 5, 1) := by decide +kernel
theorem dX10_begins_44 : decode cX10_begins 44 = .ok (.iastore, 1) := by decide +kernel
theorem dX10_begins_45 : decode cX10_begins 45 = .ok (.aload_n 0, 1) := by decide +kernel
theorem dX10_begins_46 : decode cX10_begins 46 = .ok (.getfield 13, 3) := by decide +kernel
theorem dX10_begins_49 : decode cX10_begins 49 = .ok (.iconst 4, 1) := by decide +kernel
theorem dX10_begins_50 : decode cX10_begins 50 = .ok (.iconst 1, 1) := by decide +kernel
theorem dX10_begins_51 : decode cX10_begins 51 = .ok (.iastore, 1) := by decide +kernel
theorem dX10_begins_52 : decode cX10_begins 52 = .ok (.aload_n 0, 1) := by decide +kernel
theorem dX10_begins_53 : decode cX10_begins 53 = .ok (.getfield 13, 3) := by decide +kernel
theorem dX10_begins_56 : decode cX10_begins 56 = .ok (.bipush 10, 2) := by decide +kernel
theorem dX10_begins_58 : decode cX10_begins 58 = .ok (.iconst (-1), 1) := by decide +kernel
theorem dX10_begins_59 : decode cX10_begins 59 = .ok (.iastore, 1) := by decide +kernel
theorem dX10_begins_60 : decode cX10_begins 60 = .ok (.return_, 1) := by decide +kernel
theorem dX10_becomes_0 : decode cX10_becomes 0 = .ok (.iconst 0, 1) := by decide +kernel
theorem dX10_becomes_1 : decode cX10_becomes 1 = .ok (.istore_n 3, 1) := by decide +kernel
theorem dX10_becomes_2 : decode cX10_becomes 2 = .ok (.iload_n 3, 1) := by decide +kernel
theorem dX10_becomes_3 : decode cX10_becomes 3 = .ok (.sipush 308, 3) := by decide +kernel
theorem dX10_becomes_6 : decode cX10_becomes 6 = .ok (.if_icmp .ge 20, 3) := by decide +kernel
theorem dX10_becomes_9 : decode cX10_becomes 9 = .ok (.aload_n 0, 1) := by decide +kernel
theorem dX10_becomes_10 : decode cX10_becomes 10 = .ok (.getfield 7, 3) := by decide +kernel
theorem dX10_becomes_13 : decode cX10_becomes 13 = .ok (.iload_n 3, 1) := by decide +kernel
theorem dX10_becomes_14 : decode cX10_becomes 14 = .ok (.aload_n 1, 1) := by decide +kernel
theorem dX10_becomes_15 : decode cX10_becomes 15 = .ok (.iload_n 2, 1) := by decide +kernel
theorem dX10_becomes_16 : decode cX10_becomes 16 = .ok (.iload_n 3, 1) := by decide +kernel
theorem dX10_becomes_17 : decode cX10_becomes 17 = .ok (.iadd, 1) := by decide +kernel
theorem dX10_becomes_18 : decode cX10_becomes 18 = .ok (.iaload, 1) := by decide +kernel
theorem dX10_becomes_19 : decode cX10_becomes 19 = .ok (.iastore, 1) := by decide +kernel
theorem dX10_becomes_20 : decode cX10_becomes 20 = .ok (.iinc 3 1, 3) := by decide +kernel
theorem dX10_becomes_23 : decode cX10_becomes 23 = .ok (.goto (-21), 3) := by decide +kernel
theorem dX10_becomes_26 : decode cX10_becomes 26 = .ok (.return_, 1) := by decide +kernel
theorem dX10_thrown_0 : decode cX10_thrown 0 = .ok (.aload_n 0, 1) := by decide +kernel
theorem dX10_thrown_1 : decode cX10_thrown 1 = .ok (.getfield 42, 3) := by decide +kernel
theorem dX10_thrown_4 : decode cX10_thrown 4 = .ok (.ireturn, 1) := by decide +kernel
theorem dX10_isIn_0 : decode cX10_isIn 0 = .ok (.iload_n 0, 1) := by decide +kernel
theorem dX10_isIn_1 : decode cX10_isIn 1 = .ok (.iload_n 1, 1) := by decide +kernel
theorem dX10_isIn_2 : decode cX10_isIn 2 = .ok (.if_icmp .lt 12, 3) := by decide +kernel
theorem dX10_isIn_5 : decode cX10_isIn 5 = .ok (.iload_n 0, 1) := by decide +kernel
theorem dX10_isIn_6 : decode cX10_isIn 6 = .ok (.iload_n 2, 1) := by decide +kernel
theorem dX10_isIn_7 : decode cX10_isIn 7 = .ok (.if_icmp .gt 7, 3) := by decide +kernel
theorem dX10_isIn_10 : decode cX10_isIn 10 = .ok (.iconst 1, 1) := by decide +kernel
theorem dX10_isIn_11 : decode cX10_isIn 11 = .ok (.goto 4, 3) := by decide +kernel
theorem dX10_isIn_14 : decode cX10_isIn 14 = .ok (.iconst 0, 1) := by decide +kernel
theorem dX10_isIn_15 : decode cX10_isIn 15 = .ok (.ireturn, 1) := by decide +kernel
theorem dX10_keeps_0 : decode cX10_keeps 0 = .ok (.aload_n 0, 1) := by decide +kernel
theorem dX10_keeps_1 : decode cX10_keeps 1 = .ok (.getfield 45, 3) := by decide +kernel
theorem dX10_keeps_4 : decode cX10_keeps 4 = .ok (.bipush 8, 2) := by decide +kernel
theorem dX10_keeps_6 : decode cX10_keeps 6 = .ok (.if_icmp .ne 44, 3) := by decide +kernel
theorem dX10_keeps_9 : decode cX10_keeps 9 = .ok (.iconst 0, 1) := by decide +kernel
theorem dX10_keeps_10 : decode cX10_keeps 10 = .ok (.istore_n 1, 1) := by decide +kernel
theorem dX10_keeps_11 : decode cX10_keeps 11 = .ok (.iload_n 1, 1) := by decide +kernel
theorem dX10_keeps_12 : decode cX10_keeps 12 = .ok (.sipush 2156, 3) := by decide +kernel
theorem dX10_keeps_15 : decode cX10_keeps 15 = .ok (.if_icmp .ge 25, 3) := by decide +kernel
theorem dX10_keeps_18 : decode cX10_keeps 18 = .ok (.aload_n 0, 1) := by decide +kernel
theorem dX10_keeps_19 : decode cX10_keeps 19 = .ok (.getfield 19, 3) := by decide +kernel
theorem dX10_keeps_22 : decode cX10_keeps 22 = .ok (.iload_n 1, 1) := by decide +kernel
theorem dX10_keeps_23 : decode cX10_keeps 23 = .ok (.aload_n 0, 1) := by decide +kernel
theorem dX10_keeps_24 : decode cX10_keeps 24 = .ok (.getfield 19, 3) := by decide +kernel
theorem dX10_keeps_27 : decode cX10_keeps 27 = .ok (.iload_n 1, 1) := by decide +kernel
theorem dX10_keeps_28 : decode cX10_keeps 28 = .ok (.sipush 308, 3) := by decide +kernel
theorem dX10_keeps_31 : decode cX10_keeps 31 = .ok (.iadd, 1) := by decide +kernel
theorem dX10_keeps_32 : decode cX10_keeps 32 = .ok (.iaload, 1) := by decide +kernel
theorem dX10_keeps_33 : decode cX10_keeps 33 = .ok (.iastore, 1) := by decide +kernel
theorem dX10_keeps_34 : decode cX10_keeps 34 = .ok (.iinc 1 1, 3) := by decide +kernel
theorem dX10_keeps_37 : decode cX10_keeps 37 = .ok (.goto (-26), 3) := by decide +kernel
theorem dX10_keeps_40 : decode cX10_keeps 40 = .ok (.aload_n 0, 1) := by decide +kernel
theorem dX10_keeps_41 : decode cX10_keeps 41 = .ok (.dup, 1) := by decide +kernel
theorem dX10_keeps_42 : decode cX10_keeps 42 = .ok (.getfield 45, 3) := by decide +kernel
theorem dX10_keeps_45 : decode cX10_keeps 45 = .ok (.iconst 1, 1) := by decide +kernel
theorem dX10_keeps_46 : decode cX10_keeps 46 = .ok (.isub, 1) := by decide +kernel
theorem dX10_keeps_47 : decode cX10_keeps 47 = .ok (.putfield 45, 3) := by decide +kernel
theorem dX10_keeps_50 : decode cX10_keeps 50 = .ok (.iconst 0, 1) := by decide +kernel
theorem dX10_keeps_51 : decode cX10_keeps 51 = .ok (.istore_n 1, 1) := by decide +kernel
theorem dX10_keeps_52 : decode cX10_keeps 52 = .ok (.iload_n 1, 1) := by decide +kernel
theorem dX10_keeps_53 : decode cX10_keeps 53 = .ok (.sipush 308, 3) := by decide +kernel
theorem dX10_keeps_56 : decode cX10_keeps 56 = .ok (.if_icmp .ge 30, 3) := by decide +kernel
theorem dX10_keeps_59 : decode cX10_keeps 59 = .ok (.aload_n 0, 1) := by decide +kernel
theorem dX10_keeps_60 : decode cX10_keeps 60 = .ok (.getfield 19, 3) := by decide +kernel
theorem dX10_keeps_63 : decode cX10_keeps 63 = .ok (.sipush 308, 3) := by decide +kernel
theorem dX10_keeps_66 : decode cX10_keeps 66 = .ok (.aload_n 0, 1) := by decide +kernel
theorem dX10_keeps_67 : decode cX10_keeps 67 = .ok (.getfield 45, 3) := by decide +kernel
theorem dX10_keeps_70 : decode cX10_keeps 70 = .ok (.imul, 1) := by decide +kernel
theorem dX10_keeps_71 : decode cX10_keeps 71 = .ok (.iload_n 1, 1) := by decide +kernel
theorem dX10_keeps_72 : decode cX10_keeps 72 = .ok (.iadd, 1) := by decide +kernel
theorem dX10_keeps_73 : decode cX10_keeps 73 = .ok (.aload_n 0, 1) := by decide +kernel
theorem dX10_keeps_74 : decode cX10_keeps 74 = .ok (.getfield 7, 3) := by decide +kernel
theorem dX10_keeps_77 : decode cX10_keeps 77 = .ok (.iload_n 1, 1) := by decide +kernel
theorem dX10_keeps_78 : decode cX10_keeps 78 = .ok (.iaload, 1) := by decide +kernel
theorem dX10_keeps_79 : decode cX10_keeps 79 = .ok (.iastore, 1) := by decide +kernel
theorem dX10_keeps_80 : decode cX10_keeps 80 = .ok (.iinc 1 1, 3) := by decide +kernel
theorem dX10_keeps_83 : decode cX10_keeps 83 = .ok (.goto (-31), 3) := by decide +kernel
theorem dX10_keeps_86 : decode cX10_keeps 86 = .ok (.aload_n 0, 1) := by decide +kernel
theorem dX10_keeps_87 : decode cX10_keeps 87 = .ok (.dup, 1) := by decide +kernel
theorem dX10_keeps_88 : decode cX10_keeps 88 = .ok (.getfield 45, 3) := by decide +kernel
theorem dX10_keeps_91 : decode cX10_keeps 91 = .ok (.iconst 1, 1) := by decide +kernel
theorem dX10_keeps_92 : decode cX10_keeps 92 = .ok (.iadd, 1) := by decide +kernel
theorem dX10_keeps_93 : decode cX10_keeps 93 = .ok (.putfield 45, 3) := by decide +kernel
theorem dX10_keeps_96 : decode cX10_keeps 96 = .ok (.return_, 1) := by decide +kernel
theorem dX10_undo_0 : decode cX10_undo 0 = .ok (.aload_n 0, 1) := by decide +kernel
theorem dX10_undo_1 : decode cX10_undo 1 = .ok (.aload_n 0, 1) := by decide +kernel
theorem dX10_undo_2 : decode cX10_undo 2 = .ok (.getfield 45, 3) := by decide +kernel
theorem dX10_undo_5 : decode cX10_undo 5 = .ok (.ifCond .ne 7, 3) := by decide +kernel
theorem dX10_undo_8 : decode cX10_undo 8 = .ok (.iconst 1, 1) := by decide +kernel
theorem dX10_undo_9 : decode cX10_undo 9 = .ok (.goto 4, 3) := by decide +kernel
theorem dX10_undo_12 : decode cX10_undo 12 = .ok (.iconst 0, 1) := by decide +kernel
theorem dX10_undo_13 : decode cX10_undo 13 = .ok (.putfield 42, 3) := by decide +kernel
theorem dX10_undo_16 : decode cX10_undo 16 = .ok (.aload_n 0, 1) := by decide +kernel
theorem dX10_undo_17 : decode cX10_undo 17 = .ok (.getfield 42, 3) := by decide +kernel
theorem dX10_undo_20 : decode cX10_undo 20 = .ok (.ifCond .le 5, 3) := by decide +kernel
theorem dX10_undo_23 : decode cX10_undo 23 = .ok (.iconst 0, 1) := by decide +kernel
theorem dX10_undo_24 : decode cX10_undo 24 = .ok (.ireturn, 1) := by decide +kernel
theorem dX10_undo_25 : decode cX10_undo 25 = .ok (.aload_n 0, 1) := by decide +kernel
theorem dX10_undo_26 : decode cX10_undo 26 = .ok (.dup, 1) := by decide +kernel
theorem dX10_undo_27 : decode cX10_undo 27 = .ok (.getfield 45, 3) := by decide +kernel
theorem dX10_undo_30 : decode cX10_undo 30 = .ok (.iconst 1, 1) := by decide +kernel
theorem dX10_undo_31 : decode cX10_undo 31 = .ok (.isub, 1) := by decide +kernel
theorem dX10_undo_32 : decode cX10_undo 32 = .ok (.putfield 45, 3) := by decide +kernel
theorem dX10_undo_35 : decode cX10_undo 35 = .ok (.aload_n 0, 1) := by decide +kernel
theorem dX10_undo_36 : decode cX10_undo 36 = .ok (.aload_n 0, 1) := by decide +kernel
theorem dX10_undo_37 : decode cX10_undo 37 = .ok (.getfield 19, 3) := by decide +kernel
theorem dX10_undo_40 : decode cX10_undo 40 = .ok (.sipush 308, 3) := by decide +kernel
theorem dX10_undo_43 : decode cX10_undo 43 = .ok (.aload_n 0, 1) := by decide +kernel
theorem dX10_undo_44 : decode cX10_undo 44 = .ok (.getfield 45, 3) := by decide +kernel
theorem dX10_undo_47 : decode cX10_undo 47 = .ok (.imul, 1) := by decide +kernel
theorem dX10_undo_48 : decode cX10_undo 48 = .ok (.invokevirtual 38, 3) := by decide +kernel
theorem dX10_undo_51 : decode cX10_undo 51 = .ok (.aload_n 0, 1) := by decide +kernel
theorem dX10_undo_52 : decode cX10_undo 52 = .ok (.getfield 45, 3) := by decide +kernel
theorem dX10_undo_55 : decode cX10_undo 55 = .ok (.ireturn, 1) := by decide +kernel
theorem dX10_append_0 : decode cX10_append 0 = .ok (.aload_n 0, 1) := by decide +kernel
theorem dX10_append_1 : decode cX10_append 1 = .ok (.aload_n 0, 1) := by decide +kernel
theorem dX10_append_2 : decode cX10_append 2 = .ok (.getfield 48, 3) := by decide +kernel
theorem dX10_append_5 : decode cX10_append 5 = .ok (.bipush 20, 2) := by decide +kernel
theorem dX10_append_7 : decode cX10_append 7 = .ok (.iadd, 1) := by decide +kernel
theorem dX10_append_8 : decode cX10_append 8 = .ok (.sipush 600, 3) := by decide +kernel
theorem dX10_append_11 : decode cX10_append 11 = .ok (.if_icmp .le 7, 3) := by decide +kernel
theorem dX10_append_14 : decode cX10_append 14 = .ok (.iconst 1, 1) := by decide +kernel
theorem dX10_append_15 : decode cX10_append 15 = .ok (.goto 4, 3) := by decide +kernel
theorem dX10_append_18 : decode cX10_append 18 = .ok (.iconst 0, 1) := by decide +kernel
theorem dX10_append_19 : decode cX10_append 19 = .ok (.putfield 42, 3) := by decide +kernel
theorem dX10_append_22 : decode cX10_append 22 = .ok (.aload_n 0, 1) := by decide +kernel
theorem dX10_append_23 : decode cX10_append 23 = .ok (.getfield 42, 3) := by decide +kernel
theorem dX10_append_26 : decode cX10_append 26 = .ok (.ifCond .le 5, 3) := by decide +kernel
theorem dX10_append_29 : decode cX10_append 29 = .ok (.iconst 0, 1) := by decide +kernel
theorem dX10_append_30 : decode cX10_append 30 = .ok (.ireturn, 1) := by decide +kernel
theorem dX10_append_31 : decode cX10_append 31 = .ok (.iconst 0, 1) := by decide +kernel
theorem dX10_append_32 : decode cX10_append 32 = .ok (.istore 6, 2) := by decide +kernel
theorem dX10_append_34 : decode cX10_append 34 = .ok (.iload 6, 2) := by decide +kernel
theorem dX10_append_36 : decode cX10_append 36 = .ok (.bipush 20, 2) := by decide +kernel
theorem dX10_append_38 : decode cX10_append 38 = .ok (.if_icmp .ge 93, 3) := by decide +kernel
theorem dX10_append_41 : decode cX10_append 41 = .ok (.iload 6, 2) := by decide +kernel
theorem dX10_append_43 : decode cX10_append 43 = .ok (.iconst 4, 1) := by decide +kernel
theorem dX10_append_44 : decode cX10_append 44 = .ok (.if_icmp .ge 7, 3) := by decide +kernel
theorem dX10_append_47 : decode cX10_append 47 = .ok (.iload_n 1, 1) := by decide +kernel
theorem dX10_append_48 : decode cX10_append 48 = .ok (.goto 39, 3) := by decide +kernel
theorem dX10_append_51 : decode cX10_append 51 = .ok (.iload 6, 2) := by decide +kernel
theorem dX10_append_53 : decode cX10_append 53 = .ok (.bipush 8, 2) := by decide +kernel
theorem dX10_append_55 : decode cX10_append 55 = .ok (.if_icmp .ge 7, 3) := by decide +kernel
theorem dX10_append_58 : decode cX10_append 58 = .ok (.iload_n 2, 1) := by decide +kernel
theorem dX10_append_59 : decode cX10_append 59 = .ok (.goto 28, 3) := by decide +kernel
theorem dX10_append_62 : decode cX10_append 62 = .ok (.iload 6, 2) := by decide +kernel
theorem dX10_append_64 : decode cX10_append 64 = .ok (.bipush 12, 2) := by decide +kernel
theorem dX10_append_66 : decode cX10_append 66 = .ok (.if_icmp .ge 7, 3) := by decide +kernel
theorem dX10_append_69 : decode cX10_append 69 = .ok (.iload_n 3, 1) := by decide +kernel
theorem dX10_append_70 : decode cX10_append 70 = .ok (.goto 17, 3) := by decide +kernel
theorem dX10_append_73 : decode cX10_append 73 = .ok (.iload 6, 2) := by decide +kernel
theorem dX10_append_75 : decode cX10_append 75 = .ok (.bipush 16, 2) := by decide +kernel
theorem dX10_append_77 : decode cX10_append 77 = .ok (.if_icmp .ge 8, 3) := by decide +kernel
theorem dX10_append_80 : decode cX10_append 80 = .ok (.iload 4, 2) := by decide +kernel
theorem dX10_append_82 : decode cX10_append 82 = .ok (.goto 5, 3) := by decide +kernel
theorem dX10_append_85 : decode cX10_append 85 = .ok (.iload 5, 2) := by decide +kernel
theorem dX10_append_87 : decode cX10_append 87 = .ok (.istore 7, 2) := by decide +kernel
theorem dX10_append_89 : decode cX10_append 89 = .ok (.aload_n 0, 1) := by decide +kernel
theorem dX10_append_90 : decode cX10_append 90 = .ok (.getfield 22, 3) := by decide +kernel
theorem dX10_append_93 : decode cX10_append 93 = .ok (.aload_n 0, 1) := by decide +kernel
theorem dX10_append_94 : decode cX10_append 94 = .ok (.getfield 48, 3) := by decide +kernel
theorem dX10_append_97 : decode cX10_append 97 = .ok (.iload 7, 2) := by decide +kernel
theorem dX10_append_99 : decode cX10_append 99 = .ok (.bipush 24, 2) := by decide +kernel
theorem dX10_append_101 : decode cX10_append 101 = .ok (.bipush 8, 2) := by decide +kernel
theorem dX10_append_103 : decode cX10_append 103 = .ok (.iload 6, 2) := by decide +kernel
theorem dX10_append_105 : decode cX10_append 105 = .ok (.iconst 4, 1) := by decide +kernel
theorem dX10_append_106 : decode cX10_append 106 = .ok (.irem, 1) := by decide +kernel
theorem dX10_append_107 : decode cX10_append 107 = .ok (.imul, 1) := by decide +kernel
theorem dX10_append_108 : decode cX10_append 108 = .ok (.isub, 1) := by decide +kernel
theorem dX10_append_109 : decode cX10_append 109 = .ok (.ishr, 1) := by decide +kernel
theorem dX10_append_110 : decode cX10_append 110 = .ok (.sipush 255, 3) := by decide +kernel
theorem dX10_append_113 : decode cX10_append 113 = .ok (.iand, 1) := by decide +kernel
theorem dX10_append_114 : decode cX10_append 114 = .ok (.iastore, 1) := by decide +kernel
theorem dX10_append_115 : decode cX10_append 115 = .ok (.aload_n 0, 1) := by decide +kernel
theorem dX10_append_116 : decode cX10_append 116 = .ok (.dup, 1) := by decide +kernel
theorem dX10_append_117 : decode cX10_append 117 = .ok (.getfield 48, 3) := by decide +kernel
theorem dX10_append_120 : decode cX10_append 120 = .ok (.iconst 1, 1) := by decide +kernel
theorem dX10_append_121 : decode cX10_append 121 = .ok (.iadd, 1) := by decide +kernel
theorem dX10_append_122 : decode cX10_append 122 = .ok (.putfield 48, 3) := by decide +kernel
theorem dX10_append_125 : decode cX10_append 125 = .ok (.iinc 6 1, 3) := by decide +kernel
theorem dX10_append_128 : decode cX10_append 128 = .ok (.goto (-94), 3) := by decide +kernel
theorem dX10_append_131 : decode cX10_append 131 = .ok (.aload_n 0, 1) := by decide +kernel
theorem dX10_append_132 : decode cX10_append 132 = .ok (.getfield 48, 3) := by decide +kernel
theorem dX10_append_135 : decode cX10_append 135 = .ok (.ireturn, 1) := by decide +kernel
theorem dX10_see_0 : decode cX10_see 0 = .ok (.iload_n 1, 1) := by decide +kernel
theorem dX10_see_1 : decode cX10_see 1 = .ok (.aload_n 0, 1) := by decide +kernel
theorem dX10_see_2 : decode cX10_see 2 = .ok (.getfield 51, 3) := by decide +kernel
theorem dX10_see_5 : decode cX10_see 5 = .ok (.if_icmp .ge 12, 3) := by decide +kernel
theorem dX10_see_8 : decode cX10_see 8 = .ok (.aload_n 0, 1) := by decide +kernel
theorem dX10_see_9 : decode cX10_see 9 = .ok (.getfield 22, 3) := by decide +kernel
theorem dX10_see_12 : decode cX10_see 12 = .ok (.iload_n 1, 1) := by decide +kernel
theorem dX10_see_13 : decode cX10_see 13 = .ok (.iaload, 1) := by decide +kernel
theorem dX10_see_14 : decode cX10_see 14 = .ok (.goto 4, 3) := by decide +kernel
theorem dX10_see_17 : decode cX10_see 17 = .ok (.iconst (-1), 1) := by decide +kernel
theorem dX10_see_18 : decode cX10_see 18 = .ok (.ireturn, 1) := by decide +kernel
theorem dX10_isLetter_0 : decode cX10_isLetter 0 = .ok (.iload_n 0, 1) := by decide +kernel
theorem dX10_isLetter_1 : decode cX10_isLetter 1 = .ok (.bipush 97, 2) := by decide +kernel
theorem dX10_isLetter_3 : decode cX10_isLetter 3 = .ok (.bipush 122, 2) := by decide +kernel
theorem dX10_isLetter_5 : decode cX10_isLetter 5 = .ok (.invokestatic 54, 3) := by decide +kernel
theorem dX10_isLetter_8 : decode cX10_isLetter 8 = .ok (.ireturn, 1) := by decide +kernel
theorem dX10_isDigit_0 : decode cX10_isDigit 0 = .ok (.iload_n 0, 1) := by decide +kernel
theorem dX10_isDigit_1 : decode cX10_isDigit 1 = .ok (.bipush 48, 2) := by decide +kernel
theorem dX10_isDigit_3 : decode cX10_isDigit 3 = .ok (.bipush 57, 2) := by decide +kernel
theorem dX10_isDigit_5 : decode cX10_isDigit 5 = .ok (.invokestatic 54, 3) := by decide +kernel
theorem dX10_isDigit_8 : decode cX10_isDigit 8 = .ok (.ireturn, 1) := by decide +kernel
theorem dX10_next_0 : decode cX10_next 0 = .ok (.aload_n 0, 1) := by decide +kernel
theorem dX10_next_1 : decode cX10_next 1 = .ok (.aload_n 0, 1) := by decide +kernel
theorem dX10_next_2 : decode cX10_next 2 = .ok (.getfield 58, 3) := by decide +kernel
theorem dX10_next_5 : decode cX10_next 5 = .ok (.putfield 61, 3) := by decide +kernel
theorem dX10_next_8 : decode cX10_next 8 = .ok (.aload_n 0, 1) := by decide +kernel
theorem dX10_next_9 : decode cX10_next 9 = .ok (.aload_n 0, 1) := by decide +kernel
theorem dX10_next_10 : decode cX10_next 10 = .ok (.getfield 61, 3) := by decide +kernel
theorem dX10_next_13 : decode cX10_next 13 = .ok (.invokevirtual 64, 3) := by decide +kernel
theorem dX10_next_16 : decode cX10_next 16 = .ok (.bipush 32, 2) := by decide +kernel
theorem dX10_next_18 : decode cX10_next 18 = .ok (.if_icmp .ne 16, 3) := by decide +kernel
theorem dX10_next_21 : decode cX10_next 21 = .ok (.aload_n 0, 1) := by decide +kernel
theorem dX10_next_22 : decode cX10_next 22 = .ok (.dup, 1) := by decide +kernel
theorem dX10_next_23 : decode cX10_next 23 = .ok (.getfield 61, 3) := by decide +kernel
theorem dX10_next_26 : decode cX10_next 26 = .ok (.iconst 1, 1) := by decide +kernel
theorem dX10_next_27 : decode cX10_next 27 = .ok (.iadd, 1) := by decide +kernel
theorem dX10_next_28 : decode cX10_next 28 = .ok (.putfield 61, 3) := by decide +kernel
theorem dX10_next_31 : decode cX10_next 31 = .ok (.goto (-23), 3) := by decide +kernel
theorem dX10_next_34 : decode cX10_next 34 = .ok (.aload_n 0, 1) := by decide +kernel
theorem dX10_next_35 : decode cX10_next 35 = .ok (.aload_n 0, 1) := by decide +kernel
theorem dX10_next_36 : decode cX10_next 36 = .ok (.getfield 61, 3) := by decide +kernel
theorem dX10_next_39 : decode cX10_next 39 = .ok (.putfield 58, 3) := by decide +kernel
theorem dX10_next_42 : decode cX10_next 42 = .ok (.aload_n 0, 1) := by decide +kernel
theorem dX10_next_43 : decode cX10_next 43 = .ok (.getfield 61, 3) := by decide +kernel
theorem dX10_next_46 : decode cX10_next 46 = .ok (.aload_n 0, 1) := by decide +kernel
theorem dX10_next_47 : decode cX10_next 47 = .ok (.getfield 51, 3) := by decide +kernel
theorem dX10_next_50 : decode cX10_next 50 = .ok (.if_icmp .lt 11, 3) := by decide +kernel
theorem dX10_next_53 : decode cX10_next 53 = .ok (.aload_n 0, 1) := by decide +kernel
theorem dX10_next_54 : decode cX10_next 54 = .ok (.iconst 3, 1) := by decide +kernel
theorem dX10_next_55 : decode cX10_next 55 = .ok (.putfield 68, 3) := by decide +kernel
theorem dX10_next_58 : decode cX10_next 58 = .ok (.goto 154, 3) := by decide +kernel
theorem dX10_next_61 : decode cX10_next 61 = .ok (.aload_n 0, 1) := by decide +kernel
theorem dX10_next_62 : decode cX10_next 62 = .ok (.aload_n 0, 1) := by decide +kernel
theorem dX10_next_63 : decode cX10_next 63 = .ok (.getfield 61, 3) := by decide +kernel
theorem dX10_next_66 : decode cX10_next 66 = .ok (.invokevirtual 64, 3) := by decide +kernel
theorem dX10_next_69 : decode cX10_next 69 = .ok (.invokestatic 71, 3) := by decide +kernel
theorem dX10_next_72 : decode cX10_next 72 = .ok (.ifCond .eq 38, 3) := by decide +kernel
theorem dX10_next_75 : decode cX10_next 75 = .ok (.aload_n 0, 1) := by decide +kernel
theorem dX10_next_76 : decode cX10_next 76 = .ok (.aload_n 0, 1) := by decide +kernel
theorem dX10_next_77 : decode cX10_next 77 = .ok (.getfield 58, 3) := by decide +kernel
theorem dX10_next_80 : decode cX10_next 80 = .ok (.invokevirtual 64, 3) := by decide +kernel
theorem dX10_next_83 : decode cX10_next 83 = .ok (.invokestatic 71, 3) := by decide +kernel
theorem dX10_next_86 : decode cX10_next 86 = .ok (.ifCond .eq 16, 3) := by decide +kernel
theorem dX10_next_89 : decode cX10_next 89 = .ok (.aload_n 0, 1) := by decide +kernel
theorem dX10_next_90 : decode cX10_next 90 = .ok (.dup, 1) := by decide +kernel
theorem dX10_next_91 : decode cX10_next 91 = .ok (.getfield 58, 3) := by decide +kernel
theorem dX10_next_94 : decode cX10_next 94 = .ok (.iconst 1, 1) := by decide +kernel
theorem dX10_next_95 : decode cX10_next 95 = .ok (.iadd, 1) := by decide +kernel
theorem dX10_next_96 : decode cX10_next 96 = .ok (.putfield 58, 3) := by decide +kernel
theorem dX10_next_99 : decode cX10_next 99 = .ok (.goto (-24), 3) := by decide +kernel
theorem dX10_next_102 : decode cX10_next 102 = .ok (.aload_n 0, 1) := by decide +kernel
theorem dX10_next_103 : decode cX10_next 103 = .ok (.iconst 0, 1) := by decide +kernel
theorem dX10_next_104 : decode cX10_next 104 = .ok (.putfield 68, 3) := by decide +kernel
theorem dX10_next_107 : decode cX10_next 107 = .ok (.goto 105, 3) := by decide +kernel
theorem dX10_next_110 : decode cX10_next 110 = .ok (.aload_n 0, 1) := by decide +kernel
theorem dX10_next_111 : decode cX10_next 111 = .ok (.aload_n 0, 1) := by decide +kernel
theorem dX10_next_112 : decode cX10_next 112 = .ok (.getfield 61, 3) := by decide +kernel
theorem dX10_next_115 : decode cX10_next 115 = .ok (.invokevirtual 64, 3) := by decide +kernel
theorem dX10_next_118 : decode cX10_next 118 = .ok (.invokestatic 75, 3) := by decide +kernel
theorem dX10_next_121 : decode cX10_next 121 = .ok (.ifCond .eq 76, 3) := by decide +kernel
theorem dX10_next_124 : decode cX10_next 124 = .ok (.aload_n 0, 1) := by decide +kernel
theorem dX10_next_125 : decode cX10_next 125 = .ok (.iconst 0, 1) := by decide +kernel
theorem dX10_next_126 : decode cX10_next 126 = .ok (.putfield 78, 3) := by decide +kernel
theorem dX10_next_129 : decode cX10_next 129 = .ok (.aload_n 0, 1) := by decide +kernel
theorem dX10_next_130 : decode cX10_next 130 = .ok (.aload_n 0, 1) := by decide +kernel
theorem dX10_next_131 : decode cX10_next 131 = .ok (.getfield 58, 3) := by decide +kernel
theorem dX10_next_134 : decode cX10_next 134 = .ok (.invokevirtual 64, 3) := by decide +kernel
theorem dX10_next_137 : decode cX10_next 137 = .ok (.invokestatic 75, 3) := by decide +kernel
theorem dX10_next_140 : decode cX10_next 140 = .ok (.ifCond .eq 49, 3) := by decide +kernel
theorem dX10_next_143 : decode cX10_next 143 = .ok (.aload_n 0, 1) := by decide +kernel
theorem dX10_next_144 : decode cX10_next 144 = .ok (.getfield 78, 3) := by decide +kernel
theorem dX10_next_147 : decode cX10_next 147 = .ok (.sipush 10000, 3) := by decide +kernel
theorem dX10_next_150 : decode cX10_next 150 = .ok (.if_icmp .ge 26, 3) := by decide +kernel
theorem dX10_next_153 : decode cX10_next 153 = .ok (.aload_n 0, 1) := by decide +kernel
theorem dX10_next_154 : decode cX10_next 154 = .ok (.bipush 10, 2) := by decide +kernel
theorem dX10_next_156 : decode cX10_next 156 = .ok (.aload_n 0, 1) := by decide +kernel
theorem dX10_next_157 : decode cX10_next 157 = .ok (.getfield 78, 3) := by decide +kernel
theorem dX10_next_160 : decode cX10_next 160 = .ok (.imul, 1) := by decide +kernel
theorem dX10_next_161 : decode cX10_next 161 = .ok (.aload_n 0, 1) := by decide +kernel
theorem dX10_next_162 : decode cX10_next 162 = .ok (.aload_n 0, 1) := by decide +kernel
theorem dX10_next_163 : decode cX10_next 163 = .ok (.getfield 58, 3) := by decide +kernel
theorem dX10_next_166 : decode cX10_next 166 = .ok (.invokevirtual 64, 3) := by decide +kernel
theorem dX10_next_169 : decode cX10_next 169 = .ok (.iadd, 1) := by decide +kernel
theorem dX10_next_170 : decode cX10_next 170 = .ok (.bipush 48, 2) := by decide +kernel
theorem dX10_next_172 : decode cX10_next 172 = .ok (.isub, 1) := by decide +kernel
theorem dX10_next_173 : decode cX10_next 173 = .ok (.putfield 78, 3) := by decide +kernel
theorem dX10_next_176 : decode cX10_next 176 = .ok (.aload_n 0, 1) := by decide +kernel
theorem dX10_next_177 : decode cX10_next 177 = .ok (.dup, 1) := by decide +kernel
theorem dX10_next_178 : decode cX10_next 178 = .ok (.getfield 58, 3) := by decide +kernel
theorem dX10_next_181 : decode cX10_next 181 = .ok (.iconst 1, 1) := by decide +kernel
theorem dX10_next_182 : decode cX10_next 182 = .ok (.iadd, 1) := by decide +kernel
theorem dX10_next_183 : decode cX10_next 183 = .ok (.putfield 58, 3) := by decide +kernel
theorem dX10_next_186 : decode cX10_next 186 = .ok (.goto (-57), 3) := by decide +kernel
theorem dX10_next_189 : decode cX10_next 189 = .ok (.aload_n 0, 1) := by decide +kernel
theorem dX10_next_190 : decode cX10_next 190 = .ok (.iconst 1, 1) := by decide +kernel
theorem dX10_next_191 : decode cX10_next 191 = .ok (.putfield 68, 3) := by decide +kernel
theorem dX10_next_194 : decode cX10_next 194 = .ok (.goto 18, 3) := by decide +kernel
theorem dX10_next_197 : decode cX10_next 197 = .ok (.aload_n 0, 1) := by decide +kernel
theorem dX10_next_198 : decode cX10_next 198 = .ok (.dup, 1) := by decide +kernel
theorem dX10_next_199 : decode cX10_next 199 = .ok (.getfield 58, 3) := by decide +kernel
theorem dX10_next_202 : decode cX10_next 202 = .ok (.iconst 1, 1) := by decide +kernel
theorem dX10_next_203 : decode cX10_next 203 = .ok (.iadd, 1) := by decide +kernel
theorem dX10_next_204 : decode cX10_next 204 = .ok (.putfield 58, 3) := by decide +kernel
theorem dX10_next_207 : decode cX10_next 207 = .ok (.aload_n 0, 1) := by decide +kernel
theorem dX10_next_208 : decode cX10_next 208 = .ok (.iconst 2, 1) := by decide +kernel
theorem dX10_next_209 : decode cX10_next 209 = .ok (.putfield 68, 3) := by decide +kernel
theorem dX10_next_212 : decode cX10_next 212 = .ok (.return_, 1) := by decide +kernel
theorem dX10_isWord_0 : decode cX10_isWord 0 = .ok (.aload_n 0, 1) := by decide +kernel
theorem dX10_isWord_1 : decode cX10_isWord 1 = .ok (.getfield 81, 3) := by decide +kernel
theorem dX10_isWord_4 : decode cX10_isWord 4 = .ok (.ifCond .ne 26, 3) := by decide +kernel
theorem dX10_isWord_7 : decode cX10_isWord 7 = .ok (.aload_n 0, 1) := by decide +kernel
theorem dX10_isWord_8 : decode cX10_isWord 8 = .ok (.getfield 68, 3) := by decide +kernel
theorem dX10_isWord_11 : decode cX10_isWord 11 = .ok (.ifCond .ne 19, 3) := by decide +kernel
theorem dX10_isWord_14 : decode cX10_isWord 14 = .ok (.aload_n 0, 1) := by decide +kernel
theorem dX10_isWord_15 : decode cX10_isWord 15 = .ok (.getfield 58, 3) := by decide +kernel
theorem dX10_isWord_18 : decode cX10_isWord 18 = .ok (.aload_n 0, 1) := by decide +kernel
theorem dX10_isWord_19 : decode cX10_isWord 19 = .ok (.getfield 61, 3) := by decide +kernel
theorem dX10_isWord_22 : decode cX10_isWord 22 = .ok (.isub, 1) := by decide +kernel
theorem dX10_isWord_23 : decode cX10_isWord 23 = .ok (.aload_n 1, 1) := by decide +kernel
theorem dX10_isWord_24 : decode cX10_isWord 24 = .ok (.invokevirtual 84, 3) := by decide +kernel
theorem dX10_isWord_27 : decode cX10_isWord 27 = .ok (.if_icmp .eq 5, 3) := by decide +kernel
theorem dX10_isWord_30 : decode cX10_isWord 30 = .ok (.iconst 0, 1) := by decide +kernel
theorem dX10_isWord_31 : decode cX10_isWord 31 = .ok (.ireturn, 1) := by decide +kernel
theorem dX10_isWord_32 : decode cX10_isWord 32 = .ok (.iconst 0, 1) := by decide +kernel
theorem dX10_isWord_33 : decode cX10_isWord 33 = .ok (.istore_n 2, 1) := by decide +kernel
theorem dX10_isWord_34 : decode cX10_isWord 34 = .ok (.iload_n 2, 1) := by decide +kernel
theorem dX10_isWord_35 : decode cX10_isWord 35 = .ok (.aload_n 1, 1) := by decide +kernel
theorem dX10_isWord_36 : decode cX10_isWord 36 = .ok (.invokevirtual 84, 3) := by decide +kernel
theorem dX10_isWord_39 : decode cX10_isWord 39 = .ok (.if_icmp .ge 30, 3) := by decide +kernel
theorem dX10_isWord_42 : decode cX10_isWord 42 = .ok (.aload_n 0, 1) := by decide +kernel
theorem dX10_isWord_43 : decode cX10_isWord 43 = .ok (.getfield 22, 3) := by decide +kernel
theorem dX10_isWord_46 : decode cX10_isWord 46 = .ok (.aload_n 0, 1) := by decide +kernel
theorem dX10_isWord_47 : decode cX10_isWord 47 = .ok (.getfield 61, 3) := by decide +kernel
theorem dX10_isWord_50 : decode cX10_isWord 50 = .ok (.iload_n 2, 1) := by decide +kernel
theorem dX10_isWord_51 : decode cX10_isWord 51 = .ok (.iadd, 1) := by decide +kernel
theorem dX10_isWord_52 : decode cX10_isWord 52 = .ok (.iaload, 1) := by decide +kernel
theorem dX10_isWord_53 : decode cX10_isWord 53 = .ok (.aload_n 1, 1) := by decide +kernel
theorem dX10_isWord_54 : decode cX10_isWord 54 = .ok (.iload_n 2, 1) := by decide +kernel
theorem dX10_isWord_55 : decode cX10_isWord 55 = .ok (.invokevirtual 90, 3) := by decide +kernel
theorem dX10_isWord_58 : decode cX10_isWord 58 = .ok (.if_icmp .eq 5, 3) := by decide +kernel
theorem dX10_isWord_61 : decode cX10_isWord 61 = .ok (.iconst 0, 1) := by decide +kernel
theorem dX10_isWord_62 : decode cX10_isWord 62 = .ok (.ireturn, 1) := by decide +kernel
theorem dX10_isWord_63 : decode cX10_isWord 63 = .ok (.iinc 2 1, 3) := by decide +kernel
theorem dX10_isWord_66 : decode cX10_isWord 66 = .ok (.goto (-32), 3) := by decide +kernel
theorem dX10_isWord_69 : decode cX10_isWord 69 = .ok (.iconst 1, 1) := by decide +kernel
theorem dX10_isWord_70 : decode cX10_isWord 70 = .ok (.ireturn, 1) := by decide +kernel
theorem dX10_fails_0 : decode cX10_fails 0 = .ok (.aload_n 0, 1) := by decide +kernel
theorem dX10_fails_1 : decode cX10_fails 1 = .ok (.getfield 81, 3) := by decide +kernel
theorem dX10_fails_4 : decode cX10_fails 4 = .ok (.ifCond .eq 4, 3) := by decide +kernel
theorem dX10_fails_7 : decode cX10_fails 7 = .ok (.return_, 1) := by decide +kernel
theorem dX10_fails_8 : decode cX10_fails 8 = .ok (.aload_n 0, 1) := by decide +kernel
theorem dX10_fails_9 : decode cX10_fails 9 = .ok (.iload_n 1, 1) := by decide +kernel
theorem dX10_fails_10 : decode cX10_fails 10 = .ok (.putfield 81, 3) := by decide +kernel
theorem dX10_fails_13 : decode cX10_fails 13 = .ok (.aload_n 0, 1) := by decide +kernel
theorem dX10_fails_14 : decode cX10_fails 14 = .ok (.aload_n 0, 1) := by decide +kernel
theorem dX10_fails_15 : decode cX10_fails 15 = .ok (.getfield 61, 3) := by decide +kernel
theorem dX10_fails_18 : decode cX10_fails 18 = .ok (.putfield 94, 3) := by decide +kernel
theorem dX10_fails_21 : decode cX10_fails 21 = .ok (.return_, 1) := by decide +kernel
theorem dX10_must_0 : decode cX10_must 0 = .ok (.iload_n 1, 1) := by decide +kernel
theorem dX10_must_1 : decode cX10_must 1 = .ok (.ifCond .ne 9, 3) := by decide +kernel
theorem dX10_must_4 : decode cX10_must 4 = .ok (.aload_n 0, 1) := by decide +kernel
theorem dX10_must_5 : decode cX10_must 5 = .ok (.bipush (-2), 2) := by decide +kernel
theorem dX10_must_7 : decode cX10_must 7 = .ok (.invokevirtual 97, 3) := by decide +kernel
theorem dX10_must_10 : decode cX10_must 10 = .ok (.aload_n 0, 1) := by decide +kernel
theorem dX10_must_11 : decode cX10_must 11 = .ok (.getfield 81, 3) := by decide +kernel
theorem dX10_must_14 : decode cX10_must 14 = .ok (.ifCond .ne 7, 3) := by decide +kernel
theorem dX10_must_17 : decode cX10_must 17 = .ok (.aload_n 0, 1) := by decide +kernel
theorem dX10_must_18 : decode cX10_must 18 = .ok (.invokevirtual 101, 3) := by decide +kernel
theorem dX10_must_21 : decode cX10_must 21 = .ok (.return_, 1) := by decide +kernel
theorem dX10_takes_0 : decode cX10_takes 0 = .ok (.aload_n 0, 1) := by decide +kernel
theorem dX10_takes_1 : decode cX10_takes 1 = .ok (.getfield 81, 3) := by decide +kernel
theorem dX10_takes_4 : decode cX10_takes 4 = .ok (.ifCond .ne 20, 3) := by decide +kernel
theorem dX10_takes_7 : decode cX10_takes 7 = .ok (.aload_n 0, 1) := by decide +kernel
theorem dX10_takes_8 : decode cX10_takes 8 = .ok (.getfield 68, 3) := by decide +kernel
theorem dX10_takes_11 : decode cX10_takes 11 = .ok (.iconst 1, 1) := by decide +kernel
theorem dX10_takes_12 : decode cX10_takes 12 = .ok (.if_icmp .eq 12, 3) := by decide +kernel
theorem dX10_takes_15 : decode cX10_takes 15 = .ok (.aload_n 0, 1) := by decide +kernel
theorem dX10_takes_16 : decode cX10_takes 16 = .ok (.bipush (-2), 2) := by decide +kernel
theorem dX10_takes_18 : decode cX10_takes 18 = .ok (.invokevirtual 97, 3) := by decide +kernel
theorem dX10_takes_21 : decode cX10_takes 21 = .ok (.goto 28, 3) := by decide +kernel
theorem dX10_takes_24 : decode cX10_takes 24 = .ok (.aload_n 0, 1) := by decide +kernel
theorem dX10_takes_25 : decode cX10_takes 25 = .ok (.getfield 81, 3) := by decide +kernel
theorem dX10_takes_28 : decode cX10_takes 28 = .ok (.ifCond .ne 21, 3) := by decide +kernel
theorem dX10_takes_31 : decode cX10_takes 31 = .ok (.aload_n 0, 1) := by decide +kernel
theorem dX10_takes_32 : decode cX10_takes 32 = .ok (.getfield 78, 3) := by decide +kernel
theorem dX10_takes_35 : decode cX10_takes 35 = .ok (.iload_n 1, 1) := by decide +kernel
theorem dX10_takes_36 : decode cX10_takes 36 = .ok (.iload_n 2, 1) := by decide +kernel
theorem dX10_takes_37 : decode cX10_takes 37 = .ok (.invokestatic 54, 3) := by decide +kernel
theorem dX10_takes_40 : decode cX10_takes 40 = .ok (.ifCond .ne 9, 3) := by decide +kernel
theorem dX10_takes_43 : decode cX10_takes 43 = .ok (.aload_n 0, 1) := by decide +kernel
theorem dX10_takes_44 : decode cX10_takes 44 = .ok (.bipush (-3), 2) := by decide +kernel
theorem dX10_takes_46 : decode cX10_takes 46 = .ok (.invokevirtual 97, 3) := by decide +kernel
theorem dX10_takes_49 : decode cX10_takes 49 = .ok (.aload_n 0, 1) := by decide +kernel
theorem dX10_takes_50 : decode cX10_takes 50 = .ok (.getfield 81, 3) := by decide +kernel
theorem dX10_takes_53 : decode cX10_takes 53 = .ok (.ifCond .ne 10, 3) := by decide +kernel
theorem dX10_takes_56 : decode cX10_takes 56 = .ok (.aload_n 0, 1) := by decide +kernel
theorem dX10_takes_57 : decode cX10_takes 57 = .ok (.getfield 78, 3) := by decide +kernel
theorem dX10_takes_60 : decode cX10_takes 60 = .ok (.goto 4, 3) := by decide +kernel
theorem dX10_takes_63 : decode cX10_takes 63 = .ok (.iconst 0, 1) := by decide +kernel
theorem dX10_takes_64 : decode cX10_takes 64 = .ok (.istore_n 3, 1) := by decide +kernel
theorem dX10_takes_65 : decode cX10_takes 65 = .ok (.aload_n 0, 1) := by decide +kernel
theorem dX10_takes_66 : decode cX10_takes 66 = .ok (.getfield 81, 3) := by decide +kernel
theorem dX10_takes_69 : decode cX10_takes 69 = .ok (.ifCond .ne 7, 3) := by decide +kernel
theorem dX10_takes_72 : decode cX10_takes 72 = .ok (.aload_n 0, 1) := by decide +kernel
theorem dX10_takes_73 : decode cX10_takes 73 = .ok (.invokevirtual 101, 3) := by decide +kernel
theorem dX10_takes_76 : decode cX10_takes 76 = .ok (.iload_n 3, 1) := by decide +kernel
theorem dX10_takes_77 : decode cX10_takes 77 = .ok (.ireturn, 1) := by decide +kernel
theorem dX10_readsUser_0 : decode cX10_readsUser 0 = .ok (.aload_n 0, 1) := by decide +kernel
theorem dX10_readsUser_1 : decode cX10_readsUser 1 = .ok (.getfield 7, 3) := by decide +kernel
theorem dX10_readsUser_4 : decode cX10_readsUser 4 = .ok (.iconst 4, 1) := by decide +kernel
theorem dX10_readsUser_5 : decode cX10_readsUser 5 = .ok (.iaload, 1) := by decide +kernel
theorem dX10_readsUser_6 : decode cX10_readsUser 6 = .ok (.bipush 12, 2) := by decide +kernel
theorem dX10_readsUser_8 : decode cX10_readsUser 8 = .ok (.if_icmp .ne 9, 3) := by decide +kernel
theorem dX10_readsUser_11 : decode cX10_readsUser 11 = .ok (.aload_n 0, 1) := by decide +kernel
theorem dX10_readsUser_12 : decode cX10_readsUser 12 = .ok (.bipush (-4), 2) := by decide +kernel
theorem dX10_readsUser_14 : decode cX10_readsUser 14 = .ok (.invokevirtual 97, 3) := by decide +kernel
theorem dX10_readsUser_17 : decode cX10_readsUser 17 = .ok (.aload_n 0, 1) := by decide +kernel
theorem dX10_readsUser_18 : decode cX10_readsUser 18 = .ok (.iconst 1, 1) := by decide +kernel
theorem dX10_readsUser_19 : decode cX10_readsUser 19 = .ok (.invokevirtual 104, 3) := by decide +kernel
theorem dX10_readsUser_22 : decode cX10_readsUser 22 = .ok (.aload_n 0, 1) := by decide +kernel
theorem dX10_readsUser_23 : decode cX10_readsUser 23 = .ok (.getfield 81, 3) := by decide +kernel
theorem dX10_readsUser_26 : decode cX10_readsUser 26 = .ok (.ifCond .ne 41, 3) := by decide +kernel
theorem dX10_readsUser_29 : decode cX10_readsUser 29 = .ok (.aload_n 0, 1) := by decide +kernel
theorem dX10_readsUser_30 : decode cX10_readsUser 30 = .ok (.getfield 68, 3) := by decide +kernel
theorem dX10_readsUser_33 : decode cX10_readsUser 33 = .ok (.iconst 1, 1) := by decide +kernel
theorem dX10_readsUser_34 : decode cX10_readsUser 34 = .ok (.if_icmp .ne 33, 3) := by decide +kernel
theorem dX10_readsUser_37 : decode cX10_readsUser 37 = .ok (.aload_n 0, 1) := by decide +kernel
theorem dX10_readsUser_38 : decode cX10_readsUser 38 = .ok (.getfield 78, 3) := by decide +kernel
theorem dX10_readsUser_41 : decode cX10_readsUser 41 = .ok (.aload_n 0, 1) := by decide +kernel
theorem dX10_readsUser_42 : decode cX10_readsUser 42 = .ok (.getfield 7, 3) := by decide +kernel
theorem dX10_readsUser_45 : decode cX10_readsUser 45 = .ok (.iconst 4, 1) := by decide +kernel
theorem dX10_readsUser_46 : decode cX10_readsUser 46 = .ok (.iaload, 1) := by decide +kernel
theorem dX10_readsUser_47 : decode cX10_readsUser 47 = .ok (.if_icmp .ge 20, 3) := by decide +kernel
theorem dX10_readsUser_50 : decode cX10_readsUser 50 = .ok (.aload_n 0, 1) := by decide +kernel
theorem dX10_readsUser_51 : decode cX10_readsUser 51 = .ok (.aload_n 0, 1) := by decide +kernel
theorem dX10_readsUser_52 : decode cX10_readsUser 52 = .ok (.getfield 78, 3) := by decide +kernel
theorem dX10_readsUser_55 : decode cX10_readsUser 55 = .ok (.invokevirtual 108, 3) := by decide +kernel
theorem dX10_readsUser_58 : decode cX10_readsUser 58 = .ok (.ifCond .eq 9, 3) := by decide +kernel
theorem dX10_readsUser_61 : decode cX10_readsUser 61 = .ok (.aload_n 0, 1) := by decide +kernel
theorem dX10_readsUser_62 : decode cX10_readsUser 62 = .ok (.bipush (-3), 2) := by decide +kernel
theorem dX10_readsUser_64 : decode cX10_readsUser 64 = .ok (.invokevirtual 97, 3) := by decide +kernel
theorem dX10_readsUser_67 : decode cX10_readsUser 67 = .ok (.aload_n 0, 1) := by decide +kernel
theorem dX10_readsUser_68 : decode cX10_readsUser 68 = .ok (.iconst 0, 1) := by decide +kernel
theorem dX10_readsUser_69 : decode cX10_readsUser 69 = .ok (.aload_n 0, 1) := by decide +kernel
theorem dX10_readsUser_70 : decode cX10_readsUser 70 = .ok (.getfield 7, 3) := by decide +kernel
theorem dX10_readsUser_73 : decode cX10_readsUser 73 = .ok (.iconst 4, 1) := by decide +kernel
theorem dX10_readsUser_74 : decode cX10_readsUser 74 = .ok (.iaload, 1) := by decide +kernel
theorem dX10_readsUser_75 : decode cX10_readsUser 75 = .ok (.iconst 1, 1) := by decide +kernel
theorem dX10_readsUser_76 : decode cX10_readsUser 76 = .ok (.isub, 1) := by decide +kernel
theorem dX10_readsUser_77 : decode cX10_readsUser 77 = .ok (.invokevirtual 111, 3) := by decide +kernel
theorem dX10_readsUser_80 : decode cX10_readsUser 80 = .ok (.istore_n 1, 1) := by decide +kernel
theorem dX10_readsUser_81 : decode cX10_readsUser 81 = .ok (.aload_n 0, 1) := by decide +kernel
theorem dX10_readsUser_82 : decode cX10_readsUser 82 = .ok (.iconst 1, 1) := by decide +kernel
theorem dX10_readsUser_83 : decode cX10_readsUser 83 = .ok (.bipush 99, 2) := by decide +kernel
theorem dX10_readsUser_85 : decode cX10_readsUser 85 = .ok (.invokevirtual 111, 3) := by decide +kernel
theorem dX10_readsUser_88 : decode cX10_readsUser 88 = .ok (.istore_n 2, 1) := by decide +kernel
theorem dX10_readsUser_89 : decode cX10_readsUser 89 = .ok (.aload_n 0, 1) := by decide +kernel
theorem dX10_readsUser_90 : decode cX10_readsUser 90 = .ok (.getfield 81, 3) := by decide +kernel
theorem dX10_readsUser_93 : decode cX10_readsUser 93 = .ok (.ifCond .ne 9, 3) := by decide +kernel
theorem dX10_readsUser_96 : decode cX10_readsUser 96 = .ok (.aload_n 0, 1) := by decide +kernel
theorem dX10_readsUser_97 : decode cX10_readsUser 97 = .ok (.iload_n 1, 1) := by decide +kernel
theorem dX10_readsUser_98 : decode cX10_readsUser 98 = .ok (.iload_n 2, 1) := by decide +kernel
theorem dX10_readsUser_99 : decode cX10_readsUser 99 = .ok (.invokevirtual 115, 3) := by decide +kernel
theorem dX10_readsUser_102 : decode cX10_readsUser 102 = .ok (.return_, 1) := by decide +kernel
theorem dX10_readsMachine_0 : decode cX10_readsMachine 0 = .ok (.aload_n 0, 1) := by decide +kernel
theorem dX10_readsMachine_1 : decode cX10_readsMachine 1 = .ok (.getfield 7, 3) := by decide +kernel
theorem dX10_readsMachine_4 : decode cX10_readsMachine 4 = .ok (.iconst 5, 1) := by decide +kernel
theorem dX10_readsMachine_5 : decode cX10_readsMachine 5 = .ok (.iaload, 1) := by decide +kernel
theorem dX10_readsMachine_6 : decode cX10_readsMachine 6 = .ok (.bipush 6, 2) := by decide +kernel
theorem dX10_readsMachine_8 : decode cX10_readsMachine 8 = .ok (.if_icmp .ne 9, 3) := by decide +kernel
theorem dX10_readsMachine_11 : decode cX10_readsMachine 11 = .ok (.aload_n 0, 1) := by decide +kernel
theorem dX10_readsMachine_12 : decode cX10_readsMachine 12 = .ok (.bipush (-4), 2) := by decide +kernel
theorem dX10_readsMachine_14 : decode cX10_readsMachine 14 = .ok (.invokevirtual 97, 3) := by decide +kernel
theorem dX10_readsMachine_17 : decode cX10_readsMachine 17 = .ok (.aload_n 0, 1) := by decide +kernel
theorem dX10_readsMachine_18 : decode cX10_readsMachine 18 = .ok (.iconst 1, 1) := by decide +kernel
theorem dX10_readsMachine_19 : decode cX10_readsMachine 19 = .ok (.invokevirtual 104, 3) := by decide +kernel
theorem dX10_readsMachine_22 : decode cX10_readsMachine 22 = .ok (.aload_n 0, 1) := by decide +kernel
theorem dX10_readsMachine_23 : decode cX10_readsMachine 23 = .ok (.iconst 1, 1) := by decide +kernel
theorem dX10_readsMachine_24 : decode cX10_readsMachine 24 = .ok (.iconst 4, 1) := by decide +kernel
theorem dX10_readsMachine_25 : decode cX10_readsMachine 25 = .ok (.invokevirtual 111, 3) := by decide +kernel
theorem dX10_readsMachine_28 : decode cX10_readsMachine 28 = .ok (.istore_n 1, 1) := by decide +kernel
theorem dX10_readsMachine_29 : decode cX10_readsMachine 29 = .ok (.aload_n 0, 1) := by decide +kernel
theorem dX10_readsMachine_30 : decode cX10_readsMachine 30 = .ok (.getfield 81, 3) := by decide +kernel
theorem dX10_readsMachine_33 : decode cX10_readsMachine 33 = .ok (.ifCond .eq 4, 3) := by decide +kernel
theorem dX10_readsMachine_36 : decode cX10_readsMachine 36 = .ok (.return_, 1) := by decide +kernel
theorem dX10_readsMachine_37 : decode cX10_readsMachine 37 = .ok (.aload_n 0, 1) := by decide +kernel
theorem dX10_readsMachine_38 : decode cX10_readsMachine 38 = .ok (.getfield 7, 3) := by decide +kernel
theorem dX10_readsMachine_41 : decode cX10_readsMachine 41 = .ok (.bipush 46, 2) := by decide +kernel
theorem dX10_readsMachine_43 : decode cX10_readsMachine 43 = .ok (.aload_n 0, 1) := by decide +kernel
theorem dX10_readsMachine_44 : decode cX10_readsMachine 44 = .ok (.getfield 7, 3) := by decide +kernel
theorem dX10_readsMachine_47 : decode cX10_readsMachine 47 = .ok (.iconst 5, 1) := by decide +kernel
theorem dX10_readsMachine_48 : decode cX10_readsMachine 48 = .ok (.iaload, 1) := by decide +kernel
theorem dX10_readsMachine_49 : decode cX10_readsMachine 49 = .ok (.iadd, 1) := by decide +kernel
theorem dX10_readsMachine_50 : decode cX10_readsMachine 50 = .ok (.iload_n 1, 1) := by decide +kernel
theorem dX10_readsMachine_51 : decode cX10_readsMachine 51 = .ok (.iastore, 1) := by decide +kernel
theorem dX10_readsMachine_52 : decode cX10_readsMachine 52 = .ok (.aload_n 0, 1) := by decide +kernel
theorem dX10_readsMachine_53 : decode cX10_readsMachine 53 = .ok (.getfield 7, 3) := by decide +kernel
theorem dX10_readsMachine_56 : decode cX10_readsMachine 56 = .ok (.bipush 52, 2) := by decide +kernel
theorem dX10_readsMachine_58 : decode cX10_readsMachine 58 = .ok (.aload_n 0, 1) := by decide +kernel
theorem dX10_readsMachine_59 : decode cX10_readsMachine 59 = .ok (.getfield 7, 3) := by decide +kernel
theorem dX10_readsMachine_62 : decode cX10_readsMachine 62 = .ok (.iconst 5, 1) := by decide +kernel
theorem dX10_readsMachine_63 : decode cX10_readsMachine 63 = .ok (.iaload, 1) := by decide +kernel
theorem dX10_readsMachine_64 : decode cX10_readsMachine 64 = .ok (.iadd, 1) := by decide +kernel
theorem dX10_readsMachine_65 : decode cX10_readsMachine 65 = .ok (.iconst 1, 1) := by decide +kernel
theorem dX10_readsMachine_66 : decode cX10_readsMachine 66 = .ok (.iastore, 1) := by decide +kernel
theorem dX10_readsMachine_67 : decode cX10_readsMachine 67 = .ok (.aload_n 0, 1) := by decide +kernel
theorem dX10_readsMachine_68 : decode cX10_readsMachine 68 = .ok (.getfield 7, 3) := by decide +kernel
theorem dX10_readsMachine_71 : decode cX10_readsMachine 71 = .ok (.iconst 5, 1) := by decide +kernel
theorem dX10_readsMachine_72 : decode cX10_readsMachine 72 = .ok (.dup2, 1) := by decide +kernel
theorem dX10_readsMachine_73 : decode cX10_readsMachine 73 = .ok (.iaload, 1) := by decide +kernel
theorem dX10_readsMachine_74 : decode cX10_readsMachine 74 = .ok (.iconst 1, 1) := by decide +kernel
theorem dX10_readsMachine_75 : decode cX10_readsMachine 75 = .ok (.iadd, 1) := by decide +kernel
theorem dX10_readsMachine_76 : decode cX10_readsMachine 76 = .ok (.iastore, 1) := by decide +kernel
theorem dX10_readsMachine_77 : decode cX10_readsMachine 77 = .ok (.return_, 1) := by decide +kernel
theorem dX10_readsJob_0 : decode cX10_readsJob 0 = .ok (.aload_n 0, 1) := by decide +kernel
theorem dX10_readsJob_1 : decode cX10_readsJob 1 = .ok (.getfield 7, 3) := by decide +kernel
theorem dX10_readsJob_4 : decode cX10_readsJob 4 = .ok (.bipush 6, 2) := by decide +kernel
theorem dX10_readsJob_6 : decode cX10_readsJob 6 = .ok (.iaload, 1) := by decide +kernel
theorem dX10_readsJob_7 : decode cX10_readsJob 7 = .ok (.bipush 30, 2) := by decide +kernel
theorem dX10_readsJob_9 : decode cX10_readsJob 9 = .ok (.if_icmp .ne 9, 3) := by decide +kernel
theorem dX10_readsJob_12 : decode cX10_readsJob 12 = .ok (.aload_n 0, 1) := by decide +kernel
theorem dX10_readsJob_13 : decode cX10_readsJob 13 = .ok (.bipush (-4), 2) := by decide +kernel
theorem dX10_readsJob_15 : decode cX10_readsJob 15 = .ok (.invokevirtual 97, 3) := by decide +kernel
theorem dX10_readsJob_18 : decode cX10_readsJob 18 = .ok (.aload_n 0, 1) := by decide +kernel
theorem dX10_readsJob_19 : decode cX10_readsJob 19 = .ok (.iconst 1, 1) := by decide +kernel
theorem dX10_readsJob_20 : decode cX10_readsJob 20 = .ok (.invokevirtual 104, 3) := by decide +kernel
theorem dX10_readsJob_23 : decode cX10_readsJob 23 = .ok (.aload_n 0, 1) := by decide +kernel
theorem dX10_readsJob_24 : decode cX10_readsJob 24 = .ok (.getfield 81, 3) := by decide +kernel
theorem dX10_readsJob_27 : decode cX10_readsJob 27 = .ok (.ifCond .ne 41, 3) := by decide +kernel
theorem dX10_readsJob_30 : decode cX10_readsJob 30 = .ok (.aload_n 0, 1) := by decide +kernel
theorem dX10_readsJob_31 : decode cX10_readsJob 31 = .ok (.getfield 68, 3) := by decide +kernel
theorem dX10_readsJob_34 : decode cX10_readsJob 34 = .ok (.iconst 1, 1) := by decide +kernel
theorem dX10_readsJob_35 : decode cX10_readsJob 35 = .ok (.if_icmp .ne 33, 3) := by decide +kernel
theorem dX10_readsJob_38 : decode cX10_readsJob 38 = .ok (.aload_n 0, 1) := by decide +kernel
theorem dX10_readsJob_39 : decode cX10_readsJob 39 = .ok (.getfield 78, 3) := by decide +kernel
theorem dX10_readsJob_42 : decode cX10_readsJob 42 = .ok (.aload_n 0, 1) := by decide +kernel
theorem dX10_readsJob_43 : decode cX10_readsJob 43 = .ok (.getfield 7, 3) := by decide +kernel
theorem dX10_readsJob_46 : decode cX10_readsJob 46 = .ok (.iconst 4, 1) := by decide +kernel
theorem dX10_readsJob_47 : decode cX10_readsJob 47 = .ok (.iaload, 1) := by decide +kernel
theorem dX10_readsJob_48 : decode cX10_readsJob 48 = .ok (.if_icmp .ge 20, 3) := by decide +kernel
theorem dX10_readsJob_51 : decode cX10_readsJob 51 = .ok (.aload_n 0, 1) := by decide +kernel
theorem dX10_readsJob_52 : decode cX10_readsJob 52 = .ok (.aload_n 0, 1) := by decide +kernel
theorem dX10_readsJob_53 : decode cX10_readsJob 53 = .ok (.getfield 78, 3) := by decide +kernel
theorem dX10_readsJob_56 : decode cX10_readsJob 56 = .ok (.invokevirtual 119, 3) := by decide +kernel
theorem dX10_readsJob_59 : decode cX10_readsJob 59 = .ok (.ifCond .ne 9, 3) := by decide +kernel
theorem dX10_readsJob_62 : decode cX10_readsJob 62 = .ok (.aload_n 0, 1) := by decide +kernel
theorem dX10_readsJob_63 : decode cX10_readsJob 63 = .ok (.bipush (-3), 2) := by decide +kernel
theorem dX10_readsJob_65 : decode cX10_readsJob 65 = .ok (.invokevirtual 97, 3) := by decide +kernel
theorem dX10_readsJob_68 : decode cX10_readsJob 68 = .ok (.aload_n 0, 1) := by decide +kernel
theorem dX10_readsJob_69 : decode cX10_readsJob 69 = .ok (.iconst 0, 1) := by decide +kernel
theorem dX10_readsJob_70 : decode cX10_readsJob 70 = .ok (.aload_n 0, 1) := by decide +kernel
theorem dX10_readsJob_71 : decode cX10_readsJob 71 = .ok (.getfield 7, 3) := by decide +kernel
theorem dX10_readsJob_74 : decode cX10_readsJob 74 = .ok (.iconst 4, 1) := by decide +kernel
theorem dX10_readsJob_75 : decode cX10_readsJob 75 = .ok (.iaload, 1) := by decide +kernel
theorem dX10_readsJob_76 : decode cX10_readsJob 76 = .ok (.iconst 1, 1) := by decide +kernel
theorem dX10_readsJob_77 : decode cX10_readsJob 77 = .ok (.isub, 1) := by decide +kernel
theorem dX10_readsJob_78 : decode cX10_readsJob 78 = .ok (.invokevirtual 111, 3) := by decide +kernel
theorem dX10_readsJob_81 : decode cX10_readsJob 81 = .ok (.istore_n 1, 1) := by decide +kernel
theorem dX10_readsJob_82 : decode cX10_readsJob 82 = .ok (.aload_n 0, 1) := by decide +kernel
theorem dX10_readsJob_83 : decode cX10_readsJob 83 = .ok (.iconst 1, 1) := by decide +kernel
theorem dX10_readsJob_84 : decode cX10_readsJob 84 = .ok (.bipush 60, 2) := by decide +kernel
theorem dX10_readsJob_86 : decode cX10_readsJob 86 = .ok (.invokevirtual 111, 3) := by decide +kernel
theorem dX10_readsJob_89 : decode cX10_readsJob 89 = .ok (.istore_n 2, 1) := by decide +kernel
theorem dX10_readsJob_90 : decode cX10_readsJob 90 = .ok (.aload_n 0, 1) := by decide +kernel
theorem dX10_readsJob_91 : decode cX10_readsJob 91 = .ok (.getfield 81, 3) := by decide +kernel
theorem dX10_readsJob_94 : decode cX10_readsJob 94 = .ok (.ifCond .ne 9, 3) := by decide +kernel
theorem dX10_readsJob_97 : decode cX10_readsJob 97 = .ok (.aload_n 0, 1) := by decide +kernel
theorem dX10_readsJob_98 : decode cX10_readsJob 98 = .ok (.iload_n 1, 1) := by decide +kernel
theorem dX10_readsJob_99 : decode cX10_readsJob 99 = .ok (.iload_n 2, 1) := by decide +kernel
theorem dX10_readsJob_100 : decode cX10_readsJob 100 = .ok (.invokevirtual 122, 3) := by decide +kernel
theorem dX10_readsJob_103 : decode cX10_readsJob 103 = .ok (.return_, 1) := by decide +kernel
theorem dX10_readsSetting_0 : decode cX10_readsSetting 0 = .ok (.aload_n 0, 1) := by decide +kernel
theorem dX10_readsSetting_1 : decode cX10_readsSetting 1 = .ok (.iconst 1, 1) := by decide +kernel
theorem dX10_readsSetting_2 : decode cX10_readsSetting 2 = .ok (.invokevirtual 104, 3) := by decide +kernel
theorem dX10_readsSetting_5 : decode cX10_readsSetting 5 = .ok (.aload_n 0, 1) := by decide +kernel
theorem dX10_readsSetting_6 : decode cX10_readsSetting 6 = .ok (.iload_n 1, 1) := by decide +kernel
theorem dX10_readsSetting_7 : decode cX10_readsSetting 7 = .ok (.invokestatic 125, 3) := by decide +kernel
theorem dX10_readsSetting_10 : decode cX10_readsSetting 10 = .ok (.iload_n 1, 1) := by decide +kernel
theorem dX10_readsSetting_11 : decode cX10_readsSetting 11 = .ok (.invokestatic 128, 3) := by decide +kernel
theorem dX10_readsSetting_14 : decode cX10_readsSetting 14 = .ok (.invokevirtual 111, 3) := by decide +kernel
theorem dX10_readsSetting_17 : decode cX10_readsSetting 17 = .ok (.istore_n 2, 1) := by decide +kernel
theorem dX10_readsSetting_18 : decode cX10_readsSetting 18 = .ok (.aload_n 0, 1) := by decide +kernel
theorem dX10_readsSetting_19 : decode cX10_readsSetting 19 = .ok (.getfield 81, 3) := by decide +kernel
theorem dX10_readsSetting_22 : decode cX10_readsSetting 22 = .ok (.ifCond .ne 10, 3) := by decide +kernel
theorem dX10_readsSetting_25 : decode cX10_readsSetting 25 = .ok (.aload_n 0, 1) := by decide +kernel
theorem dX10_readsSetting_26 : decode cX10_readsSetting 26 = .ok (.getfield 7, 3) := by decide +kernel
theorem dX10_readsSetting_29 : decode cX10_readsSetting 29 = .ok (.iload_n 1, 1) := by decide +kernel
theorem dX10_readsSetting_30 : decode cX10_readsSetting 30 = .ok (.iload_n 2, 1) := by decide +kernel
theorem dX10_readsSetting_31 : decode cX10_readsSetting 31 = .ok (.iastore, 1) := by decide +kernel
theorem dX10_readsSetting_32 : decode cX10_readsSetting 32 = .ok (.return_, 1) := by decide +kernel
theorem dX10_readsStatement_0 : decode cX10_readsStatement 0 = .ok (.aload_n 0, 1) := by decide +kernel
theorem dX10_readsStatement_1 : decode cX10_readsStatement 1 = .ok (.ldc 131, 2) := by decide +kernel
theorem dX10_readsStatement_3 : decode cX10_readsStatement 3 = .ok (.invokevirtual 133, 3) := by decide +kernel
theorem dX10_readsStatement_6 : decode cX10_readsStatement 6 = .ok (.ifCond .eq 10, 3) := by decide +kernel
theorem dX10_readsStatement_9 : decode cX10_readsStatement 9 = .ok (.aload_n 0, 1) := by decide +kernel
theorem dX10_readsStatement_10 : decode cX10_readsStatement 10 = .ok (.invokevirtual 137, 3) := by decide +kernel
theorem dX10_readsStatement_13 : decode cX10_readsStatement 13 = .ok (.goto 92, 3) := by decide +kernel
theorem dX10_readsStatement_16 : decode cX10_readsStatement 16 = .ok (.aload_n 0, 1) := by decide +kernel
theorem dX10_readsStatement_17 : decode cX10_readsStatement 17 = .ok (.ldc 140, 2) := by decide +kernel
theorem dX10_readsStatement_19 : decode cX10_readsStatement 19 = .ok (.invokevirtual 133, 3) := by decide +kernel
theorem dX10_readsStatement_22 : decode cX10_readsStatement 22 = .ok (.ifCond .eq 10, 3) := by decide +kernel
theorem dX10_readsStatement_25 : decode cX10_readsStatement 25 = .ok (.aload_n 0, 1) := by decide +kernel
theorem dX10_readsStatement_26 : decode cX10_readsStatement 26 = .ok (.invokevirtual 142, 3) := by decide +kernel
theorem dX10_readsStatement_29 : decode cX10_readsStatement 29 = .ok (.goto 76, 3) := by decide +kernel
theorem dX10_readsStatement_32 : decode cX10_readsStatement 32 = .ok (.aload_n 0, 1) := by decide +kernel
theorem dX10_readsStatement_33 : decode cX10_readsStatement 33 = .ok (.ldc 145, 2) := by decide +kernel
theorem dX10_readsStatement_35 : decode cX10_readsStatement 35 = .ok (.invokevirtual 133, 3) := by decide +kernel
theorem dX10_readsStatement_38 : decode cX10_readsStatement 38 = .ok (.ifCond .eq 10, 3) := by decide +kernel
theorem dX10_readsStatement_41 : decode cX10_readsStatement 41 = .ok (.aload_n 0, 1) := by decide +kernel
theorem dX10_readsStatement_42 : decode cX10_readsStatement 42 = .ok (.invokevirtual 147, 3) := by decide +kernel
theorem dX10_readsStatement_45 : decode cX10_readsStatement 45 = .ok (.goto 60, 3) := by decide +kernel
theorem dX10_readsStatement_48 : decode cX10_readsStatement 48 = .ok (.aload_n 0, 1) := by decide +kernel
theorem dX10_readsStatement_49 : decode cX10_readsStatement 49 = .ok (.ldc 150, 2) := by decide +kernel
theorem dX10_readsStatement_51 : decode cX10_readsStatement 51 = .ok (.invokevirtual 133, 3) := by decide +kernel
theorem dX10_readsStatement_54 : decode cX10_readsStatement 54 = .ok (.ifCond .eq 11, 3) := by decide +kernel
theorem dX10_readsStatement_57 : decode cX10_readsStatement 57 = .ok (.aload_n 0, 1) := by decide +kernel
theorem dX10_readsStatement_58 : decode cX10_readsStatement 58 = .ok (.iconst 1, 1) := by decide +kernel
theorem dX10_readsStatement_59 : decode cX10_readsStatement 59 = .ok (.invokevirtual 152, 3) := by decide +kernel
theorem dX10_readsStatement_62 : decode cX10_readsStatement 62 = .ok (.goto 43, 3) := by decide +kernel
theorem dX10_readsStatement_65 : decode cX10_readsStatement 65 = .ok (.aload_n 0, 1) := by decide +kernel
theorem dX10_readsStatement_66 : decode cX10_readsStatement 66 = .ok (.ldc 155, 2) := by decide +kernel
theorem dX10_readsStatement_68 : decode cX10_readsStatement 68 = .ok (.invokevirtual 133, 3) := by decide +kernel
theorem dX10_readsStatement_71 : decode cX10_readsStatement 71 = .ok (.ifCond .eq 11, 3) := by decide +kernel
theorem dX10_readsStatement_74 : decode cX10_readsStatement 74 = .ok (.aload_n 0, 1) := by decide +kernel
theorem dX10_readsStatement_75 : decode cX10_readsStatement 75 = .ok (.iconst 2, 1) := by decide +kernel
theorem dX10_readsStatement_76 : decode cX10_readsStatement 76 = .ok (.invokevirtual 152, 3) := by decide +kernel
theorem dX10_readsStatement_79 : decode cX10_readsStatement 79 = .ok (.goto 26, 3) := by decide +kernel
theorem dX10_readsStatement_82 : decode cX10_readsStatement 82 = .ok (.aload_n 0, 1) := by decide +kernel
theorem dX10_readsStatement_83 : decode cX10_readsStatement 83 = .ok (.ldc 157, 2) := by decide +kernel
theorem dX10_readsStatement_85 : decode cX10_readsStatement 85 = .ok (.invokevirtual 133, 3) := by decide +kernel
theorem dX10_readsStatement_88 : decode cX10_readsStatement 88 = .ok (.ifCond .eq 11, 3) := by decide +kernel
theorem dX10_readsStatement_91 : decode cX10_readsStatement 91 = .ok (.aload_n 0, 1) := by decide +kernel
theorem dX10_readsStatement_92 : decode cX10_readsStatement 92 = .ok (.iconst 3, 1) := by decide +kernel
theorem dX10_readsStatement_93 : decode cX10_readsStatement 93 = .ok (.invokevirtual 152, 3) := by decide +kernel
theorem dX10_readsStatement_96 : decode cX10_readsStatement 96 = .ok (.goto 9, 3) := by decide +kernel
theorem dX10_readsStatement_99 : decode cX10_readsStatement 99 = .ok (.aload_n 0, 1) := by decide +kernel
theorem dX10_readsStatement_100 : decode cX10_readsStatement 100 = .ok (.bipush (-2), 2) := by decide +kernel
theorem dX10_readsStatement_102 : decode cX10_readsStatement 102 = .ok (.invokevirtual 97, 3) := by decide +kernel
theorem dX10_readsStatement_105 : decode cX10_readsStatement 105 = .ok (.aload_n 0, 1) := by decide +kernel
theorem dX10_readsStatement_106 : decode cX10_readsStatement 106 = .ok (.aload_n 0, 1) := by decide +kernel
theorem dX10_readsStatement_107 : decode cX10_readsStatement 107 = .ok (.getfield 68, 3) := by decide +kernel
theorem dX10_readsStatement_110 : decode cX10_readsStatement 110 = .ok (.iconst 2, 1) := by decide +kernel
theorem dX10_readsStatement_111 : decode cX10_readsStatement 111 = .ok (.if_icmp .ne 20, 3) := by decide +kernel
theorem dX10_readsStatement_114 : decode cX10_readsStatement 114 = .ok (.aload_n 0, 1) := by decide +kernel
theorem dX10_readsStatement_115 : decode cX10_readsStatement 115 = .ok (.aload_n 0, 1) := by decide +kernel
theorem dX10_readsStatement_116 : decode cX10_readsStatement 116 = .ok (.getfield 61, 3) := by decide +kernel
theorem dX10_readsStatement_119 : decode cX10_readsStatement 119 = .ok (.invokevirtual 64, 3) := by decide +kernel
theorem dX10_readsStatement_122 : decode cX10_readsStatement 122 = .ok (.bipush 59, 2) := by decide +kernel
theorem dX10_readsStatement_124 : decode cX10_readsStatement 124 = .ok (.if_icmp .ne 7, 3) := by decide +kernel
theorem dX10_readsStatement_127 : decode cX10_readsStatement 127 = .ok (.iconst 1, 1) := by decide +kernel
theorem dX10_readsStatement_128 : decode cX10_readsStatement 128 = .ok (.goto 4, 3) := by decide +kernel
theorem dX10_readsStatement_131 : decode cX10_readsStatement 131 = .ok (.iconst 0, 1) := by decide +kernel
theorem dX10_readsStatement_132 : decode cX10_readsStatement 132 = .ok (.invokevirtual 104, 3) := by decide +kernel
theorem dX10_readsStatement_135 : decode cX10_readsStatement 135 = .ok (.return_, 1) := by decide +kernel
theorem dX10_load_0 : decode cX10_load 0 = .ok (.aload_n 0, 1) := by decide +kernel
theorem dX10_load_1 : decode cX10_load 1 = .ok (.iload_n 1, 1) := by decide +kernel
theorem dX10_load_2 : decode cX10_load 2 = .ok (.iconst 0, 1) := by decide +kernel
theorem dX10_load_3 : decode cX10_load 3 = .ok (.aload_n 0, 1) := by decide +kernel
theorem dX10_load_4 : decode cX10_load 4 = .ok (.getfield 48, 3) := by decide +kernel
theorem dX10_load_7 : decode cX10_load 7 = .ok (.invokestatic 54, 3) := by decide +kernel
theorem dX10_load_10 : decode cX10_load 10 = .ok (.ifCond .eq 7, 3) := by decide +kernel
theorem dX10_load_13 : decode cX10_load 13 = .ok (.iconst 0, 1) := by decide +kernel
theorem dX10_load_14 : decode cX10_load 14 = .ok (.goto 4, 3) := by decide +kernel
theorem dX10_load_17 : decode cX10_load 17 = .ok (.iconst 1, 1) := by decide +kernel
theorem dX10_load_18 : decode cX10_load 18 = .ok (.putfield 42, 3) := by decide +kernel
theorem dX10_load_21 : decode cX10_load 21 = .ok (.aload_n 0, 1) := by decide +kernel
theorem dX10_load_22 : decode cX10_load 22 = .ok (.getfield 42, 3) := by decide +kernel
theorem dX10_load_25 : decode cX10_load 25 = .ok (.ifCond .le 5, 3) := by decide +kernel
theorem dX10_load_28 : decode cX10_load 28 = .ok (.iconst 0, 1) := by decide +kernel
theorem dX10_load_29 : decode cX10_load 29 = .ok (.ireturn, 1) := by decide +kernel
theorem dX10_load_30 : decode cX10_load 30 = .ok (.aload_n 0, 1) := by decide +kernel
theorem dX10_load_31 : decode cX10_load 31 = .ok (.iload_n 1, 1) := by decide +kernel
theorem dX10_load_32 : decode cX10_load 32 = .ok (.putfield 51, 3) := by decide +kernel
theorem dX10_load_35 : decode cX10_load 35 = .ok (.aload_n 0, 1) := by decide +kernel
theorem dX10_load_36 : decode cX10_load 36 = .ok (.iconst 0, 1) := by decide +kernel
theorem dX10_load_37 : decode cX10_load 37 = .ok (.putfield 48, 3) := by decide +kernel
theorem dX10_load_40 : decode cX10_load 40 = .ok (.aload_n 0, 1) := by decide +kernel
theorem dX10_load_41 : decode cX10_load 41 = .ok (.iconst 0, 1) := by decide +kernel
theorem dX10_load_42 : decode cX10_load 42 = .ok (.putfield 58, 3) := by decide +kernel
theorem dX10_load_45 : decode cX10_load 45 = .ok (.aload_n 0, 1) := by decide +kernel
theorem dX10_load_46 : decode cX10_load 46 = .ok (.iconst 0, 1) := by decide +kernel
theorem dX10_load_47 : decode cX10_load 47 = .ok (.putfield 81, 3) := by decide +kernel
theorem dX10_load_50 : decode cX10_load 50 = .ok (.aload_n 0, 1) := by decide +kernel
theorem dX10_load_51 : decode cX10_load 51 = .ok (.getfield 16, 3) := by decide +kernel
theorem dX10_load_54 : decode cX10_load 54 = .ok (.aload_n 0, 1) := by decide +kernel
theorem dX10_load_55 : decode cX10_load 55 = .ok (.getfield 7, 3) := by decide +kernel
theorem dX10_load_58 : decode cX10_load 58 = .ok (.invokestatic 159, 3) := by decide +kernel
theorem dX10_load_61 : decode cX10_load 61 = .ok (.aload_n 0, 1) := by decide +kernel
theorem dX10_load_62 : decode cX10_load 62 = .ok (.invokevirtual 35, 3) := by decide +kernel
theorem dX10_load_65 : decode cX10_load 65 = .ok (.aload_n 0, 1) := by decide +kernel
theorem dX10_load_66 : decode cX10_load 66 = .ok (.aload_n 0, 1) := by decide +kernel
theorem dX10_load_67 : decode cX10_load 67 = .ok (.getfield 13, 3) := by decide +kernel
theorem dX10_load_70 : decode cX10_load 70 = .ok (.iconst 0, 1) := by decide +kernel
theorem dX10_load_71 : decode cX10_load 71 = .ok (.invokevirtual 38, 3) := by decide +kernel
theorem dX10_load_74 : decode cX10_load 74 = .ok (.aload_n 0, 1) := by decide +kernel
theorem dX10_load_75 : decode cX10_load 75 = .ok (.invokevirtual 101, 3) := by decide +kernel
theorem dX10_load_78 : decode cX10_load 78 = .ok (.aload_n 0, 1) := by decide +kernel
theorem dX10_load_79 : decode cX10_load 79 = .ok (.getfield 81, 3) := by decide +kernel
theorem dX10_load_82 : decode cX10_load 82 = .ok (.ifCond .ne 18, 3) := by decide +kernel
theorem dX10_load_85 : decode cX10_load 85 = .ok (.aload_n 0, 1) := by decide +kernel
theorem dX10_load_86 : decode cX10_load 86 = .ok (.getfield 68, 3) := by decide +kernel
theorem dX10_load_89 : decode cX10_load 89 = .ok (.iconst 3, 1) := by decide +kernel
theorem dX10_load_90 : decode cX10_load 90 = .ok (.if_icmp .eq 10, 3) := by decide +kernel
theorem dX10_load_93 : decode cX10_load 93 = .ok (.aload_n 0, 1) := by decide +kernel
theorem dX10_load_94 : decode cX10_load 94 = .ok (.invokevirtual 163, 3) := by decide +kernel
theorem dX10_load_97 : decode cX10_load 97 = .ok (.goto (-19), 3) := by decide +kernel
theorem dX10_load_100 : decode cX10_load 100 = .ok (.aload_n 0, 1) := by decide +kernel
theorem dX10_load_101 : decode cX10_load 101 = .ok (.aload_n 0, 1) := by decide +kernel
theorem dX10_load_102 : decode cX10_load 102 = .ok (.getfield 81, 3) := by decide +kernel
theorem dX10_load_105 : decode cX10_load 105 = .ok (.ifCond .ne 7, 3) := by decide +kernel
theorem dX10_load_108 : decode cX10_load 108 = .ok (.iconst (-1), 1) := by decide +kernel
theorem dX10_load_109 : decode cX10_load 109 = .ok (.goto 7, 3) := by decide +kernel
theorem dX10_load_112 : decode cX10_load 112 = .ok (.aload_n 0, 1) := by decide +kernel
theorem dX10_load_113 : decode cX10_load 113 = .ok (.getfield 94, 3) := by decide +kernel
theorem dX10_load_116 : decode cX10_load 116 = .ok (.putfield 25, 3) := by decide +kernel
theorem dX10_load_119 : decode cX10_load 119 = .ok (.aload_n 0, 1) := by decide +kernel
theorem dX10_load_120 : decode cX10_load 120 = .ok (.getfield 81, 3) := by decide +kernel
theorem dX10_load_123 : decode cX10_load 123 = .ok (.ifCond .ne 7, 3) := by decide +kernel
theorem dX10_load_126 : decode cX10_load 126 = .ok (.aload_n 0, 1) := by decide +kernel
theorem dX10_load_127 : decode cX10_load 127 = .ok (.invokevirtual 166, 3) := by decide +kernel
theorem dX10_load_130 : decode cX10_load 130 = .ok (.aload_n 0, 1) := by decide +kernel
theorem dX10_load_131 : decode cX10_load 131 = .ok (.getfield 13, 3) := by decide +kernel
theorem dX10_load_134 : decode cX10_load 134 = .ok (.aload_n 0, 1) := by decide +kernel
theorem dX10_load_135 : decode cX10_load 135 = .ok (.getfield 7, 3) := by decide +kernel
theorem dX10_load_138 : decode cX10_load 138 = .ok (.invokestatic 159, 3) := by decide +kernel
theorem dX10_load_141 : decode cX10_load 141 = .ok (.aload_n 0, 1) := by decide +kernel
theorem dX10_load_142 : decode cX10_load 142 = .ok (.aload_n 0, 1) := by decide +kernel
theorem dX10_load_143 : decode cX10_load 143 = .ok (.getfield 16, 3) := by decide +kernel
theorem dX10_load_146 : decode cX10_load 146 = .ok (.iconst 0, 1) := by decide +kernel
theorem dX10_load_147 : decode cX10_load 147 = .ok (.invokevirtual 38, 3) := by decide +kernel
theorem dX10_load_150 : decode cX10_load 150 = .ok (.aload_n 0, 1) := by decide +kernel
theorem dX10_load_151 : decode cX10_load 151 = .ok (.getfield 81, 3) := by decide +kernel
theorem dX10_load_154 : decode cX10_load 154 = .ok (.ifCond .eq 8, 3) := by decide +kernel
theorem dX10_load_157 : decode cX10_load 157 = .ok (.aload_n 0, 1) := by decide +kernel
theorem dX10_load_158 : decode cX10_load 158 = .ok (.getfield 81, 3) := by decide +kernel
theorem dX10_load_161 : decode cX10_load 161 = .ok (.ireturn, 1) := by decide +kernel
theorem dX10_load_162 : decode cX10_load 162 = .ok (.aload_n 0, 1) := by decide +kernel
theorem dX10_load_163 : decode cX10_load 163 = .ok (.invokevirtual 169, 3) := by decide +kernel
theorem dX10_load_166 : decode cX10_load 166 = .ok (.aload_n 0, 1) := by decide +kernel
theorem dX10_load_167 : decode cX10_load 167 = .ok (.aload_n 0, 1) := by decide +kernel
theorem dX10_load_168 : decode cX10_load 168 = .ok (.getfield 13, 3) := by decide +kernel
theorem dX10_load_171 : decode cX10_load 171 = .ok (.iconst 0, 1) := by decide +kernel
theorem dX10_load_172 : decode cX10_load 172 = .ok (.invokevirtual 38, 3) := by decide +kernel
theorem dX10_load_175 : decode cX10_load 175 = .ok (.aload_n 0, 1) := by decide +kernel
theorem dX10_load_176 : decode cX10_load 176 = .ok (.getfield 7, 3) := by decide +kernel
theorem dX10_load_179 : decode cX10_load 179 = .ok (.iconst 4, 1) := by decide +kernel
theorem dX10_load_180 : decode cX10_load 180 = .ok (.iaload, 1) := by decide +kernel
theorem dX10_load_181 : decode cX10_load 181 = .ok (.ireturn, 1) := by decide +kernel
theorem dX10_sets_0 : decode cX10_sets 0 = .ok (.iconst 0, 1) := by decide +kernel
theorem dX10_sets_1 : decode cX10_sets 1 = .ok (.istore_n 2, 1) := by decide +kernel
theorem dX10_sets_2 : decode cX10_sets 2 = .ok (.iload_n 2, 1) := by decide +kernel
theorem dX10_sets_3 : decode cX10_sets 3 = .ok (.sipush 308, 3) := by decide +kernel
theorem dX10_sets_6 : decode cX10_sets 6 = .ok (.if_icmp .ge 15, 3) := by decide +kernel
theorem dX10_sets_9 : decode cX10_sets 9 = .ok (.aload_n 0, 1) := by decide +kernel
theorem dX10_sets_10 : decode cX10_sets 10 = .ok (.iload_n 2, 1) := by decide +kernel
theorem dX10_sets_11 : decode cX10_sets 11 = .ok (.aload_n 1, 1) := by decide +kernel
theorem dX10_sets_12 : decode cX10_sets 12 = .ok (.iload_n 2, 1) := by decide +kernel
theorem dX10_sets_13 : decode cX10_sets 13 = .ok (.iaload, 1) := by decide +kernel
theorem dX10_sets_14 : decode cX10_sets 14 = .ok (.iastore, 1) := by decide +kernel
theorem dX10_sets_15 : decode cX10_sets 15 = .ok (.iinc 2 1, 3) := by decide +kernel
theorem dX10_sets_18 : decode cX10_sets 18 = .ok (.goto (-16), 3) := by decide +kernel
theorem dX10_sets_21 : decode cX10_sets 21 = .ok (.return_, 1) := by decide +kernel
theorem dX10_errorPosition_0 : decode cX10_errorPosition 0 = .ok (.aload_n 0, 1) := by decide +kernel
theorem dX10_errorPosition_1 : decode cX10_errorPosition 1 = .ok (.iconst 0, 1) := by decide +kernel
theorem dX10_errorPosition_2 : decode cX10_errorPosition 2 = .ok (.putfield 42, 3) := by decide +kernel
theorem dX10_errorPosition_5 : decode cX10_errorPosition 5 = .ok (.aload_n 0, 1) := by decide +kernel
theorem dX10_errorPosition_6 : decode cX10_errorPosition 6 = .ok (.getfield 25, 3) := by decide +kernel
theorem dX10_errorPosition_9 : decode cX10_errorPosition 9 = .ok (.ireturn, 1) := by decide +kernel
theorem dX10_isUser_0 : decode cX10_isUser 0 = .ok (.iload_n 1, 1) := by decide +kernel
theorem dX10_isUser_1 : decode cX10_isUser 1 = .ok (.iconst 0, 1) := by decide +kernel
theorem dX10_isUser_2 : decode cX10_isUser 2 = .ok (.aload_n 0, 1) := by decide +kernel
theorem dX10_isUser_3 : decode cX10_isUser 3 = .ok (.getfield 7, 3) := by decide +kernel
theorem dX10_isUser_6 : decode cX10_isUser 6 = .ok (.iconst 4, 1) := by decide +kernel
theorem dX10_isUser_7 : decode cX10_isUser 7 = .ok (.iaload, 1) := by decide +kernel
theorem dX10_isUser_8 : decode cX10_isUser 8 = .ok (.iconst 1, 1) := by decide +kernel
theorem dX10_isUser_9 : decode cX10_isUser 9 = .ok (.isub, 1) := by decide +kernel
theorem dX10_isUser_10 : decode cX10_isUser 10 = .ok (.invokestatic 54, 3) := by decide +kernel
theorem dX10_isUser_13 : decode cX10_isUser 13 = .ok (.ireturn, 1) := by decide +kernel
theorem dX10_childrenOf_0 : decode cX10_childrenOf 0 = .ok (.iconst 0, 1) := by decide +kernel
theorem dX10_childrenOf_1 : decode cX10_childrenOf 1 = .ok (.istore_n 2, 1) := by decide +kernel
theorem dX10_childrenOf_2 : decode cX10_childrenOf 2 = .ok (.iconst 0, 1) := by decide +kernel
theorem dX10_childrenOf_3 : decode cX10_childrenOf 3 = .ok (.istore_n 3, 1) := by decide +kernel
theorem dX10_childrenOf_4 : decode cX10_childrenOf 4 = .ok (.iload_n 3, 1) := by decide +kernel
theorem dX10_childrenOf_5 : decode cX10_childrenOf 5 = .ok (.aload_n 0, 1) := by decide +kernel
theorem dX10_childrenOf_6 : decode cX10_childrenOf 6 = .ok (.getfield 7, 3) := by decide +kernel
theorem dX10_childrenOf_9 : decode cX10_childrenOf 9 = .ok (.iconst 4, 1) := by decide +kernel
theorem dX10_childrenOf_10 : decode cX10_childrenOf 10 = .ok (.iaload, 1) := by decide +kernel
theorem dX10_childrenOf_11 : decode cX10_childrenOf 11 = .ok (.if_icmp .ge 30, 3) := by decide +kernel
theorem dX10_childrenOf_14 : decode cX10_childrenOf 14 = .ok (.iload_n 2, 1) := by decide +kernel
theorem dX10_childrenOf_15 : decode cX10_childrenOf 15 = .ok (.aload_n 0, 1) := by decide +kernel
theorem dX10_childrenOf_16 : decode cX10_childrenOf 16 = .ok (.getfield 7, 3) := by decide +kernel
theorem dX10_childrenOf_19 : decode cX10_childrenOf 19 = .ok (.bipush 10, 2) := by decide +kernel
theorem dX10_childrenOf_21 : decode cX10_childrenOf 21 = .ok (.iload_n 3, 1) := by decide +kernel
theorem dX10_childrenOf_22 : decode cX10_childrenOf 22 = .ok (.iadd, 1) := by decide +kernel
theorem dX10_childrenOf_23 : decode cX10_childrenOf 23 = .ok (.iaload, 1) := by decide +kernel
theorem dX10_childrenOf_24 : decode cX10_childrenOf 24 = .ok (.iload_n 1, 1) := by decide +kernel
theorem dX10_childrenOf_25 : decode cX10_childrenOf 25 = .ok (.if_icmp .ne 7, 3) := by decide +kernel
theorem dX10_childrenOf_28 : decode cX10_childrenOf 28 = .ok (.iconst 1, 1) := by decide +kernel
theorem dX10_childrenOf_29 : decode cX10_childrenOf 29 = .ok (.goto 4, 3) := by decide +kernel
theorem dX10_childrenOf_32 : decode cX10_childrenOf 32 = .ok (.iconst 0, 1) := by decide +kernel
theorem dX10_childrenOf_33 : decode cX10_childrenOf 33 = .ok (.iadd, 1) := by decide +kernel
theorem dX10_childrenOf_34 : decode cX10_childrenOf 34 = .ok (.istore_n 2, 1) := by decide +kernel
theorem dX10_childrenOf_35 : decode cX10_childrenOf 35 = .ok (.iinc 3 1, 3) := by decide +kernel
theorem dX10_childrenOf_38 : decode cX10_childrenOf 38 = .ok (.goto (-34), 3) := by decide +kernel
theorem dX10_childrenOf_41 : decode cX10_childrenOf 41 = .ok (.iload_n 2, 1) := by decide +kernel
theorem dX10_childrenOf_42 : decode cX10_childrenOf 42 = .ok (.ireturn, 1) := by decide +kernel
theorem dX10_isLeaf_0 : decode cX10_isLeaf 0 = .ok (.aload_n 0, 1) := by decide +kernel
theorem dX10_isLeaf_1 : decode cX10_isLeaf 1 = .ok (.iload_n 1, 1) := by decide +kernel
theorem dX10_isLeaf_2 : decode cX10_isLeaf 2 = .ok (.invokevirtual 172, 3) := by decide +kernel
theorem dX10_isLeaf_5 : decode cX10_isLeaf 5 = .ok (.ifCond .ne 7, 3) := by decide +kernel
theorem dX10_isLeaf_8 : decode cX10_isLeaf 8 = .ok (.iconst 1, 1) := by decide +kernel
theorem dX10_isLeaf_9 : decode cX10_isLeaf 9 = .ok (.goto 4, 3) := by decide +kernel
theorem dX10_isLeaf_12 : decode cX10_isLeaf 12 = .ok (.iconst 0, 1) := by decide +kernel
theorem dX10_isLeaf_13 : decode cX10_isLeaf 13 = .ok (.ireturn, 1) := by decide +kernel
theorem dX10_hasJobs_0 : decode cX10_hasJobs 0 = .ok (.iconst 0, 1) := by decide +kernel
theorem dX10_hasJobs_1 : decode cX10_hasJobs 1 = .ok (.istore_n 2, 1) := by decide +kernel
theorem dX10_hasJobs_2 : decode cX10_hasJobs 2 = .ok (.iconst 0, 1) := by decide +kernel
theorem dX10_hasJobs_3 : decode cX10_hasJobs 3 = .ok (.istore_n 3, 1) := by decide +kernel
theorem dX10_hasJobs_4 : decode cX10_hasJobs 4 = .ok (.iload_n 3, 1) := by decide +kernel
theorem dX10_hasJobs_5 : decode cX10_hasJobs 5 = .ok (.aload_n 0, 1) := by decide +kernel
theorem dX10_hasJobs_6 : decode cX10_hasJobs 6 = .ok (.getfield 7, 3) := by decide +kernel
theorem dX10_hasJobs_9 : decode cX10_hasJobs 9 = .ok (.bipush 6, 2) := by decide +kernel
theorem dX10_hasJobs_11 : decode cX10_hasJobs 11 = .ok (.iaload, 1) := by decide +kernel
theorem dX10_hasJobs_12 : decode cX10_hasJobs 12 = .ok (.if_icmp .ge 29, 3) := by decide +kernel
theorem dX10_hasJobs_15 : decode cX10_hasJobs 15 = .ok (.iload_n 2, 1) := by decide +kernel
theorem dX10_hasJobs_16 : decode cX10_hasJobs 16 = .ok (.ifCond .ne 13, 3) := by decide +kernel
theorem dX10_hasJobs_19 : decode cX10_hasJobs 19 = .ok (.aload_n 0, 1) := by decide +kernel
theorem dX10_hasJobs_20 : decode cX10_hasJobs 20 = .ok (.iload_n 3, 1) := by decide +kernel
theorem dX10_hasJobs_21 : decode cX10_hasJobs 21 = .ok (.iconst 0, 1) := by decide +kernel
theorem dX10_hasJobs_22 : decode cX10_hasJobs 22 = .ok (.invokevirtual 175, 3) := by decide +kernel
theorem dX10_hasJobs_25 : decode cX10_hasJobs 25 = .ok (.iload_n 1, 1) := by decide +kernel
theorem dX10_hasJobs_26 : decode cX10_hasJobs 26 = .ok (.if_icmp .ne 7, 3) := by decide +kernel
theorem dX10_hasJobs_29 : decode cX10_hasJobs 29 = .ok (.iconst 1, 1) := by decide +kernel
theorem dX10_hasJobs_30 : decode cX10_hasJobs 30 = .ok (.goto 4, 3) := by decide +kernel
theorem dX10_hasJobs_33 : decode cX10_hasJobs 33 = .ok (.iconst 0, 1) := by decide +kernel
theorem dX10_hasJobs_34 : decode cX10_hasJobs 34 = .ok (.istore_n 2, 1) := by decide +kernel
theorem dX10_hasJobs_35 : decode cX10_hasJobs 35 = .ok (.iinc 3 1, 3) := by decide +kernel
theorem dX10_hasJobs_38 : decode cX10_hasJobs 38 = .ok (.goto (-34), 3) := by decide +kernel
theorem dX10_hasJobs_41 : decode cX10_hasJobs 41 = .ok (.iload_n 2, 1) := by decide +kernel
theorem dX10_hasJobs_42 : decode cX10_hasJobs 42 = .ok (.ireturn, 1) := by decide +kernel
theorem dX10_hasLoan_0 : decode cX10_hasLoan 0 = .ok (.iconst 0, 1) := by decide +kernel
theorem dX10_hasLoan_1 : decode cX10_hasLoan 1 = .ok (.istore_n 2, 1) := by decide +kernel
theorem dX10_hasLoan_2 : decode cX10_hasLoan 2 = .ok (.iconst 0, 1) := by decide +kernel
theorem dX10_hasLoan_3 : decode cX10_hasLoan 3 = .ok (.istore_n 3, 1) := by decide +kernel
theorem dX10_hasLoan_4 : decode cX10_hasLoan 4 = .ok (.iload_n 3, 1) := by decide +kernel
theorem dX10_hasLoan_5 : decode cX10_hasLoan 5 = .ok (.aload_n 0, 1) := by decide +kernel
theorem dX10_hasLoan_6 : decode cX10_hasLoan 6 = .ok (.getfield 7, 3) := by decide +kernel
theorem dX10_hasLoan_9 : decode cX10_hasLoan 9 = .ok (.bipush 7, 2) := by decide +kernel
theorem dX10_hasLoan_11 : decode cX10_hasLoan 11 = .ok (.iaload, 1) := by decide +kernel
theorem dX10_hasLoan_12 : decode cX10_hasLoan 12 = .ok (.if_icmp .ge 39, 3) := by decide +kernel
theorem dX10_hasLoan_15 : decode cX10_hasLoan 15 = .ok (.iload_n 2, 1) := by decide +kernel
theorem dX10_hasLoan_16 : decode cX10_hasLoan 16 = .ok (.ifCond .ne 23, 3) := by decide +kernel
theorem dX10_hasLoan_19 : decode cX10_hasLoan 19 = .ok (.aload_n 0, 1) := by decide +kernel
theorem dX10_hasLoan_20 : decode cX10_hasLoan 20 = .ok (.iload_n 3, 1) := by decide +kernel
theorem dX10_hasLoan_21 : decode cX10_hasLoan 21 = .ok (.iconst 0, 1) := by decide +kernel
theorem dX10_hasLoan_22 : decode cX10_hasLoan 22 = .ok (.invokevirtual 178, 3) := by decide +kernel
theorem dX10_hasLoan_25 : decode cX10_hasLoan 25 = .ok (.iload_n 1, 1) := by decide +kernel
theorem dX10_hasLoan_26 : decode cX10_hasLoan 26 = .ok (.if_icmp .eq 13, 3) := by decide +kernel
theorem dX10_hasLoan_29 : decode cX10_hasLoan 29 = .ok (.aload_n 0, 1) := by decide +kernel
theorem dX10_hasLoan_30 : decode cX10_hasLoan 30 = .ok (.iload_n 3, 1) := by decide +kernel
theorem dX10_hasLoan_31 : decode cX10_hasLoan 31 = .ok (.iconst 1, 1) := by decide +kernel
theorem dX10_hasLoan_32 : decode cX10_hasLoan 32 = .ok (.invokevirtual 178, 3) := by decide +kernel
theorem dX10_hasLoan_35 : decode cX10_hasLoan 35 = .ok (.iload_n 1, 1) := by decide +kernel
theorem dX10_hasLoan_36 : decode cX10_hasLoan 36 = .ok (.if_icmp .ne 7, 3) := by decide +kernel
theorem dX10_hasLoan_39 : decode cX10_hasLoan 39 = .ok (.iconst 1, 1) := by decide +kernel
theorem dX10_hasLoan_40 : decode cX10_hasLoan 40 = .ok (.goto 4, 3) := by decide +kernel
theorem dX10_hasLoan_43 : decode cX10_hasLoan 43 = .ok (.iconst 0, 1) := by decide +kernel
theorem dX10_hasLoan_44 : decode cX10_hasLoan 44 = .ok (.istore_n 2, 1) := by decide +kernel
theorem dX10_hasLoan_45 : decode cX10_hasLoan 45 = .ok (.iinc 3 1, 3) := by decide +kernel
theorem dX10_hasLoan_48 : decode cX10_hasLoan 48 = .ok (.goto (-44), 3) := by decide +kernel
theorem dX10_hasLoan_51 : decode cX10_hasLoan 51 = .ok (.iload_n 2, 1) := by decide +kernel
theorem dX10_hasLoan_52 : decode cX10_hasLoan 52 = .ok (.ireturn, 1) := by decide +kernel
theorem dX10_addsUser_0 : decode cX10_addsUser 0 = .ok (.aload_n 0, 1) := by decide +kernel
theorem dX10_addsUser_1 : decode cX10_addsUser 1 = .ok (.getfield 7, 3) := by decide +kernel
theorem dX10_addsUser_4 : decode cX10_addsUser 4 = .ok (.iconst 4, 1) := by decide +kernel
theorem dX10_addsUser_5 : decode cX10_addsUser 5 = .ok (.iaload, 1) := by decide +kernel
theorem dX10_addsUser_6 : decode cX10_addsUser 6 = .ok (.istore_n 3, 1) := by decide +kernel
theorem dX10_addsUser_7 : decode cX10_addsUser 7 = .ok (.aload_n 0, 1) := by decide +kernel
theorem dX10_addsUser_8 : decode cX10_addsUser 8 = .ok (.getfield 7, 3) := by decide +kernel
theorem dX10_addsUser_11 : decode cX10_addsUser 11 = .ok (.bipush 10, 2) := by decide +kernel
theorem dX10_addsUser_13 : decode cX10_addsUser 13 = .ok (.iload_n 3, 1) := by decide +kernel
theorem dX10_addsUser_14 : decode cX10_addsUser 14 = .ok (.iadd, 1) := by decide +kernel
theorem dX10_addsUser_15 : decode cX10_addsUser 15 = .ok (.iload_n 1, 1) := by decide +kernel
theorem dX10_addsUser_16 : decode cX10_addsUser 16 = .ok (.iastore, 1) := by decide +kernel
theorem dX10_addsUser_17 : decode cX10_addsUser 17 = .ok (.aload_n 0, 1) := by decide +kernel
theorem dX10_addsUser_18 : decode cX10_addsUser 18 = .ok (.getfield 7, 3) := by decide +kernel
theorem dX10_addsUser_21 : decode cX10_addsUser 21 = .ok (.bipush 22, 2) := by decide +kernel
theorem dX10_addsUser_23 : decode cX10_addsUser 23 = .ok (.iload_n 3, 1) := by decide +kernel
theorem dX10_addsUser_24 : decode cX10_addsUser 24 = .ok (.iadd, 1) := by decide +kernel
theorem dX10_addsUser_25 : decode cX10_addsUser 25 = .ok (.iload_n 2, 1) := by decide +kernel
theorem dX10_addsUser_26 : decode cX10_addsUser 26 = .ok (.iastore, 1) := by decide +kernel
theorem dX10_addsUser_27 : decode cX10_addsUser 27 = .ok (.aload_n 0, 1) := by decide +kernel
theorem dX10_addsUser_28 : decode cX10_addsUser 28 = .ok (.getfield 7, 3) := by decide +kernel
theorem dX10_addsUser_31 : decode cX10_addsUser 31 = .ok (.bipush 34, 2) := by decide +kernel
theorem dX10_addsUser_33 : decode cX10_addsUser 33 = .ok (.iload_n 3, 1) := by decide +kernel
theorem dX10_addsUser_34 : decode cX10_addsUser 34 = .ok (.iadd, 1) := by decide +kernel
theorem dX10_addsUser_35 : decode cX10_addsUser 35 = .ok (.iconst 0, 1) := by decide +kernel
theorem dX10_addsUser_36 : decode cX10_addsUser 36 = .ok (.iastore, 1) := by decide +kernel
theorem dX10_addsUser_37 : decode cX10_addsUser 37 = .ok (.aload_n 0, 1) := by decide +kernel
theorem dX10_addsUser_38 : decode cX10_addsUser 38 = .ok (.getfield 7, 3) := by decide +kernel
theorem dX10_addsUser_41 : decode cX10_addsUser 41 = .ok (.iconst 4, 1) := by decide +kernel
theorem dX10_addsUser_42 : decode cX10_addsUser 42 = .ok (.dup2, 1) := by decide +kernel
theorem dX10_addsUser_43 : decode cX10_addsUser 43 = .ok (.iaload, 1) := by decide +kernel
theorem dX10_addsUser_44 : decode cX10_addsUser 44 = .ok (.iconst 1, 1) := by decide +kernel
theorem dX10_addsUser_45 : decode cX10_addsUser 45 = .ok (.iadd, 1) := by decide +kernel
theorem dX10_addsUser_46 : decode cX10_addsUser 46 = .ok (.iastore, 1) := by decide +kernel
theorem dX10_addsUser_47 : decode cX10_addsUser 47 = .ok (.return_, 1) := by decide +kernel
theorem dX10_baseOf_0 : decode cX10_baseOf 0 = .ok (.iload_n 1, 1) := by decide +kernel
theorem dX10_baseOf_1 : decode cX10_baseOf 1 = .ok (.ifCond .ne 6, 3) := by decide +kernel
theorem dX10_baseOf_4 : decode cX10_baseOf 4 = .ok (.ldc 181, 2) := by decide +kernel
theorem dX10_baseOf_6 : decode cX10_baseOf 6 = .ok (.ireturn, 1) := by decide +kernel
theorem dX10_baseOf_7 : decode cX10_baseOf 7 = .ok (.iconst 0, 1) := by decide +kernel
theorem dX10_baseOf_8 : decode cX10_baseOf 8 = .ok (.istore_n 2, 1) := by decide +kernel
theorem dX10_baseOf_9 : decode cX10_baseOf 9 = .ok (.iconst 1, 1) := by decide +kernel
theorem dX10_baseOf_10 : decode cX10_baseOf 10 = .ok (.istore_n 3, 1) := by decide +kernel
theorem dX10_baseOf_11 : decode cX10_baseOf 11 = .ok (.iload_n 3, 1) := by decide +kernel
theorem dX10_baseOf_12 : decode cX10_baseOf 12 = .ok (.aload_n 0, 1) := by decide +kernel
theorem dX10_baseOf_13 : decode cX10_baseOf 13 = .ok (.getfield 7, 3) := by decide +kernel
theorem dX10_baseOf_16 : decode cX10_baseOf 16 = .ok (.iconst 4, 1) := by decide +kernel
theorem dX10_baseOf_17 : decode cX10_baseOf 17 = .ok (.iaload, 1) := by decide +kernel
theorem dX10_baseOf_18 : decode cX10_baseOf 18 = .ok (.if_icmp .ge 46, 3) := by decide +kernel
theorem dX10_baseOf_21 : decode cX10_baseOf 21 = .ok (.iload_n 2, 1) := by decide +kernel
theorem dX10_baseOf_22 : decode cX10_baseOf 22 = .ok (.aload_n 0, 1) := by decide +kernel
theorem dX10_baseOf_23 : decode cX10_baseOf 23 = .ok (.getfield 7, 3) := by decide +kernel
theorem dX10_baseOf_26 : decode cX10_baseOf 26 = .ok (.bipush 10, 2) := by decide +kernel
theorem dX10_baseOf_28 : decode cX10_baseOf 28 = .ok (.iload_n 3, 1) := by decide +kernel
theorem dX10_baseOf_29 : decode cX10_baseOf 29 = .ok (.iadd, 1) := by decide +kernel
theorem dX10_baseOf_30 : decode cX10_baseOf 30 = .ok (.iaload, 1) := by decide +kernel
theorem dX10_baseOf_31 : decode cX10_baseOf 31 = .ok (.aload_n 0, 1) := by decide +kernel
theorem dX10_baseOf_32 : decode cX10_baseOf 32 = .ok (.getfield 7, 3) := by decide +kernel
theorem dX10_baseOf_35 : decode cX10_baseOf 35 = .ok (.bipush 10, 2) := by decide +kernel
theorem dX10_baseOf_37 : decode cX10_baseOf 37 = .ok (.iload_n 1, 1) := by decide +kernel
theorem dX10_baseOf_38 : decode cX10_baseOf 38 = .ok (.iadd, 1) := by decide +kernel
theorem dX10_baseOf_39 : decode cX10_baseOf 39 = .ok (.iaload, 1) := by decide +kernel
theorem dX10_baseOf_40 : decode cX10_baseOf 40 = .ok (.if_icmp .ne 15, 3) := by decide +kernel
theorem dX10_baseOf_43 : decode cX10_baseOf 43 = .ok (.aload_n 0, 1) := by decide +kernel
theorem dX10_baseOf_44 : decode cX10_baseOf 44 = .ok (.getfield 7, 3) := by decide +kernel
theorem dX10_baseOf_47 : decode cX10_baseOf 47 = .ok (.bipush 22, 2) := by decide +kernel
theorem dX10_baseOf_49 : decode cX10_baseOf 49 = .ok (.iload_n 3, 1) := by decide +kernel
theorem dX10_baseOf_50 : decode cX10_baseOf 50 = .ok (.iadd, 1) := by decide +kernel
theorem dX10_baseOf_51 : decode cX10_baseOf 51 = .ok (.iaload, 1) := by decide +kernel
theorem dX10_baseOf_52 : decode cX10_baseOf 52 = .ok (.goto 4, 3) := by decide +kernel
theorem dX10_baseOf_55 : decode cX10_baseOf 55 = .ok (.iconst 0, 1) := by decide +kernel
theorem dX10_baseOf_56 : decode cX10_baseOf 56 = .ok (.iadd, 1) := by decide +kernel
theorem dX10_baseOf_57 : decode cX10_baseOf 57 = .ok (.istore_n 2, 1) := by decide +kernel
theorem dX10_baseOf_58 : decode cX10_baseOf 58 = .ok (.iinc 3 1, 3) := by decide +kernel
theorem dX10_baseOf_61 : decode cX10_baseOf 61 = .ok (.goto (-50), 3) := by decide +kernel
theorem dX10_baseOf_64 : decode cX10_baseOf 64 = .ok (.aload_n 0, 1) := by decide +kernel
theorem dX10_baseOf_65 : decode cX10_baseOf 65 = .ok (.aload_n 0, 1) := by decide +kernel
theorem dX10_baseOf_66 : decode cX10_baseOf 66 = .ok (.getfield 7, 3) := by decide +kernel
theorem dX10_baseOf_69 : decode cX10_baseOf 69 = .ok (.bipush 10, 2) := by decide +kernel
theorem dX10_baseOf_71 : decode cX10_baseOf 71 = .ok (.iload_n 1, 1) := by decide +kernel
theorem dX10_baseOf_72 : decode cX10_baseOf 72 = .ok (.iadd, 1) := by decide +kernel
theorem dX10_baseOf_73 : decode cX10_baseOf 73 = .ok (.iaload, 1) := by decide +kernel
theorem dX10_baseOf_74 : decode cX10_baseOf 74 = .ok (.invokevirtual 182, 3) := by decide +kernel
theorem dX10_baseOf_77 : decode cX10_baseOf 77 = .ok (.i2l, 1) := by decide +kernel
theorem dX10_baseOf_78 : decode cX10_baseOf 78 = .ok (.aload_n 0, 1) := by decide +kernel
theorem dX10_baseOf_79 : decode cX10_baseOf 79 = .ok (.getfield 7, 3) := by decide +kernel
theorem dX10_baseOf_82 : decode cX10_baseOf 82 = .ok (.bipush 22, 2) := by decide +kernel
theorem dX10_baseOf_84 : decode cX10_baseOf 84 = .ok (.iload_n 1, 1) := by decide +kernel
theorem dX10_baseOf_85 : decode cX10_baseOf 85 = .ok (.iadd, 1) := by decide +kernel
theorem dX10_baseOf_86 : decode cX10_baseOf 86 = .ok (.iaload, 1) := by decide +kernel
theorem dX10_baseOf_87 : decode cX10_baseOf 87 = .ok (.i2l, 1) := by decide +kernel
theorem dX10_baseOf_88 : decode cX10_baseOf 88 = .ok (.lmul, 1) := by decide +kernel
theorem dX10_baseOf_89 : decode cX10_baseOf 89 = .ok (.iload_n 2, 1) := by decide +kernel
theorem dX10_baseOf_90 : decode cX10_baseOf 90 = .ok (.i2l, 1) := by decide +kernel
theorem dX10_baseOf_91 : decode cX10_baseOf 91 = .ok (.ldiv, 1) := by decide +kernel
theorem dX10_baseOf_92 : decode cX10_baseOf 92 = .ok (.l2i, 1) := by decide +kernel
theorem dX10_baseOf_93 : decode cX10_baseOf 93 = .ok (.ireturn, 1) := by decide +kernel
theorem dX10_isLent_0 : decode cX10_isLent 0 = .ok (.aload_n 0, 1) := by decide +kernel
theorem dX10_isLent_1 : decode cX10_isLent 1 = .ok (.getfield 7, 3) := by decide +kernel
theorem dX10_isLent_4 : decode cX10_isLent 4 = .ok (.iconst 0, 1) := by decide +kernel
theorem dX10_isLent_5 : decode cX10_isLent 5 = .ok (.iaload, 1) := by decide +kernel
theorem dX10_isLent_6 : decode cX10_isLent 6 = .ok (.aload_n 0, 1) := by decide +kernel
theorem dX10_isLent_7 : decode cX10_isLent 7 = .ok (.iload_n 1, 1) := by decide +kernel
theorem dX10_isLent_8 : decode cX10_isLent 8 = .ok (.iconst 3, 1) := by decide +kernel
theorem dX10_isLent_9 : decode cX10_isLent 9 = .ok (.invokevirtual 178, 3) := by decide +kernel
theorem dX10_isLent_12 : decode cX10_isLent 12 = .ok (.aload_n 0, 1) := by decide +kernel
theorem dX10_isLent_13 : decode cX10_isLent 13 = .ok (.iload_n 1, 1) := by decide +kernel
theorem dX10_isLent_14 : decode cX10_isLent 14 = .ok (.iconst 4, 1) := by decide +kernel
theorem dX10_isLent_15 : decode cX10_isLent 15 = .ok (.invokevirtual 178, 3) := by decide +kernel
theorem dX10_isLent_18 : decode cX10_isLent 18 = .ok (.iadd, 1) := by decide +kernel
theorem dX10_isLent_19 : decode cX10_isLent 19 = .ok (.if_icmp .ge 7, 3) := by decide +kernel
theorem dX10_isLent_22 : decode cX10_isLent 22 = .ok (.iconst 1, 1) := by decide +kernel
theorem dX10_isLent_23 : decode cX10_isLent 23 = .ok (.goto 4, 3) := by decide +kernel
theorem dX10_isLent_26 : decode cX10_isLent 26 = .ok (.iconst 0, 1) := by decide +kernel
theorem dX10_isLent_27 : decode cX10_isLent 27 = .ok (.ireturn, 1) := by decide +kernel
theorem dX10_ticketsOf_0 : decode cX10_ticketsOf 0 = .ok (.aload_n 0, 1) := by decide +kernel
theorem dX10_ticketsOf_1 : decode cX10_ticketsOf 1 = .ok (.iload_n 1, 1) := by decide +kernel
theorem dX10_ticketsOf_2 : decode cX10_ticketsOf 2 = .ok (.invokevirtual 182, 3) := by decide +kernel
theorem dX10_ticketsOf_5 : decode cX10_ticketsOf 5 = .ok (.istore_n 2, 1) := by decide +kernel
theorem dX10_ticketsOf_6 : decode cX10_ticketsOf 6 = .ok (.iconst 0, 1) := by decide +kernel
theorem dX10_ticketsOf_7 : decode cX10_ticketsOf 7 = .ok (.istore_n 3, 1) := by decide +kernel
theorem dX10_ticketsOf_8 : decode cX10_ticketsOf 8 = .ok (.iload_n 3, 1) := by decide +kernel
theorem dX10_ticketsOf_9 : decode cX10_ticketsOf 9 = .ok (.aload_n 0, 1) := by decide +kernel
theorem dX10_ticketsOf_10 : decode cX10_ticketsOf 10 = .ok (.getfield 7, 3) := by decide +kernel
theorem dX10_ticketsOf_13 : decode cX10_ticketsOf 13 = .ok (.bipush 7, 2) := by decide +kernel
theorem dX10_ticketsOf_15 : decode cX10_ticketsOf 15 = .ok (.iaload, 1) := by decide +kernel
theorem dX10_ticketsOf_16 : decode cX10_ticketsOf 16 = .ok (.if_icmp .ge 81, 3) := by decide +kernel
theorem dX10_ticketsOf_19 : decode cX10_ticketsOf 19 = .ok (.aload_n 0, 1) := by decide +kernel
theorem dX10_ticketsOf_20 : decode cX10_ticketsOf 20 = .ok (.iload_n 1, 1) := by decide +kernel
theorem dX10_ticketsOf_21 : decode cX10_ticketsOf 21 = .ok (.invokevirtual 119, 3) := by decide +kernel
theorem dX10_ticketsOf_24 : decode cX10_ticketsOf 24 = .ok (.ifCond .eq 73, 3) := by decide +kernel
theorem dX10_ticketsOf_27 : decode cX10_ticketsOf 27 = .ok (.aload_n 0, 1) := by decide +kernel
theorem dX10_ticketsOf_28 : decode cX10_ticketsOf 28 = .ok (.iload_n 3, 1) := by decide +kernel
theorem dX10_ticketsOf_29 : decode cX10_ticketsOf 29 = .ok (.invokevirtual 185, 3) := by decide +kernel
theorem dX10_ticketsOf_32 : decode cX10_ticketsOf 32 = .ok (.ifCond .eq 12, 3) := by decide +kernel
theorem dX10_ticketsOf_35 : decode cX10_ticketsOf 35 = .ok (.aload_n 0, 1) := by decide +kernel
theorem dX10_ticketsOf_36 : decode cX10_ticketsOf 36 = .ok (.iload_n 3, 1) := by decide +kernel
theorem dX10_ticketsOf_37 : decode cX10_ticketsOf 37 = .ok (.iconst 2, 1) := by decide +kernel
theorem dX10_ticketsOf_38 : decode cX10_ticketsOf 38 = .ok (.invokevirtual 178, 3) := by decide +kernel
theorem dX10_ticketsOf_41 : decode cX10_ticketsOf 41 = .ok (.goto 10, 3) := by decide +kernel
theorem dX10_ticketsOf_44 : decode cX10_ticketsOf 44 = .ok (.aload_n 0, 1) := by decide +kernel
theorem dX10_ticketsOf_45 : decode cX10_ticketsOf 45 = .ok (.iload_n 3, 1) := by decide +kernel
theorem dX10_ticketsOf_46 : decode cX10_ticketsOf 46 = .ok (.iconst 2, 1) := by decide +kernel
theorem dX10_ticketsOf_47 : decode cX10_ticketsOf 47 = .ok (.invokevirtual 178, 3) := by decide +kernel
theorem dX10_ticketsOf_50 : decode cX10_ticketsOf 50 = .ok (.ineg, 1) := by decide +kernel
theorem dX10_ticketsOf_51 : decode cX10_ticketsOf 51 = .ok (.istore 4, 2) := by decide +kernel
theorem dX10_ticketsOf_53 : decode cX10_ticketsOf 53 = .ok (.iload_n 2, 1) := by decide +kernel
theorem dX10_ticketsOf_54 : decode cX10_ticketsOf 54 = .ok (.aload_n 0, 1) := by decide +kernel
theorem dX10_ticketsOf_55 : decode cX10_ticketsOf 55 = .ok (.iload_n 3, 1) := by decide +kernel
theorem dX10_ticketsOf_56 : decode cX10_ticketsOf 56 = .ok (.iconst 1, 1) := by decide +kernel
theorem dX10_ticketsOf_57 : decode cX10_ticketsOf 57 = .ok (.invokevirtual 178, 3) := by decide +kernel
theorem dX10_ticketsOf_60 : decode cX10_ticketsOf 60 = .ok (.iload_n 1, 1) := by decide +kernel
theorem dX10_ticketsOf_61 : decode cX10_ticketsOf 61 = .ok (.if_icmp .ne 8, 3) := by decide +kernel
theorem dX10_ticketsOf_64 : decode cX10_ticketsOf 64 = .ok (.iload 4, 2) := by decide +kernel
theorem dX10_ticketsOf_66 : decode cX10_ticketsOf 66 = .ok (.goto 4, 3) := by decide +kernel
theorem dX10_ticketsOf_69 : decode cX10_ticketsOf 69 = .ok (.iconst 0, 1) := by decide +kernel
theorem dX10_ticketsOf_70 : decode cX10_ticketsOf 70 = .ok (.iadd, 1) := by decide +kernel
theorem dX10_ticketsOf_71 : decode cX10_ticketsOf 71 = .ok (.istore_n 2, 1) := by decide +kernel
theorem dX10_ticketsOf_72 : decode cX10_ticketsOf 72 = .ok (.iload_n 2, 1) := by decide +kernel
theorem dX10_ticketsOf_73 : decode cX10_ticketsOf 73 = .ok (.aload_n 0, 1) := by decide +kernel
theorem dX10_ticketsOf_74 : decode cX10_ticketsOf 74 = .ok (.iload_n 3, 1) := by decide +kernel
theorem dX10_ticketsOf_75 : decode cX10_ticketsOf 75 = .ok (.iconst 0, 1) := by decide +kernel
theorem dX10_ticketsOf_76 : decode cX10_ticketsOf 76 = .ok (.invokevirtual 178, 3) := by decide +kernel
theorem dX10_ticketsOf_79 : decode cX10_ticketsOf 79 = .ok (.iload_n 1, 1) := by decide +kernel
theorem dX10_ticketsOf_80 : decode cX10_ticketsOf 80 = .ok (.if_icmp .ne 8, 3) := by decide +kernel
theorem dX10_ticketsOf_83 : decode cX10_ticketsOf 83 = .ok (.iload 4, 2) := by decide +kernel
theorem dX10_ticketsOf_85 : decode cX10_ticketsOf 85 = .ok (.goto 4, 3) := by decide +kernel
theorem dX10_ticketsOf_88 : decode cX10_ticketsOf 88 = .ok (.iconst 0, 1) := by decide +kernel
theorem dX10_ticketsOf_89 : decode cX10_ticketsOf 89 = .ok (.isub, 1) := by decide +kernel
theorem dX10_ticketsOf_90 : decode cX10_ticketsOf 90 = .ok (.istore_n 2, 1) := by decide +kernel
theorem dX10_ticketsOf_91 : decode cX10_ticketsOf 91 = .ok (.iinc 3 1, 3) := by decide +kernel
theorem dX10_ticketsOf_94 : decode cX10_ticketsOf 94 = .ok (.goto (-86), 3) := by decide +kernel
theorem dX10_ticketsOf_97 : decode cX10_ticketsOf 97 = .ok (.iload_n 2, 1) := by decide +kernel
theorem dX10_ticketsOf_98 : decode cX10_ticketsOf 98 = .ok (.ifCond .ge 7, 3) := by decide +kernel
theorem dX10_ticketsOf_101 : decode cX10_ticketsOf 101 = .ok (.iconst 0, 1) := by decide +kernel
theorem dX10_ticketsOf_102 : decode cX10_ticketsOf 102 = .ok (.goto 4, 3) := by decide +kernel
theorem dX10_ticketsOf_105 : decode cX10_ticketsOf 105 = .ok (.iload_n 2, 1) := by decide +kernel
theorem dX10_ticketsOf_106 : decode cX10_ticketsOf 106 = .ok (.ireturn, 1) := by decide +kernel
theorem dX10_isBelow_0 : decode cX10_isBelow 0 = .ok (.iload_n 1, 1) := by decide +kernel
theorem dX10_isBelow_1 : decode cX10_isBelow 1 = .ok (.istore_n 3, 1) := by decide +kernel
theorem dX10_isBelow_2 : decode cX10_isBelow 2 = .ok (.iload_n 3, 1) := by decide +kernel
theorem dX10_isBelow_3 : decode cX10_isBelow 3 = .ok (.iconst (-1), 1) := by decide +kernel
theorem dX10_isBelow_4 : decode cX10_isBelow 4 = .ok (.if_icmp .eq 21, 3) := by decide +kernel
theorem dX10_isBelow_7 : decode cX10_isBelow 7 = .ok (.iload_n 3, 1) := by decide +kernel
theorem dX10_isBelow_8 : decode cX10_isBelow 8 = .ok (.iload_n 2, 1) := by decide +kernel
theorem dX10_isBelow_9 : decode cX10_isBelow 9 = .ok (.if_icmp .eq 16, 3) := by decide +kernel
theorem dX10_isBelow_12 : decode cX10_isBelow 12 = .ok (.aload_n 0, 1) := by decide +kernel
theorem dX10_isBelow_13 : decode cX10_isBelow 13 = .ok (.getfield 7, 3) := by decide +kernel
theorem dX10_isBelow_16 : decode cX10_isBelow 16 = .ok (.bipush 10, 2) := by decide +kernel
theorem dX10_isBelow_18 : decode cX10_isBelow 18 = .ok (.iload_n 3, 1) := by decide +kernel
theorem dX10_isBelow_19 : decode cX10_isBelow 19 = .ok (.iadd, 1) := by decide +kernel
theorem dX10_isBelow_20 : decode cX10_isBelow 20 = .ok (.iaload, 1) := by decide +kernel
theorem dX10_isBelow_21 : decode cX10_isBelow 21 = .ok (.istore_n 3, 1) := by decide +kernel
theorem dX10_isBelow_22 : decode cX10_isBelow 22 = .ok (.goto (-20), 3) := by decide +kernel
theorem dX10_isBelow_25 : decode cX10_isBelow 25 = .ok (.iload_n 3, 1) := by decide +kernel
theorem dX10_isBelow_26 : decode cX10_isBelow 26 = .ok (.iload_n 2, 1) := by decide +kernel
theorem dX10_isBelow_27 : decode cX10_isBelow 27 = .ok (.if_icmp .ne 7, 3) := by decide +kernel
theorem dX10_isBelow_30 : decode cX10_isBelow 30 = .ok (.iconst 1, 1) := by decide +kernel
theorem dX10_isBelow_31 : decode cX10_isBelow 31 = .ok (.goto 4, 3) := by decide +kernel
theorem dX10_isBelow_34 : decode cX10_isBelow 34 = .ok (.iconst 0, 1) := by decide +kernel
theorem dX10_isBelow_35 : decode cX10_isBelow 35 = .ok (.ireturn, 1) := by decide +kernel
theorem dX10_useOf_0 : decode cX10_useOf 0 = .ok (.iconst 0, 1) := by decide +kernel
theorem dX10_useOf_1 : decode cX10_useOf 1 = .ok (.istore_n 2, 1) := by decide +kernel
theorem dX10_useOf_2 : decode cX10_useOf 2 = .ok (.iconst 0, 1) := by decide +kernel
theorem dX10_useOf_3 : decode cX10_useOf 3 = .ok (.istore_n 3, 1) := by decide +kernel
theorem dX10_useOf_4 : decode cX10_useOf 4 = .ok (.iload_n 3, 1) := by decide +kernel
theorem dX10_useOf_5 : decode cX10_useOf 5 = .ok (.aload_n 0, 1) := by decide +kernel
theorem dX10_useOf_6 : decode cX10_useOf 6 = .ok (.getfield 7, 3) := by decide +kernel
theorem dX10_useOf_9 : decode cX10_useOf 9 = .ok (.iconst 4, 1) := by decide +kernel
theorem dX10_useOf_10 : decode cX10_useOf 10 = .ok (.iaload, 1) := by decide +kernel
theorem dX10_useOf_11 : decode cX10_useOf 11 = .ok (.if_icmp .ge 42, 3) := by decide +kernel
theorem dX10_useOf_14 : decode cX10_useOf 14 = .ok (.iload_n 2, 1) := by decide +kernel
theorem dX10_useOf_15 : decode cX10_useOf 15 = .ok (.aload_n 0, 1) := by decide +kernel
theorem dX10_useOf_16 : decode cX10_useOf 16 = .ok (.iload_n 3, 1) := by decide +kernel
theorem dX10_useOf_17 : decode cX10_useOf 17 = .ok (.invokevirtual 119, 3) := by decide +kernel
theorem dX10_useOf_20 : decode cX10_useOf 20 = .ok (.ifCond .eq 24, 3) := by decide +kernel
theorem dX10_useOf_23 : decode cX10_useOf 23 = .ok (.aload_n 0, 1) := by decide +kernel
theorem dX10_useOf_24 : decode cX10_useOf 24 = .ok (.iload_n 3, 1) := by decide +kernel
theorem dX10_useOf_25 : decode cX10_useOf 25 = .ok (.iload_n 1, 1) := by decide +kernel
theorem dX10_useOf_26 : decode cX10_useOf 26 = .ok (.invokevirtual 188, 3) := by decide +kernel
theorem dX10_useOf_29 : decode cX10_useOf 29 = .ok (.ifCond .eq 15, 3) := by decide +kernel
theorem dX10_useOf_32 : decode cX10_useOf 32 = .ok (.aload_n 0, 1) := by decide +kernel
theorem dX10_useOf_33 : decode cX10_useOf 33 = .ok (.getfield 7, 3) := by decide +kernel
theorem dX10_useOf_36 : decode cX10_useOf 36 = .ok (.bipush 34, 2) := by decide +kernel
theorem dX10_useOf_38 : decode cX10_useOf 38 = .ok (.iload_n 3, 1) := by decide +kernel
theorem dX10_useOf_39 : decode cX10_useOf 39 = .ok (.iadd, 1) := by decide +kernel
theorem dX10_useOf_40 : decode cX10_useOf 40 = .ok (.iaload, 1) := by decide +kernel
theorem dX10_useOf_41 : decode cX10_useOf 41 = .ok (.goto 4, 3) := by decide +kernel
theorem dX10_useOf_44 : decode cX10_useOf 44 = .ok (.iconst 0, 1) := by decide +kernel
theorem dX10_useOf_45 : decode cX10_useOf 45 = .ok (.iadd, 1) := by decide +kernel
theorem dX10_useOf_46 : decode cX10_useOf 46 = .ok (.istore_n 2, 1) := by decide +kernel
theorem dX10_useOf_47 : decode cX10_useOf 47 = .ok (.iinc 3 1, 3) := by decide +kernel
theorem dX10_useOf_50 : decode cX10_useOf 50 = .ok (.goto (-46), 3) := by decide +kernel
theorem dX10_useOf_53 : decode cX10_useOf 53 = .ok (.iload_n 2, 1) := by decide +kernel
theorem dX10_useOf_54 : decode cX10_useOf 54 = .ok (.ireturn, 1) := by decide +kernel
theorem dX10_jobsOf_0 : decode cX10_jobsOf 0 = .ok (.iconst 0, 1) := by decide +kernel
theorem dX10_jobsOf_1 : decode cX10_jobsOf 1 = .ok (.istore_n 3, 1) := by decide +kernel
theorem dX10_jobsOf_2 : decode cX10_jobsOf 2 = .ok (.iconst 0, 1) := by decide +kernel
theorem dX10_jobsOf_3 : decode cX10_jobsOf 3 = .ok (.istore 4, 2) := by decide +kernel
theorem dX10_jobsOf_5 : decode cX10_jobsOf 5 = .ok (.iload 4, 2) := by decide +kernel
theorem dX10_jobsOf_7 : decode cX10_jobsOf 7 = .ok (.aload_n 0, 1) := by decide +kernel
theorem dX10_jobsOf_8 : decode cX10_jobsOf 8 = .ok (.getfield 7, 3) := by decide +kernel
theorem dX10_jobsOf_11 : decode cX10_jobsOf 11 = .ok (.bipush 6, 2) := by decide +kernel
theorem dX10_jobsOf_13 : decode cX10_jobsOf 13 = .ok (.iaload, 1) := by decide +kernel
theorem dX10_jobsOf_14 : decode cX10_jobsOf 14 = .ok (.if_icmp .ge 43, 3) := by decide +kernel
theorem dX10_jobsOf_17 : decode cX10_jobsOf 17 = .ok (.iload_n 3, 1) := by decide +kernel
theorem dX10_jobsOf_18 : decode cX10_jobsOf 18 = .ok (.aload_n 0, 1) := by decide +kernel
theorem dX10_jobsOf_19 : decode cX10_jobsOf 19 = .ok (.iload 4, 2) := by decide +kernel
theorem dX10_jobsOf_21 : decode cX10_jobsOf 21 = .ok (.iconst 3, 1) := by decide +kernel
theorem dX10_jobsOf_22 : decode cX10_jobsOf 22 = .ok (.invokevirtual 175, 3) := by decide +kernel
theorem dX10_jobsOf_25 : decode cX10_jobsOf 25 = .ok (.iload_n 2, 1) := by decide +kernel
theorem dX10_jobsOf_26 : decode cX10_jobsOf 26 = .ok (.if_icmp .ne 22, 3) := by decide +kernel
theorem dX10_jobsOf_29 : decode cX10_jobsOf 29 = .ok (.aload_n 0, 1) := by decide +kernel
theorem dX10_jobsOf_30 : decode cX10_jobsOf 30 = .ok (.aload_n 0, 1) := by decide +kernel
theorem dX10_jobsOf_31 : decode cX10_jobsOf 31 = .ok (.iload 4, 2) := by decide +kernel
theorem dX10_jobsOf_33 : decode cX10_jobsOf 33 = .ok (.iconst 0, 1) := by decide +kernel
theorem dX10_jobsOf_34 : decode cX10_jobsOf 34 = .ok (.invokevirtual 175, 3) := by decide +kernel
theorem dX10_jobsOf_37 : decode cX10_jobsOf 37 = .ok (.iload_n 1, 1) := by decide +kernel
theorem dX10_jobsOf_38 : decode cX10_jobsOf 38 = .ok (.invokevirtual 188, 3) := by decide +kernel
theorem dX10_jobsOf_41 : decode cX10_jobsOf 41 = .ok (.ifCond .eq 7, 3) := by decide +kernel
theorem dX10_jobsOf_44 : decode cX10_jobsOf 44 = .ok (.iconst 1, 1) := by decide +kernel
theorem dX10_jobsOf_45 : decode cX10_jobsOf 45 = .ok (.goto 4, 3) := by decide +kernel
theorem dX10_jobsOf_48 : decode cX10_jobsOf 48 = .ok (.iconst 0, 1) := by decide +kernel
theorem dX10_jobsOf_49 : decode cX10_jobsOf 49 = .ok (.iadd, 1) := by decide +kernel
theorem dX10_jobsOf_50 : decode cX10_jobsOf 50 = .ok (.istore_n 3, 1) := by decide +kernel
theorem dX10_jobsOf_51 : decode cX10_jobsOf 51 = .ok (.iinc 4 1, 3) := by decide +kernel
theorem dX10_jobsOf_54 : decode cX10_jobsOf 54 = .ok (.goto (-49), 3) := by decide +kernel
theorem dX10_jobsOf_57 : decode cX10_jobsOf 57 = .ok (.iload_n 3, 1) := by decide +kernel
theorem dX10_jobsOf_58 : decode cX10_jobsOf 58 = .ok (.ireturn, 1) := by decide +kernel
theorem dX10_user_0 : decode cX10_user 0 = .ok (.aload_n 0, 1) := by decide +kernel
theorem dX10_user_1 : decode cX10_user 1 = .ok (.aload_n 0, 1) := by decide +kernel
theorem dX10_user_2 : decode cX10_user 2 = .ok (.iload_n 1, 1) := by decide +kernel
theorem dX10_user_3 : decode cX10_user 3 = .ok (.invokevirtual 192, 3) := by decide +kernel
theorem dX10_user_6 : decode cX10_user 6 = .ok (.ifCond .ne 7, 3) := by decide +kernel
theorem dX10_user_9 : decode cX10_user 9 = .ok (.iconst 1, 1) := by decide +kernel
theorem dX10_user_10 : decode cX10_user 10 = .ok (.goto 18, 3) := by decide +kernel
theorem dX10_user_13 : decode cX10_user 13 = .ok (.iload_n 2, 1) := by decide +kernel
theorem dX10_user_14 : decode cX10_user 14 = .ok (.iconst 0, 1) := by decide +kernel
theorem dX10_user_15 : decode cX10_user 15 = .ok (.bipush 7, 2) := by decide +kernel
theorem dX10_user_17 : decode cX10_user 17 = .ok (.invokestatic 54, 3) := by decide +kernel
theorem dX10_user_20 : decode cX10_user 20 = .ok (.ifCond .eq 7, 3) := by decide +kernel
theorem dX10_user_23 : decode cX10_user 23 = .ok (.iconst 0, 1) := by decide +kernel
theorem dX10_user_24 : decode cX10_user 24 = .ok (.goto 4, 3) := by decide +kernel
theorem dX10_user_27 : decode cX10_user 27 = .ok (.iconst 2, 1) := by decide +kernel
theorem dX10_user_28 : decode cX10_user 28 = .ok (.putfield 42, 3) := by decide +kernel
theorem dX10_user_31 : decode cX10_user 31 = .ok (.aload_n 0, 1) := by decide +kernel
theorem dX10_user_32 : decode cX10_user 32 = .ok (.getfield 42, 3) := by decide +kernel
theorem dX10_user_35 : decode cX10_user 35 = .ok (.ifCond .le 5, 3) := by decide +kernel
theorem dX10_user_38 : decode cX10_user 38 = .ok (.iconst 0, 1) := by decide +kernel
theorem dX10_user_39 : decode cX10_user 39 = .ok (.ireturn, 1) := by decide +kernel
theorem dX10_user_40 : decode cX10_user 40 = .ok (.iload_n 2, 1) := by decide +kernel
theorem dX10_user_41 : decode cX10_user 41 = .ok (.tableswitch 94 0 6 #[43, 53, 63, 69, 75, 81, 87], 43) := by decide +kernel
theorem dX10_user_84 : decode cX10_user 84 = .ok (.aload_n 0, 1) := by decide +kernel
theorem dX10_user_85 : decode cX10_user 85 = .ok (.getfield 7, 3) := by decide +kernel
theorem dX10_user_88 : decode cX10_user 88 = .ok (.bipush 10, 2) := by decide +kernel
theorem dX10_user_90 : decode cX10_user 90 = .ok (.iload_n 1, 1) := by decide +kernel
theorem dX10_user_91 : decode cX10_user 91 = .ok (.iadd, 1) := by decide +kernel
theorem dX10_user_92 : decode cX10_user 92 = .ok (.iaload, 1) := by decide +kernel
theorem dX10_user_93 : decode cX10_user 93 = .ok (.ireturn, 1) := by decide +kernel
theorem dX10_user_94 : decode cX10_user 94 = .ok (.aload_n 0, 1) := by decide +kernel
theorem dX10_user_95 : decode cX10_user 95 = .ok (.getfield 7, 3) := by decide +kernel
theorem dX10_user_98 : decode cX10_user 98 = .ok (.bipush 22, 2) := by decide +kernel
theorem dX10_user_100 : decode cX10_user 100 = .ok (.iload_n 1, 1) := by decide +kernel
theorem dX10_user_101 : decode cX10_user 101 = .ok (.iadd, 1) := by decide +kernel
theorem dX10_user_102 : decode cX10_user 102 = .ok (.iaload, 1) := by decide +kernel
theorem dX10_user_103 : decode cX10_user 103 = .ok (.ireturn, 1) := by decide +kernel
theorem dX10_user_104 : decode cX10_user 104 = .ok (.aload_n 0, 1) := by decide +kernel
theorem dX10_user_105 : decode cX10_user 105 = .ok (.iload_n 1, 1) := by decide +kernel
theorem dX10_user_106 : decode cX10_user 106 = .ok (.invokevirtual 172, 3) := by decide +kernel
theorem dX10_user_109 : decode cX10_user 109 = .ok (.ireturn, 1) := by decide +kernel
theorem dX10_user_110 : decode cX10_user 110 = .ok (.aload_n 0, 1) := by decide +kernel
theorem dX10_user_111 : decode cX10_user 111 = .ok (.iload_n 1, 1) := by decide +kernel
theorem dX10_user_112 : decode cX10_user 112 = .ok (.invokevirtual 182, 3) := by decide +kernel
theorem dX10_user_115 : decode cX10_user 115 = .ok (.ireturn, 1) := by decide +kernel
theorem dX10_user_116 : decode cX10_user 116 = .ok (.aload_n 0, 1) := by decide +kernel
theorem dX10_user_117 : decode cX10_user 117 = .ok (.iload_n 1, 1) := by decide +kernel
theorem dX10_user_118 : decode cX10_user 118 = .ok (.invokevirtual 195, 3) := by decide +kernel
theorem dX10_user_121 : decode cX10_user 121 = .ok (.ireturn, 1) := by decide +kernel
theorem dX10_user_122 : decode cX10_user 122 = .ok (.aload_n 0, 1) := by decide +kernel
theorem dX10_user_123 : decode cX10_user 123 = .ok (.iload_n 1, 1) := by decide +kernel
theorem dX10_user_124 : decode cX10_user 124 = .ok (.invokevirtual 198, 3) := by decide +kernel
theorem dX10_user_127 : decode cX10_user 127 = .ok (.ireturn, 1) := by decide +kernel
theorem dX10_user_128 : decode cX10_user 128 = .ok (.aload_n 0, 1) := by decide +kernel
theorem dX10_user_129 : decode cX10_user 129 = .ok (.iload_n 1, 1) := by decide +kernel
theorem dX10_user_130 : decode cX10_user 130 = .ok (.iconst 1, 1) := by decide +kernel
theorem dX10_user_131 : decode cX10_user 131 = .ok (.invokevirtual 201, 3) := by decide +kernel
theorem dX10_user_134 : decode cX10_user 134 = .ok (.ireturn, 1) := by decide +kernel
theorem dX10_user_135 : decode cX10_user 135 = .ok (.aload_n 0, 1) := by decide +kernel
theorem dX10_user_136 : decode cX10_user 136 = .ok (.iload_n 1, 1) := by decide +kernel
theorem dX10_user_137 : decode cX10_user 137 = .ok (.iconst 0, 1) := by decide +kernel
theorem dX10_user_138 : decode cX10_user 138 = .ok (.invokevirtual 201, 3) := by decide +kernel
theorem dX10_user_141 : decode cX10_user 141 = .ok (.ireturn, 1) := by decide +kernel
theorem dX10_addUser_0 : decode cX10_addUser 0 = .ok (.aload_n 0, 1) := by decide +kernel
theorem dX10_addUser_1 : decode cX10_addUser 1 = .ok (.aload_n 0, 1) := by decide +kernel
theorem dX10_addUser_2 : decode cX10_addUser 2 = .ok (.iload_n 1, 1) := by decide +kernel
theorem dX10_addUser_3 : decode cX10_addUser 3 = .ok (.invokevirtual 192, 3) := by decide +kernel
theorem dX10_addUser_6 : decode cX10_addUser 6 = .ok (.ifCond .ne 7, 3) := by decide +kernel
theorem dX10_addUser_9 : decode cX10_addUser 9 = .ok (.iconst 1, 1) := by decide +kernel
theorem dX10_addUser_10 : decode cX10_addUser 10 = .ok (.goto 49, 3) := by decide +kernel
theorem dX10_addUser_13 : decode cX10_addUser 13 = .ok (.iload_n 2, 1) := by decide +kernel
theorem dX10_addUser_14 : decode cX10_addUser 14 = .ok (.iconst 1, 1) := by decide +kernel
theorem dX10_addUser_15 : decode cX10_addUser 15 = .ok (.bipush 99, 2) := by decide +kernel
theorem dX10_addUser_17 : decode cX10_addUser 17 = .ok (.invokestatic 54, 3) := by decide +kernel
theorem dX10_addUser_20 : decode cX10_addUser 20 = .ok (.ifCond .ne 7, 3) := by decide +kernel
theorem dX10_addUser_23 : decode cX10_addUser 23 = .ok (.iconst 2, 1) := by decide +kernel
theorem dX10_addUser_24 : decode cX10_addUser 24 = .ok (.goto 35, 3) := by decide +kernel
theorem dX10_addUser_27 : decode cX10_addUser 27 = .ok (.aload_n 0, 1) := by decide +kernel
theorem dX10_addUser_28 : decode cX10_addUser 28 = .ok (.getfield 7, 3) := by decide +kernel
theorem dX10_addUser_31 : decode cX10_addUser 31 = .ok (.iconst 4, 1) := by decide +kernel
theorem dX10_addUser_32 : decode cX10_addUser 32 = .ok (.iaload, 1) := by decide +kernel
theorem dX10_addUser_33 : decode cX10_addUser 33 = .ok (.bipush 12, 2) := by decide +kernel
theorem dX10_addUser_35 : decode cX10_addUser 35 = .ok (.if_icmp .eq 19, 3) := by decide +kernel
theorem dX10_addUser_38 : decode cX10_addUser 38 = .ok (.aload_n 0, 1) := by decide +kernel
theorem dX10_addUser_39 : decode cX10_addUser 39 = .ok (.iload_n 1, 1) := by decide +kernel
theorem dX10_addUser_40 : decode cX10_addUser 40 = .ok (.invokevirtual 108, 3) := by decide +kernel
theorem dX10_addUser_43 : decode cX10_addUser 43 = .ok (.ifCond .ne 11, 3) := by decide +kernel
theorem dX10_addUser_46 : decode cX10_addUser 46 = .ok (.aload_n 0, 1) := by decide +kernel
theorem dX10_addUser_47 : decode cX10_addUser 47 = .ok (.iload_n 1, 1) := by decide +kernel
theorem dX10_addUser_48 : decode cX10_addUser 48 = .ok (.invokevirtual 204, 3) := by decide +kernel
theorem dX10_addUser_51 : decode cX10_addUser 51 = .ok (.ifCond .eq 7, 3) := by decide +kernel
theorem dX10_addUser_54 : decode cX10_addUser 54 = .ok (.iconst 3, 1) := by decide +kernel
theorem dX10_addUser_55 : decode cX10_addUser 55 = .ok (.goto 4, 3) := by decide +kernel
theorem dX10_addUser_58 : decode cX10_addUser 58 = .ok (.iconst 0, 1) := by decide +kernel
theorem dX10_addUser_59 : decode cX10_addUser 59 = .ok (.putfield 42, 3) := by decide +kernel
theorem dX10_addUser_62 : decode cX10_addUser 62 = .ok (.aload_n 0, 1) := by decide +kernel
theorem dX10_addUser_63 : decode cX10_addUser 63 = .ok (.getfield 42, 3) := by decide +kernel
theorem dX10_addUser_66 : decode cX10_addUser 66 = .ok (.ifCond .le 5, 3) := by decide +kernel
theorem dX10_addUser_69 : decode cX10_addUser 69 = .ok (.iconst 0, 1) := by decide +kernel
theorem dX10_addUser_70 : decode cX10_addUser 70 = .ok (.ireturn, 1) := by decide +kernel
theorem dX10_addUser_71 : decode cX10_addUser 71 = .ok (.aload_n 0, 1) := by decide +kernel
theorem dX10_addUser_72 : decode cX10_addUser 72 = .ok (.invokevirtual 169, 3) := by decide +kernel
theorem dX10_addUser_75 : decode cX10_addUser 75 = .ok (.aload_n 0, 1) := by decide +kernel
theorem dX10_addUser_76 : decode cX10_addUser 76 = .ok (.iload_n 1, 1) := by decide +kernel
theorem dX10_addUser_77 : decode cX10_addUser 77 = .ok (.iload_n 2, 1) := by decide +kernel
theorem dX10_addUser_78 : decode cX10_addUser 78 = .ok (.invokevirtual 115, 3) := by decide +kernel
theorem dX10_addUser_81 : decode cX10_addUser 81 = .ok (.aload_n 0, 1) := by decide +kernel
theorem dX10_addUser_82 : decode cX10_addUser 82 = .ok (.getfield 7, 3) := by decide +kernel
theorem dX10_addUser_85 : decode cX10_addUser 85 = .ok (.iconst 4, 1) := by decide +kernel
theorem dX10_addUser_86 : decode cX10_addUser 86 = .ok (.iaload, 1) := by decide +kernel
theorem dX10_addUser_87 : decode cX10_addUser 87 = .ok (.iconst 1, 1) := by decide +kernel
theorem dX10_addUser_88 : decode cX10_addUser 88 = .ok (.isub, 1) := by decide +kernel
theorem dX10_addUser_89 : decode cX10_addUser 89 = .ok (.ireturn, 1) := by decide +kernel
theorem dX10_setShares_0 : decode cX10_setShares 0 = .ok (.aload_n 0, 1) := by decide +kernel
theorem dX10_setShares_1 : decode cX10_setShares 1 = .ok (.aload_n 0, 1) := by decide +kernel
theorem dX10_setShares_2 : decode cX10_setShares 2 = .ok (.iload_n 1, 1) := by decide +kernel
theorem dX10_setShares_3 : decode cX10_setShares 3 = .ok (.invokevirtual 192, 3) := by decide +kernel
theorem dX10_setShares_6 : decode cX10_setShares 6 = .ok (.ifCond .ne 7, 3) := by decide +kernel
theorem dX10_setShares_9 : decode cX10_setShares 9 = .ok (.iconst 1, 1) := by decide +kernel
theorem dX10_setShares_10 : decode cX10_setShares 10 = .ok (.goto 22, 3) := by decide +kernel
theorem dX10_setShares_13 : decode cX10_setShares 13 = .ok (.iload_n 2, 1) := by decide +kernel
theorem dX10_setShares_14 : decode cX10_setShares 14 = .ok (.iconst 1, 1) := by decide +kernel
theorem dX10_setShares_15 : decode cX10_setShares 15 = .ok (.bipush 99, 2) := by decide +kernel
theorem dX10_setShares_17 : decode cX10_setShares 17 = .ok (.invokestatic 54, 3) := by decide +kernel
theorem dX10_setShares_20 : decode cX10_setShares 20 = .ok (.ifCond .eq 11, 3) := by decide +kernel
theorem dX10_setShares_23 : decode cX10_setShares 23 = .ok (.iload_n 1, 1) := by decide +kernel
theorem dX10_setShares_24 : decode cX10_setShares 24 = .ok (.ifCond .le 7, 3) := by decide +kernel
theorem dX10_setShares_27 : decode cX10_setShares 27 = .ok (.iconst 0, 1) := by decide +kernel
theorem dX10_setShares_28 : decode cX10_setShares 28 = .ok (.goto 4, 3) := by decide +kernel
theorem dX10_setShares_31 : decode cX10_setShares 31 = .ok (.iconst 2, 1) := by decide +kernel
theorem dX10_setShares_32 : decode cX10_setShares 32 = .ok (.putfield 42, 3) := by decide +kernel
theorem dX10_setShares_35 : decode cX10_setShares 35 = .ok (.aload_n 0, 1) := by decide +kernel
theorem dX10_setShares_36 : decode cX10_setShares 36 = .ok (.getfield 42, 3) := by decide +kernel
theorem dX10_setShares_39 : decode cX10_setShares 39 = .ok (.ifCond .le 5, 3) := by decide +kernel
theorem dX10_setShares_42 : decode cX10_setShares 42 = .ok (.iconst 0, 1) := by decide +kernel
theorem dX10_setShares_43 : decode cX10_setShares 43 = .ok (.ireturn, 1) := by decide +kernel
theorem dX10_setShares_44 : decode cX10_setShares 44 = .ok (.aload_n 0, 1) := by decide +kernel
theorem dX10_setShares_45 : decode cX10_setShares 45 = .ok (.invokevirtual 169, 3) := by decide +kernel
theorem dX10_setShares_48 : decode cX10_setShares 48 = .ok (.aload_n 0, 1) := by decide +kernel
theorem dX10_setShares_49 : decode cX10_setShares 49 = .ok (.getfield 7, 3) := by decide +kernel
theorem dX10_setShares_52 : decode cX10_setShares 52 = .ok (.bipush 22, 2) := by decide +kernel
theorem dX10_setShares_54 : decode cX10_setShares 54 = .ok (.iload_n 1, 1) := by decide +kernel
theorem dX10_setShares_55 : decode cX10_setShares 55 = .ok (.iadd, 1) := by decide +kernel
theorem dX10_setShares_56 : decode cX10_setShares 56 = .ok (.iaload, 1) := by decide +kernel
theorem dX10_setShares_57 : decode cX10_setShares 57 = .ok (.istore_n 3, 1) := by decide +kernel
theorem dX10_setShares_58 : decode cX10_setShares 58 = .ok (.aload_n 0, 1) := by decide +kernel
theorem dX10_setShares_59 : decode cX10_setShares 59 = .ok (.getfield 7, 3) := by decide +kernel
theorem dX10_setShares_62 : decode cX10_setShares 62 = .ok (.bipush 22, 2) := by decide +kernel
theorem dX10_setShares_64 : decode cX10_setShares 64 = .ok (.iload_n 1, 1) := by decide +kernel
theorem dX10_setShares_65 : decode cX10_setShares 65 = .ok (.iadd, 1) := by decide +kernel
theorem dX10_setShares_66 : decode cX10_setShares 66 = .ok (.iload_n 2, 1) := by decide +kernel
theorem dX10_setShares_67 : decode cX10_setShares 67 = .ok (.iastore, 1) := by decide +kernel
theorem dX10_setShares_68 : decode cX10_setShares 68 = .ok (.iload_n 3, 1) := by decide +kernel
theorem dX10_setShares_69 : decode cX10_setShares 69 = .ok (.ireturn, 1) := by decide +kernel
theorem dX10_lent_0 : decode cX10_lent 0 = .ok (.aload_n 0, 1) := by decide +kernel
theorem dX10_lent_1 : decode cX10_lent 1 = .ok (.getfield 7, 3) := by decide +kernel
theorem dX10_lent_4 : decode cX10_lent 4 = .ok (.sipush 268, 3) := by decide +kernel
theorem dX10_lent_7 : decode cX10_lent 7 = .ok (.iconst 5, 1) := by decide +kernel
theorem dX10_lent_8 : decode cX10_lent 8 = .ok (.iload_n 1, 1) := by decide +kernel
theorem dX10_lent_9 : decode cX10_lent 9 = .ok (.imul, 1) := by decide +kernel
theorem dX10_lent_10 : decode cX10_lent 10 = .ok (.iadd, 1) := by decide +kernel
theorem dX10_lent_11 : decode cX10_lent 11 = .ok (.iload_n 2, 1) := by decide +kernel
theorem dX10_lent_12 : decode cX10_lent 12 = .ok (.iadd, 1) := by decide +kernel
theorem dX10_lent_13 : decode cX10_lent 13 = .ok (.iaload, 1) := by decide +kernel
theorem dX10_lent_14 : decode cX10_lent 14 = .ok (.ireturn, 1) := by decide +kernel
theorem dX10_cannotLend_0 : decode cX10_cannotLend 0 = .ok (.aload_n 0, 1) := by decide +kernel
theorem dX10_cannotLend_1 : decode cX10_cannotLend 1 = .ok (.iload_n 1, 1) := by decide +kernel
theorem dX10_cannotLend_2 : decode cX10_cannotLend 2 = .ok (.invokevirtual 119, 3) := by decide +kernel
theorem dX10_cannotLend_5 : decode cX10_cannotLend 5 = .ok (.ifCond .eq 32, 3) := by decide +kernel
theorem dX10_cannotLend_8 : decode cX10_cannotLend 8 = .ok (.aload_n 0, 1) := by decide +kernel
theorem dX10_cannotLend_9 : decode cX10_cannotLend 9 = .ok (.iload_n 2, 1) := by decide +kernel
theorem dX10_cannotLend_10 : decode cX10_cannotLend 10 = .ok (.invokevirtual 119, 3) := by decide +kernel
theorem dX10_cannotLend_13 : decode cX10_cannotLend 13 = .ok (.ifCond .eq 24, 3) := by decide +kernel
theorem dX10_cannotLend_16 : decode cX10_cannotLend 16 = .ok (.aload_n 0, 1) := by decide +kernel
theorem dX10_cannotLend_17 : decode cX10_cannotLend 17 = .ok (.getfield 7, 3) := by decide +kernel
theorem dX10_cannotLend_20 : decode cX10_cannotLend 20 = .ok (.bipush 7, 2) := by decide +kernel
theorem dX10_cannotLend_22 : decode cX10_cannotLend 22 = .ok (.iaload, 1) := by decide +kernel
theorem dX10_cannotLend_23 : decode cX10_cannotLend 23 = .ok (.bipush 8, 2) := by decide +kernel
theorem dX10_cannotLend_25 : decode cX10_cannotLend 25 = .ok (.if_icmp .eq 12, 3) := by decide +kernel
theorem dX10_cannotLend_28 : decode cX10_cannotLend 28 = .ok (.iload_n 3, 1) := by decide +kernel
theorem dX10_cannotLend_29 : decode cX10_cannotLend 29 = .ok (.aload_n 0, 1) := by decide +kernel
theorem dX10_cannotLend_30 : decode cX10_cannotLend 30 = .ok (.iload_n 1, 1) := by decide +kernel
theorem dX10_cannotLend_31 : decode cX10_cannotLend 31 = .ok (.invokevirtual 195, 3) := by decide +kernel
theorem dX10_cannotLend_34 : decode cX10_cannotLend 34 = .ok (.if_icmp .le 7, 3) := by decide +kernel
theorem dX10_cannotLend_37 : decode cX10_cannotLend 37 = .ok (.iconst 1, 1) := by decide +kernel
theorem dX10_cannotLend_38 : decode cX10_cannotLend 38 = .ok (.goto 4, 3) := by decide +kernel
theorem dX10_cannotLend_41 : decode cX10_cannotLend 41 = .ok (.iconst 0, 1) := by decide +kernel
theorem dX10_cannotLend_42 : decode cX10_cannotLend 42 = .ok (.ireturn, 1) := by decide +kernel
theorem dX10_lend_0 : decode cX10_lend 0 = .ok (.iload_n 1, 1) := by decide +kernel
theorem dX10_lend_1 : decode cX10_lend 1 = .ok (.iload_n 2, 1) := by decide +kernel
theorem dX10_lend_2 : decode cX10_lend 2 = .ok (.if_icmp .eq 28, 3) := by decide +kernel
theorem dX10_lend_5 : decode cX10_lend 5 = .ok (.iload_n 3, 1) := by decide +kernel
theorem dX10_lend_6 : decode cX10_lend 6 = .ok (.iconst 1, 1) := by decide +kernel
theorem dX10_lend_7 : decode cX10_lend 7 = .ok (.ldc 207, 2) := by decide +kernel
theorem dX10_lend_9 : decode cX10_lend 9 = .ok (.invokestatic 54, 3) := by decide +kernel
theorem dX10_lend_12 : decode cX10_lend 12 = .ok (.ifCond .eq 18, 3) := by decide +kernel
theorem dX10_lend_15 : decode cX10_lend 15 = .ok (.iload 4, 2) := by decide +kernel
theorem dX10_lend_17 : decode cX10_lend 17 = .ok (.iconst 1, 1) := by decide +kernel
theorem dX10_lend_18 : decode cX10_lend 18 = .ok (.bipush 50, 2) := by decide +kernel
theorem dX10_lend_20 : decode cX10_lend 20 = .ok (.invokestatic 54, 3) := by decide +kernel
theorem dX10_lend_23 : decode cX10_lend 23 = .ok (.ifCond .eq 7, 3) := by decide +kernel
theorem dX10_lend_26 : decode cX10_lend 26 = .ok (.iconst 1, 1) := by decide +kernel
theorem dX10_lend_27 : decode cX10_lend 27 = .ok (.goto 4, 3) := by decide +kernel
theorem dX10_lend_30 : decode cX10_lend 30 = .ok (.iconst 0, 1) := by decide +kernel
theorem dX10_lend_31 : decode cX10_lend 31 = .ok (.istore 5, 2) := by decide +kernel
theorem dX10_lend_33 : decode cX10_lend 33 = .ok (.aload_n 0, 1) := by decide +kernel
theorem dX10_lend_34 : decode cX10_lend 34 = .ok (.aload_n 0, 1) := by decide +kernel
theorem dX10_lend_35 : decode cX10_lend 35 = .ok (.iload_n 1, 1) := by decide +kernel
theorem dX10_lend_36 : decode cX10_lend 36 = .ok (.invokevirtual 192, 3) := by decide +kernel
theorem dX10_lend_39 : decode cX10_lend 39 = .ok (.ifCond .eq 11, 3) := by decide +kernel
theorem dX10_lend_42 : decode cX10_lend 42 = .ok (.aload_n 0, 1) := by decide +kernel
theorem dX10_lend_43 : decode cX10_lend 43 = .ok (.iload_n 2, 1) := by decide +kernel
theorem dX10_lend_44 : decode cX10_lend 44 = .ok (.invokevirtual 192, 3) := by decide +kernel
theorem dX10_lend_47 : decode cX10_lend 47 = .ok (.ifCond .ne 7, 3) := by decide +kernel
theorem dX10_lend_50 : decode cX10_lend 50 = .ok (.iconst 1, 1) := by decide +kernel
theorem dX10_lend_51 : decode cX10_lend 51 = .ok (.goto 27, 3) := by decide +kernel
theorem dX10_lend_54 : decode cX10_lend 54 = .ok (.iload 5, 2) := by decide +kernel
theorem dX10_lend_56 : decode cX10_lend 56 = .ok (.ifCond .ne 7, 3) := by decide +kernel
theorem dX10_lend_59 : decode cX10_lend 59 = .ok (.iconst 2, 1) := by decide +kernel
theorem dX10_lend_60 : decode cX10_lend 60 = .ok (.goto 18, 3) := by decide +kernel
theorem dX10_lend_63 : decode cX10_lend 63 = .ok (.aload_n 0, 1) := by decide +kernel
theorem dX10_lend_64 : decode cX10_lend 64 = .ok (.iload_n 1, 1) := by decide +kernel
theorem dX10_lend_65 : decode cX10_lend 65 = .ok (.iload_n 2, 1) := by decide +kernel
theorem dX10_lend_66 : decode cX10_lend 66 = .ok (.iload_n 3, 1) := by decide +kernel
theorem dX10_lend_67 : decode cX10_lend 67 = .ok (.invokevirtual 208, 3) := by decide +kernel
theorem dX10_lend_70 : decode cX10_lend 70 = .ok (.ifCond .eq 7, 3) := by decide +kernel
theorem dX10_lend_73 : decode cX10_lend 73 = .ok (.iconst 3, 1) := by decide +kernel
theorem dX10_lend_74 : decode cX10_lend 74 = .ok (.goto 4, 3) := by decide +kernel
theorem dX10_lend_77 : decode cX10_lend 77 = .ok (.iconst 0, 1) := by decide +kernel
theorem dX10_lend_78 : decode cX10_lend 78 = .ok (.putfield 42, 3) := by decide +kernel
theorem dX10_lend_81 : decode cX10_lend 81 = .ok (.aload_n 0, 1) := by decide +kernel
theorem dX10_lend_82 : decode cX10_lend 82 = .ok (.getfield 42, 3) := by decide +kernel
theorem dX10_lend_85 : decode cX10_lend 85 = .ok (.ifCond .le 5, 3) := by decide +kernel
theorem dX10_lend_88 : decode cX10_lend 88 = .ok (.iconst 0, 1) := by decide +kernel
theorem dX10_lend_89 : decode cX10_lend 89 = .ok (.ireturn, 1) := by decide +kernel
theorem dX10_lend_90 : decode cX10_lend 90 = .ok (.aload_n 0, 1) := by decide +kernel
theorem dX10_lend_91 : decode cX10_lend 91 = .ok (.invokevirtual 169, 3) := by decide +kernel
theorem dX10_lend_94 : decode cX10_lend 94 = .ok (.sipush 268, 3) := by decide +kernel
theorem dX10_lend_97 : decode cX10_lend 97 = .ok (.iconst 5, 1) := by decide +kernel
theorem dX10_lend_98 : decode cX10_lend 98 = .ok (.aload_n 0, 1) := by decide +kernel
theorem dX10_lend_99 : decode cX10_lend 99 = .ok (.getfield 7, 3) := by decide +kernel
theorem dX10_lend_102 : decode cX10_lend 102 = .ok (.bipush 7, 2) := by decide +kernel
theorem dX10_lend_104 : decode cX10_lend 104 = .ok (.iaload, 1) := by decide +kernel
theorem dX10_lend_105 : decode cX10_lend 105 = .ok (.imul, 1) := by decide +kernel
theorem dX10_lend_106 : decode cX10_lend 106 = .ok (.iadd, 1) := by decide +kernel
theorem dX10_lend_107 : decode cX10_lend 107 = .ok (.istore 6, 2) := by decide +kernel
theorem dX10_lend_109 : decode cX10_lend 109 = .ok (.aload_n 0, 1) := by decide +kernel
theorem dX10_lend_110 : decode cX10_lend 110 = .ok (.getfield 7, 3) := by decide +kernel
theorem dX10_lend_113 : decode cX10_lend 113 = .ok (.iload 6, 2) := by decide +kernel
theorem dX10_lend_115 : decode cX10_lend 115 = .ok (.iconst 0, 1) := by decide +kernel
theorem dX10_lend_116 : decode cX10_lend 116 = .ok (.iadd, 1) := by decide +kernel
theorem dX10_lend_117 : decode cX10_lend 117 = .ok (.iload_n 1, 1) := by decide +kernel
theorem dX10_lend_118 : decode cX10_lend 118 = .ok (.iastore, 1) := by decide +kernel
theorem dX10_lend_119 : decode cX10_lend 119 = .ok (.aload_n 0, 1) := by decide +kernel
theorem dX10_lend_120 : decode cX10_lend 120 = .ok (.getfield 7, 3) := by decide +kernel
theorem dX10_lend_123 : decode cX10_lend 123 = .ok (.iload 6, 2) := by decide +kernel
theorem dX10_lend_125 : decode cX10_lend 125 = .ok (.iconst 1, 1) := by decide +kernel
theorem dX10_lend_126 : decode cX10_lend 126 = .ok (.iadd, 1) := by decide +kernel
theorem dX10_lend_127 : decode cX10_lend 127 = .ok (.iload_n 2, 1) := by decide +kernel
theorem dX10_lend_128 : decode cX10_lend 128 = .ok (.iastore, 1) := by decide +kernel
theorem dX10_lend_129 : decode cX10_lend 129 = .ok (.aload_n 0, 1) := by decide +kernel
theorem dX10_lend_130 : decode cX10_lend 130 = .ok (.getfield 7, 3) := by decide +kernel
theorem dX10_lend_133 : decode cX10_lend 133 = .ok (.iload 6, 2) := by decide +kernel
theorem dX10_lend_135 : decode cX10_lend 135 = .ok (.iconst 2, 1) := by decide +kernel
theorem dX10_lend_136 : decode cX10_lend 136 = .ok (.iadd, 1) := by decide +kernel
theorem dX10_lend_137 : decode cX10_lend 137 = .ok (.iload_n 3, 1) := by decide +kernel
theorem dX10_lend_138 : decode cX10_lend 138 = .ok (.iastore, 1) := by decide +kernel
theorem dX10_lend_139 : decode cX10_lend 139 = .ok (.aload_n 0, 1) := by decide +kernel
theorem dX10_lend_140 : decode cX10_lend 140 = .ok (.getfield 7, 3) := by decide +kernel
theorem dX10_lend_143 : decode cX10_lend 143 = .ok (.iload 6, 2) := by decide +kernel
theorem dX10_lend_145 : decode cX10_lend 145 = .ok (.iconst 3, 1) := by decide +kernel
theorem dX10_lend_146 : decode cX10_lend 146 = .ok (.iadd, 1) := by decide +kernel
theorem dX10_lend_147 : decode cX10_lend 147 = .ok (.aload_n 0, 1) := by decide +kernel
theorem dX10_lend_148 : decode cX10_lend 148 = .ok (.getfield 7, 3) := by decide +kernel
theorem dX10_lend_151 : decode cX10_lend 151 = .ok (.iconst 0, 1) := by decide +kernel
theorem dX10_lend_152 : decode cX10_lend 152 = .ok (.iaload, 1) := by decide +kernel
theorem dX10_lend_153 : decode cX10_lend 153 = .ok (.iastore, 1) := by decide +kernel
theorem dX10_lend_154 : decode cX10_lend 154 = .ok (.aload_n 0, 1) := by decide +kernel
theorem dX10_lend_155 : decode cX10_lend 155 = .ok (.getfield 7, 3) := by decide +kernel
theorem dX10_lend_158 : decode cX10_lend 158 = .ok (.iload 6, 2) := by decide +kernel
theorem dX10_lend_160 : decode cX10_lend 160 = .ok (.iconst 4, 1) := by decide +kernel
theorem dX10_lend_161 : decode cX10_lend 161 = .ok (.iadd, 1) := by decide +kernel
theorem dX10_lend_162 : decode cX10_lend 162 = .ok (.iload 4, 2) := by decide +kernel
theorem dX10_lend_164 : decode cX10_lend 164 = .ok (.iastore, 1) := by decide +kernel
theorem dX10_lend_165 : decode cX10_lend 165 = .ok (.aload_n 0, 1) := by decide +kernel
theorem dX10_lend_166 : decode cX10_lend 166 = .ok (.getfield 7, 3) := by decide +kernel
theorem dX10_lend_169 : decode cX10_lend 169 = .ok (.bipush 7, 2) := by decide +kernel
theorem dX10_lend_171 : decode cX10_lend 171 = .ok (.dup2, 1) := by decide +kernel
theorem dX10_lend_172 : decode cX10_lend 172 = .ok (.iaload, 1) := by decide +kernel
theorem dX10_lend_173 : decode cX10_lend 173 = .ok (.iconst 1, 1) := by decide +kernel
theorem dX10_lend_174 : decode cX10_lend 174 = .ok (.iadd, 1) := by decide +kernel
theorem dX10_lend_175 : decode cX10_lend 175 = .ok (.iastore, 1) := by decide +kernel
theorem dX10_lend_176 : decode cX10_lend 176 = .ok (.aload_n 0, 1) := by decide +kernel
theorem dX10_lend_177 : decode cX10_lend 177 = .ok (.getfield 7, 3) := by decide +kernel
theorem dX10_lend_180 : decode cX10_lend 180 = .ok (.bipush 7, 2) := by decide +kernel
theorem dX10_lend_182 : decode cX10_lend 182 = .ok (.iaload, 1) := by decide +kernel
theorem dX10_lend_183 : decode cX10_lend 183 = .ok (.iconst 1, 1) := by decide +kernel
theorem dX10_lend_184 : decode cX10_lend 184 = .ok (.isub, 1) := by decide +kernel
theorem dX10_lend_185 : decode cX10_lend 185 = .ok (.ireturn, 1) := by decide +kernel
theorem dX10_goneAt_0 : decode cX10_goneAt 0 = .ok (.aload_n 0, 1) := by decide +kernel
theorem dX10_goneAt_1 : decode cX10_goneAt 1 = .ok (.iload_n 1, 1) := by decide +kernel
theorem dX10_goneAt_2 : decode cX10_goneAt 2 = .ok (.iconst 3, 1) := by decide +kernel
theorem dX10_goneAt_3 : decode cX10_goneAt 3 = .ok (.invokevirtual 178, 3) := by decide +kernel
theorem dX10_goneAt_6 : decode cX10_goneAt 6 = .ok (.iconst 2, 1) := by decide +kernel
theorem dX10_goneAt_7 : decode cX10_goneAt 7 = .ok (.aload_n 0, 1) := by decide +kernel
theorem dX10_goneAt_8 : decode cX10_goneAt 8 = .ok (.iload_n 1, 1) := by decide +kernel
theorem dX10_goneAt_9 : decode cX10_goneAt 9 = .ok (.iconst 4, 1) := by decide +kernel
theorem dX10_goneAt_10 : decode cX10_goneAt 10 = .ok (.invokevirtual 178, 3) := by decide +kernel
theorem dX10_goneAt_13 : decode cX10_goneAt 13 = .ok (.imul, 1) := by decide +kernel
theorem dX10_goneAt_14 : decode cX10_goneAt 14 = .ok (.iadd, 1) := by decide +kernel
theorem dX10_goneAt_15 : decode cX10_goneAt 15 = .ok (.ireturn, 1) := by decide +kernel
theorem dX10_loan_0 : decode cX10_loan 0 = .ok (.aload_n 0, 1) := by decide +kernel
theorem dX10_loan_1 : decode cX10_loan 1 = .ok (.iload_n 1, 1) := by decide +kernel
theorem dX10_loan_2 : decode cX10_loan 2 = .ok (.iconst 0, 1) := by decide +kernel
theorem dX10_loan_3 : decode cX10_loan 3 = .ok (.aload_n 0, 1) := by decide +kernel
theorem dX10_loan_4 : decode cX10_loan 4 = .ok (.getfield 7, 3) := by decide +kernel
theorem dX10_loan_7 : decode cX10_loan 7 = .ok (.bipush 7, 2) := by decide +kernel
theorem dX10_loan_9 : decode cX10_loan 9 = .ok (.iaload, 1) := by decide +kernel
theorem dX10_loan_10 : decode cX10_loan 10 = .ok (.iconst 1, 1) := by decide +kernel
theorem dX10_loan_11 : decode cX10_loan 11 = .ok (.isub, 1) := by decide +kernel
theorem dX10_loan_12 : decode cX10_loan 12 = .ok (.invokestatic 54, 3) := by decide +kernel
theorem dX10_loan_15 : decode cX10_loan 15 = .ok (.ifCond .ne 7, 3) := by decide +kernel
theorem dX10_loan_18 : decode cX10_loan 18 = .ok (.iconst 1, 1) := by decide +kernel
theorem dX10_loan_19 : decode cX10_loan 19 = .ok (.goto 17, 3) := by decide +kernel
theorem dX10_loan_22 : decode cX10_loan 22 = .ok (.iload_n 2, 1) := by decide +kernel
theorem dX10_loan_23 : decode cX10_loan 23 = .ok (.iconst 0, 1) := by decide +kernel
theorem dX10_loan_24 : decode cX10_loan 24 = .ok (.iconst 4, 1) := by decide +kernel
theorem dX10_loan_25 : decode cX10_loan 25 = .ok (.invokestatic 54, 3) := by decide +kernel
theorem dX10_loan_28 : decode cX10_loan 28 = .ok (.ifCond .eq 7, 3) := by decide +kernel
theorem dX10_loan_31 : decode cX10_loan 31 = .ok (.iconst 0, 1) := by decide +kernel
theorem dX10_loan_32 : decode cX10_loan 32 = .ok (.goto 4, 3) := by decide +kernel
theorem dX10_loan_35 : decode cX10_loan 35 = .ok (.iconst 2, 1) := by decide +kernel
theorem dX10_loan_36 : decode cX10_loan 36 = .ok (.putfield 42, 3) := by decide +kernel
theorem dX10_loan_39 : decode cX10_loan 39 = .ok (.aload_n 0, 1) := by decide +kernel
theorem dX10_loan_40 : decode cX10_loan 40 = .ok (.getfield 42, 3) := by decide +kernel
theorem dX10_loan_43 : decode cX10_loan 43 = .ok (.ifCond .le 5, 3) := by decide +kernel
theorem dX10_loan_46 : decode cX10_loan 46 = .ok (.iconst 0, 1) := by decide +kernel
theorem dX10_loan_47 : decode cX10_loan 47 = .ok (.ireturn, 1) := by decide +kernel
theorem dX10_loan_48 : decode cX10_loan 48 = .ok (.iload_n 2, 1) := by decide +kernel
theorem dX10_loan_49 : decode cX10_loan 49 = .ok (.iconst 3, 1) := by decide +kernel
theorem dX10_loan_50 : decode cX10_loan 50 = .ok (.if_icmp .ge 12, 3) := by decide +kernel
theorem dX10_loan_53 : decode cX10_loan 53 = .ok (.aload_n 0, 1) := by decide +kernel
theorem dX10_loan_54 : decode cX10_loan 54 = .ok (.iload_n 1, 1) := by decide +kernel
theorem dX10_loan_55 : decode cX10_loan 55 = .ok (.iload_n 2, 1) := by decide +kernel
theorem dX10_loan_56 : decode cX10_loan 56 = .ok (.invokevirtual 178, 3) := by decide +kernel
theorem dX10_loan_59 : decode cX10_loan 59 = .ok (.goto 29, 3) := by decide +kernel
theorem dX10_loan_62 : decode cX10_loan 62 = .ok (.iload_n 2, 1) := by decide +kernel
theorem dX10_loan_63 : decode cX10_loan 63 = .ok (.iconst 4, 1) := by decide +kernel
theorem dX10_loan_64 : decode cX10_loan 64 = .ok (.if_icmp .ne 11, 3) := by decide +kernel
theorem dX10_loan_67 : decode cX10_loan 67 = .ok (.aload_n 0, 1) := by decide +kernel
theorem dX10_loan_68 : decode cX10_loan 68 = .ok (.iload_n 1, 1) := by decide +kernel
theorem dX10_loan_69 : decode cX10_loan 69 = .ok (.invokevirtual 211, 3) := by decide +kernel
theorem dX10_loan_72 : decode cX10_loan 72 = .ok (.goto 16, 3) := by decide +kernel
theorem dX10_loan_75 : decode cX10_loan 75 = .ok (.aload_n 0, 1) := by decide +kernel
theorem dX10_loan_76 : decode cX10_loan 76 = .ok (.iload_n 1, 1) := by decide +kernel
theorem dX10_loan_77 : decode cX10_loan 77 = .ok (.invokevirtual 185, 3) := by decide +kernel
theorem dX10_loan_80 : decode cX10_loan 80 = .ok (.ifCond .eq 7, 3) := by decide +kernel
theorem dX10_loan_83 : decode cX10_loan 83 = .ok (.iconst 0, 1) := by decide +kernel
theorem dX10_loan_84 : decode cX10_loan 84 = .ok (.goto 4, 3) := by decide +kernel
theorem dX10_loan_87 : decode cX10_loan 87 = .ok (.iconst 1, 1) := by decide +kernel
theorem dX10_loan_88 : decode cX10_loan 88 = .ok (.ireturn, 1) := by decide +kernel
theorem dX10_endsLoans_0 : decode cX10_endsLoans 0 = .ok (.aload_n 0, 1) := by decide +kernel
theorem dX10_endsLoans_1 : decode cX10_endsLoans 1 = .ok (.getfield 7, 3) := by decide +kernel
theorem dX10_endsLoans_4 : decode cX10_endsLoans 4 = .ok (.bipush 7, 2) := by decide +kernel
theorem dX10_endsLoans_6 : decode cX10_endsLoans 6 = .ok (.iaload, 1) := by decide +kernel
theorem dX10_endsLoans_7 : decode cX10_endsLoans 7 = .ok (.iconst 1, 1) := by decide +kernel
theorem dX10_endsLoans_8 : decode cX10_endsLoans 8 = .ok (.isub, 1) := by decide +kernel
theorem dX10_endsLoans_9 : decode cX10_endsLoans 9 = .ok (.istore_n 1, 1) := by decide +kernel
theorem dX10_endsLoans_10 : decode cX10_endsLoans 10 = .ok (.iload_n 1, 1) := by decide +kernel
theorem dX10_endsLoans_11 : decode cX10_endsLoans 11 = .ok (.ifCond .lt 82, 3) := by decide +kernel
theorem dX10_endsLoans_14 : decode cX10_endsLoans 14 = .ok (.aload_n 0, 1) := by decide +kernel
theorem dX10_endsLoans_15 : decode cX10_endsLoans 15 = .ok (.getfield 7, 3) := by decide +kernel
theorem dX10_endsLoans_18 : decode cX10_endsLoans 18 = .ok (.iconst 0, 1) := by decide +kernel
theorem dX10_endsLoans_19 : decode cX10_endsLoans 19 = .ok (.iaload, 1) := by decide +kernel
theorem dX10_endsLoans_20 : decode cX10_endsLoans 20 = .ok (.aload_n 0, 1) := by decide +kernel
theorem dX10_endsLoans_21 : decode cX10_endsLoans 21 = .ok (.iload_n 1, 1) := by decide +kernel
theorem dX10_endsLoans_22 : decode cX10_endsLoans 22 = .ok (.invokevirtual 211, 3) := by decide +kernel
theorem dX10_endsLoans_25 : decode cX10_endsLoans 25 = .ok (.if_icmp .ge 6, 3) := by decide +kernel
theorem dX10_endsLoans_28 : decode cX10_endsLoans 28 = .ok (.goto 59, 3) := by decide +kernel
theorem dX10_endsLoans_31 : decode cX10_endsLoans 31 = .ok (.aload_n 0, 1) := by decide +kernel
theorem dX10_endsLoans_32 : decode cX10_endsLoans 32 = .ok (.getfield 7, 3) := by decide +kernel
theorem dX10_endsLoans_35 : decode cX10_endsLoans 35 = .ok (.bipush 7, 2) := by decide +kernel
theorem dX10_endsLoans_37 : decode cX10_endsLoans 37 = .ok (.dup2, 1) := by decide +kernel
theorem dX10_endsLoans_38 : decode cX10_endsLoans 38 = .ok (.iaload, 1) := by decide +kernel
theorem dX10_endsLoans_39 : decode cX10_endsLoans 39 = .ok (.iconst 1, 1) := by decide +kernel
theorem dX10_endsLoans_40 : decode cX10_endsLoans 40 = .ok (.isub, 1) := by decide +kernel
theorem dX10_endsLoans_41 : decode cX10_endsLoans 41 = .ok (.iastore, 1) := by decide +kernel
theorem dX10_endsLoans_42 : decode cX10_endsLoans 42 = .ok (.sipush 268, 3) := by decide +kernel
theorem dX10_endsLoans_45 : decode cX10_endsLoans 45 = .ok (.iconst 5, 1) := by decide +kernel
theorem dX10_endsLoans_46 : decode cX10_endsLoans 46 = .ok (.iload_n 1, 1) := by decide +kernel
theorem dX10_endsLoans_47 : decode cX10_endsLoans 47 = .ok (.imul, 1) := by decide +kernel
theorem dX10_endsLoans_48 : decode cX10_endsLoans 48 = .ok (.iadd, 1) := by decide +kernel
theorem dX10_endsLoans_49 : decode cX10_endsLoans 49 = .ok (.istore_n 2, 1) := by decide +kernel
theorem dX10_endsLoans_50 : decode cX10_endsLoans 50 = .ok (.iload_n 2, 1) := by decide +kernel
theorem dX10_endsLoans_51 : decode cX10_endsLoans 51 = .ok (.sipush 268, 3) := by decide +kernel
theorem dX10_endsLoans_54 : decode cX10_endsLoans 54 = .ok (.iconst 5, 1) := by decide +kernel
theorem dX10_endsLoans_55 : decode cX10_endsLoans 55 = .ok (.aload_n 0, 1) := by decide +kernel
theorem dX10_endsLoans_56 : decode cX10_endsLoans 56 = .ok (.getfield 7, 3) := by decide +kernel
theorem dX10_endsLoans_59 : decode cX10_endsLoans 59 = .ok (.bipush 7, 2) := by decide +kernel
theorem dX10_endsLoans_61 : decode cX10_endsLoans 61 = .ok (.iaload, 1) := by decide +kernel
theorem dX10_endsLoans_62 : decode cX10_endsLoans 62 = .ok (.imul, 1) := by decide +kernel
theorem dX10_endsLoans_63 : decode cX10_endsLoans 63 = .ok (.iadd, 1) := by decide +kernel
theorem dX10_endsLoans_64 : decode cX10_endsLoans 64 = .ok (.if_icmp .ge 23, 3) := by decide +kernel
theorem dX10_endsLoans_67 : decode cX10_endsLoans 67 = .ok (.aload_n 0, 1) := by decide +kernel
theorem dX10_endsLoans_68 : decode cX10_endsLoans 68 = .ok (.getfield 7, 3) := by decide +kernel
theorem dX10_endsLoans_71 : decode cX10_endsLoans 71 = .ok (.iload_n 2, 1) := by decide +kernel
theorem dX10_endsLoans_72 : decode cX10_endsLoans 72 = .ok (.aload_n 0, 1) := by decide +kernel
theorem dX10_endsLoans_73 : decode cX10_endsLoans 73 = .ok (.getfield 7, 3) := by decide +kernel
theorem dX10_endsLoans_76 : decode cX10_endsLoans 76 = .ok (.iload_n 2, 1) := by decide +kernel
theorem dX10_endsLoans_77 : decode cX10_endsLoans 77 = .ok (.iconst 5, 1) := by decide +kernel
theorem dX10_endsLoans_78 : decode cX10_endsLoans 78 = .ok (.iadd, 1) := by decide +kernel
theorem dX10_endsLoans_79 : decode cX10_endsLoans 79 = .ok (.iaload, 1) := by decide +kernel
theorem dX10_endsLoans_80 : decode cX10_endsLoans 80 = .ok (.iastore, 1) := by decide +kernel
theorem dX10_endsLoans_81 : decode cX10_endsLoans 81 = .ok (.iinc 2 1, 3) := by decide +kernel
theorem dX10_endsLoans_84 : decode cX10_endsLoans 84 = .ok (.goto (-34), 3) := by decide +kernel
theorem dX10_endsLoans_87 : decode cX10_endsLoans 87 = .ok (.iinc 1 (-1), 3) := by decide +kernel
theorem dX10_endsLoans_90 : decode cX10_endsLoans 90 = .ok (.goto (-80), 3) := by decide +kernel
theorem dX10_endsLoans_93 : decode cX10_endsLoans 93 = .ok (.return_, 1) := by decide +kernel
theorem dX10_balance_0 : decode cX10_balance 0 = .ok (.aload_n 0, 1) := by decide +kernel
theorem dX10_balance_1 : decode cX10_balance 1 = .ok (.aload_n 0, 1) := by decide +kernel
theorem dX10_balance_2 : decode cX10_balance 2 = .ok (.iload_n 1, 1) := by decide +kernel
theorem dX10_balance_3 : decode cX10_balance 3 = .ok (.invokevirtual 192, 3) := by decide +kernel
theorem dX10_balance_6 : decode cX10_balance 6 = .ok (.ifCond .eq 7, 3) := by decide +kernel
theorem dX10_balance_9 : decode cX10_balance 9 = .ok (.iconst 0, 1) := by decide +kernel
theorem dX10_balance_10 : decode cX10_balance 10 = .ok (.goto 4, 3) := by decide +kernel
theorem dX10_balance_13 : decode cX10_balance 13 = .ok (.iconst 1, 1) := by decide +kernel
theorem dX10_balance_14 : decode cX10_balance 14 = .ok (.putfield 42, 3) := by decide +kernel
theorem dX10_balance_17 : decode cX10_balance 17 = .ok (.iconst 0, 1) := by decide +kernel
theorem dX10_balance_18 : decode cX10_balance 18 = .ok (.istore_n 2, 1) := by decide +kernel
theorem dX10_balance_19 : decode cX10_balance 19 = .ok (.iconst 0, 1) := by decide +kernel
theorem dX10_balance_20 : decode cX10_balance 20 = .ok (.istore_n 3, 1) := by decide +kernel
theorem dX10_balance_21 : decode cX10_balance 21 = .ok (.iload_n 3, 1) := by decide +kernel
theorem dX10_balance_22 : decode cX10_balance 22 = .ok (.aload_n 0, 1) := by decide +kernel
theorem dX10_balance_23 : decode cX10_balance 23 = .ok (.getfield 7, 3) := by decide +kernel
theorem dX10_balance_26 : decode cX10_balance 26 = .ok (.bipush 7, 2) := by decide +kernel
theorem dX10_balance_28 : decode cX10_balance 28 = .ok (.iaload, 1) := by decide +kernel
theorem dX10_balance_29 : decode cX10_balance 29 = .ok (.if_icmp .ge 140, 3) := by decide +kernel
theorem dX10_balance_32 : decode cX10_balance 32 = .ok (.aload_n 0, 1) := by decide +kernel
theorem dX10_balance_33 : decode cX10_balance 33 = .ok (.getfield 42, 3) := by decide +kernel
theorem dX10_balance_36 : decode cX10_balance 36 = .ok (.ifCond .ne 133, 3) := by decide +kernel
theorem dX10_balance_39 : decode cX10_balance 39 = .ok (.aload_n 0, 1) := by decide +kernel
theorem dX10_balance_40 : decode cX10_balance 40 = .ok (.iload_n 3, 1) := by decide +kernel
theorem dX10_balance_41 : decode cX10_balance 41 = .ok (.iconst 3, 1) := by decide +kernel
theorem dX10_balance_42 : decode cX10_balance 42 = .ok (.invokevirtual 178, 3) := by decide +kernel
theorem dX10_balance_45 : decode cX10_balance 45 = .ok (.aload_n 0, 1) := by decide +kernel
theorem dX10_balance_46 : decode cX10_balance 46 = .ok (.iload_n 3, 1) := by decide +kernel
theorem dX10_balance_47 : decode cX10_balance 47 = .ok (.iconst 4, 1) := by decide +kernel
theorem dX10_balance_48 : decode cX10_balance 48 = .ok (.invokevirtual 178, 3) := by decide +kernel
theorem dX10_balance_51 : decode cX10_balance 51 = .ok (.iadd, 1) := by decide +kernel
theorem dX10_balance_52 : decode cX10_balance 52 = .ok (.istore 4, 2) := by decide +kernel
theorem dX10_balance_54 : decode cX10_balance 54 = .ok (.aload_n 0, 1) := by decide +kernel
theorem dX10_balance_55 : decode cX10_balance 55 = .ok (.getfield 7, 3) := by decide +kernel
theorem dX10_balance_58 : decode cX10_balance 58 = .ok (.iconst 0, 1) := by decide +kernel
theorem dX10_balance_59 : decode cX10_balance 59 = .ok (.iaload, 1) := by decide +kernel
theorem dX10_balance_60 : decode cX10_balance 60 = .ok (.iload 4, 2) := by decide +kernel
theorem dX10_balance_62 : decode cX10_balance 62 = .ok (.if_icmp .ge 15, 3) := by decide +kernel
theorem dX10_balance_65 : decode cX10_balance 65 = .ok (.iload 4, 2) := by decide +kernel
theorem dX10_balance_67 : decode cX10_balance 67 = .ok (.aload_n 0, 1) := by decide +kernel
theorem dX10_balance_68 : decode cX10_balance 68 = .ok (.getfield 7, 3) := by decide +kernel
theorem dX10_balance_71 : decode cX10_balance 71 = .ok (.iconst 0, 1) := by decide +kernel
theorem dX10_balance_72 : decode cX10_balance 72 = .ok (.iaload, 1) := by decide +kernel
theorem dX10_balance_73 : decode cX10_balance 73 = .ok (.isub, 1) := by decide +kernel
theorem dX10_balance_74 : decode cX10_balance 74 = .ok (.goto 4, 3) := by decide +kernel
theorem dX10_balance_77 : decode cX10_balance 77 = .ok (.iconst 0, 1) := by decide +kernel
theorem dX10_balance_78 : decode cX10_balance 78 = .ok (.istore 5, 2) := by decide +kernel
theorem dX10_balance_80 : decode cX10_balance 80 = .ok (.aload_n 0, 1) := by decide +kernel
theorem dX10_balance_81 : decode cX10_balance 81 = .ok (.getfield 7, 3) := by decide +kernel
theorem dX10_balance_84 : decode cX10_balance 84 = .ok (.iconst 0, 1) := by decide +kernel
theorem dX10_balance_85 : decode cX10_balance 85 = .ok (.iaload, 1) := by decide +kernel
theorem dX10_balance_86 : decode cX10_balance 86 = .ok (.iload 4, 2) := by decide +kernel
theorem dX10_balance_88 : decode cX10_balance 88 = .ok (.if_icmp .ge 12, 3) := by decide +kernel
theorem dX10_balance_91 : decode cX10_balance 91 = .ok (.aload_n 0, 1) := by decide +kernel
theorem dX10_balance_92 : decode cX10_balance 92 = .ok (.iload_n 3, 1) := by decide +kernel
theorem dX10_balance_93 : decode cX10_balance 93 = .ok (.iconst 4, 1) := by decide +kernel
theorem dX10_balance_94 : decode cX10_balance 94 = .ok (.invokevirtual 178, 3) := by decide +kernel
theorem dX10_balance_97 : decode cX10_balance 97 = .ok (.goto 15, 3) := by decide +kernel
theorem dX10_balance_100 : decode cX10_balance 100 = .ok (.aload_n 0, 1) := by decide +kernel
theorem dX10_balance_101 : decode cX10_balance 101 = .ok (.iload_n 3, 1) := by decide +kernel
theorem dX10_balance_102 : decode cX10_balance 102 = .ok (.invokevirtual 211, 3) := by decide +kernel
theorem dX10_balance_105 : decode cX10_balance 105 = .ok (.aload_n 0, 1) := by decide +kernel
theorem dX10_balance_106 : decode cX10_balance 106 = .ok (.getfield 7, 3) := by decide +kernel
theorem dX10_balance_109 : decode cX10_balance 109 = .ok (.iconst 0, 1) := by decide +kernel
theorem dX10_balance_110 : decode cX10_balance 110 = .ok (.iaload, 1) := by decide +kernel
theorem dX10_balance_111 : decode cX10_balance 111 = .ok (.isub, 1) := by decide +kernel
theorem dX10_balance_112 : decode cX10_balance 112 = .ok (.istore 6, 2) := by decide +kernel
theorem dX10_balance_114 : decode cX10_balance 114 = .ok (.iload 5, 2) := by decide +kernel
theorem dX10_balance_116 : decode cX10_balance 116 = .ok (.iload 6, 2) := by decide +kernel
theorem dX10_balance_118 : decode cX10_balance 118 = .ok (.isub, 1) := by decide +kernel
theorem dX10_balance_119 : decode cX10_balance 119 = .ok (.aload_n 0, 1) := by decide +kernel
theorem dX10_balance_120 : decode cX10_balance 120 = .ok (.iload_n 3, 1) := by decide +kernel
theorem dX10_balance_121 : decode cX10_balance 121 = .ok (.iconst 2, 1) := by decide +kernel
theorem dX10_balance_122 : decode cX10_balance 122 = .ok (.invokevirtual 178, 3) := by decide +kernel
theorem dX10_balance_125 : decode cX10_balance 125 = .ok (.imul, 1) := by decide +kernel
theorem dX10_balance_126 : decode cX10_balance 126 = .ok (.istore 7, 2) := by decide +kernel
theorem dX10_balance_128 : decode cX10_balance 128 = .ok (.iload_n 2, 1) := by decide +kernel
theorem dX10_balance_129 : decode cX10_balance 129 = .ok (.aload_n 0, 1) := by decide +kernel
theorem dX10_balance_130 : decode cX10_balance 130 = .ok (.iload_n 3, 1) := by decide +kernel
theorem dX10_balance_131 : decode cX10_balance 131 = .ok (.iconst 1, 1) := by decide +kernel
theorem dX10_balance_132 : decode cX10_balance 132 = .ok (.invokevirtual 178, 3) := by decide +kernel
theorem dX10_balance_135 : decode cX10_balance 135 = .ok (.iload_n 1, 1) := by decide +kernel
theorem dX10_balance_136 : decode cX10_balance 136 = .ok (.if_icmp .ne 8, 3) := by decide +kernel
theorem dX10_balance_139 : decode cX10_balance 139 = .ok (.iload 7, 2) := by decide +kernel
theorem dX10_balance_141 : decode cX10_balance 141 = .ok (.goto 20, 3) := by decide +kernel
theorem dX10_balance_144 : decode cX10_balance 144 = .ok (.aload_n 0, 1) := by decide +kernel
theorem dX10_balance_145 : decode cX10_balance 145 = .ok (.iload_n 3, 1) := by decide +kernel
theorem dX10_balance_146 : decode cX10_balance 146 = .ok (.iconst 0, 1) := by decide +kernel
theorem dX10_balance_147 : decode cX10_balance 147 = .ok (.invokevirtual 178, 3) := by decide +kernel
theorem dX10_balance_150 : decode cX10_balance 150 = .ok (.iload_n 1, 1) := by decide +kernel
theorem dX10_balance_151 : decode cX10_balance 151 = .ok (.if_icmp .ne 9, 3) := by decide +kernel
theorem dX10_balance_154 : decode cX10_balance 154 = .ok (.iload 7, 2) := by decide +kernel
theorem dX10_balance_156 : decode cX10_balance 156 = .ok (.ineg, 1) := by decide +kernel
theorem dX10_balance_157 : decode cX10_balance 157 = .ok (.goto 4, 3) := by decide +kernel
theorem dX10_balance_160 : decode cX10_balance 160 = .ok (.iconst 0, 1) := by decide +kernel
theorem dX10_balance_161 : decode cX10_balance 161 = .ok (.iadd, 1) := by decide +kernel
theorem dX10_balance_162 : decode cX10_balance 162 = .ok (.istore_n 2, 1) := by decide +kernel
theorem dX10_balance_163 : decode cX10_balance 163 = .ok (.iinc 3 1, 3) := by decide +kernel
theorem dX10_balance_166 : decode cX10_balance 166 = .ok (.goto (-145), 3) := by decide +kernel
theorem dX10_balance_169 : decode cX10_balance 169 = .ok (.iload_n 2, 1) := by decide +kernel
theorem dX10_balance_170 : decode cX10_balance 170 = .ok (.ireturn, 1) := by decide +kernel
theorem dX10_worksTickets_0 : decode cX10_worksTickets 0 = .ok (.iconst 0, 1) := by decide +kernel
theorem dX10_worksTickets_1 : decode cX10_worksTickets 1 = .ok (.istore_n 1, 1) := by decide +kernel
theorem dX10_worksTickets_2 : decode cX10_worksTickets 2 = .ok (.iload_n 1, 1) := by decide +kernel
theorem dX10_worksTickets_3 : decode cX10_worksTickets 3 = .ok (.aload_n 0, 1) := by decide +kernel
theorem dX10_worksTickets_4 : decode cX10_worksTickets 4 = .ok (.getfield 7, 3) := by decide +kernel
theorem dX10_worksTickets_7 : decode cX10_worksTickets 7 = .ok (.iconst 4, 1) := by decide +kernel
theorem dX10_worksTickets_8 : decode cX10_worksTickets 8 = .ok (.iaload, 1) := by decide +kernel
theorem dX10_worksTickets_9 : decode cX10_worksTickets 9 = .ok (.if_icmp .ge 20, 3) := by decide +kernel
theorem dX10_worksTickets_12 : decode cX10_worksTickets 12 = .ok (.aload_n 0, 1) := by decide +kernel
theorem dX10_worksTickets_13 : decode cX10_worksTickets 13 = .ok (.getfield 29, 3) := by decide +kernel
theorem dX10_worksTickets_16 : decode cX10_worksTickets 16 = .ok (.iload_n 1, 1) := by decide +kernel
theorem dX10_worksTickets_17 : decode cX10_worksTickets 17 = .ok (.aload_n 0, 1) := by decide +kernel
theorem dX10_worksTickets_18 : decode cX10_worksTickets 18 = .ok (.iload_n 1, 1) := by decide +kernel
theorem dX10_worksTickets_19 : decode cX10_worksTickets 19 = .ok (.invokevirtual 195, 3) := by decide +kernel
theorem dX10_worksTickets_22 : decode cX10_worksTickets 22 = .ok (.iastore, 1) := by decide +kernel
theorem dX10_worksTickets_23 : decode cX10_worksTickets 23 = .ok (.iinc 1 1, 3) := by decide +kernel
theorem dX10_worksTickets_26 : decode cX10_worksTickets 26 = .ok (.goto (-24), 3) := by decide +kernel
theorem dX10_worksTickets_29 : decode cX10_worksTickets 29 = .ok (.return_, 1) := by decide +kernel
theorem dX10_worthOf_0 : decode cX10_worthOf 0 = .ok (.aload_n 0, 1) := by decide +kernel
theorem dX10_worthOf_1 : decode cX10_worthOf 1 = .ok (.getfield 29, 3) := by decide +kernel
theorem dX10_worthOf_4 : decode cX10_worthOf 4 = .ok (.iload_n 1, 1) := by decide +kernel
theorem dX10_worthOf_5 : decode cX10_worthOf 5 = .ok (.iaload, 1) := by decide +kernel
theorem dX10_worthOf_6 : decode cX10_worthOf 6 = .ok (.i2l, 1) := by decide +kernel
theorem dX10_worthOf_7 : decode cX10_worthOf 7 = .ok (.ldc2_w 214, 3) := by decide +kernel
theorem dX10_worthOf_10 : decode cX10_worthOf 10 = .ok (.lmul, 1) := by decide +kernel
theorem dX10_worthOf_11 : decode cX10_worthOf 11 = .ok (.ldc2_w 214, 3) := by decide +kernel
theorem dX10_worthOf_14 : decode cX10_worthOf 14 = .ok (.aload_n 0, 1) := by decide +kernel
theorem dX10_worthOf_15 : decode cX10_worthOf 15 = .ok (.getfield 7, 3) := by decide +kernel
theorem dX10_worthOf_18 : decode cX10_worthOf 18 = .ok (.bipush 34, 2) := by decide +kernel
theorem dX10_worthOf_20 : decode cX10_worthOf 20 = .ok (.iload_n 1, 1) := by decide +kernel
theorem dX10_worthOf_21 : decode cX10_worthOf 21 = .ok (.iadd, 1) := by decide +kernel
theorem dX10_worthOf_22 : decode cX10_worthOf 22 = .ok (.iaload, 1) := by decide +kernel
theorem dX10_worthOf_23 : decode cX10_worthOf 23 = .ok (.i2l, 1) := by decide +kernel
theorem dX10_worthOf_24 : decode cX10_worthOf 24 = .ok (.ladd, 1) := by decide +kernel
theorem dX10_worthOf_25 : decode cX10_worthOf 25 = .ok (.iload_n 2, 1) := by decide +kernel
theorem dX10_worthOf_26 : decode cX10_worthOf 26 = .ok (.i2l, 1) := by decide +kernel
theorem dX10_worthOf_27 : decode cX10_worthOf 27 = .ok (.lmul, 1) := by decide +kernel
theorem dX10_worthOf_28 : decode cX10_worthOf 28 = .ok (.ldiv, 1) := by decide +kernel
theorem dX10_worthOf_29 : decode cX10_worthOf 29 = .ok (.lreturn, 1) := by decide +kernel
theorem dX10_loadOf_0 : decode cX10_loadOf 0 = .ok (.iconst 0, 1) := by decide +kernel
theorem dX10_loadOf_1 : decode cX10_loadOf 1 = .ok (.istore_n 2, 1) := by decide +kernel
theorem dX10_loadOf_2 : decode cX10_loadOf 2 = .ok (.iconst 0, 1) := by decide +kernel
theorem dX10_loadOf_3 : decode cX10_loadOf 3 = .ok (.istore_n 3, 1) := by decide +kernel
theorem dX10_loadOf_4 : decode cX10_loadOf 4 = .ok (.iload_n 3, 1) := by decide +kernel
theorem dX10_loadOf_5 : decode cX10_loadOf 5 = .ok (.aload_n 0, 1) := by decide +kernel
theorem dX10_loadOf_6 : decode cX10_loadOf 6 = .ok (.getfield 7, 3) := by decide +kernel
theorem dX10_loadOf_9 : decode cX10_loadOf 9 = .ok (.bipush 6, 2) := by decide +kernel
theorem dX10_loadOf_11 : decode cX10_loadOf 11 = .ok (.iaload, 1) := by decide +kernel
theorem dX10_loadOf_12 : decode cX10_loadOf 12 = .ok (.if_icmp .ge 37, 3) := by decide +kernel
theorem dX10_loadOf_15 : decode cX10_loadOf 15 = .ok (.iload_n 2, 1) := by decide +kernel
theorem dX10_loadOf_16 : decode cX10_loadOf 16 = .ok (.aload_n 0, 1) := by decide +kernel
theorem dX10_loadOf_17 : decode cX10_loadOf 17 = .ok (.iload_n 3, 1) := by decide +kernel
theorem dX10_loadOf_18 : decode cX10_loadOf 18 = .ok (.iconst 3, 1) := by decide +kernel
theorem dX10_loadOf_19 : decode cX10_loadOf 19 = .ok (.invokevirtual 175, 3) := by decide +kernel
theorem dX10_loadOf_22 : decode cX10_loadOf 22 = .ok (.iconst 1, 1) := by decide +kernel
theorem dX10_loadOf_23 : decode cX10_loadOf 23 = .ok (.if_icmp .ne 17, 3) := by decide +kernel
theorem dX10_loadOf_26 : decode cX10_loadOf 26 = .ok (.aload_n 0, 1) := by decide +kernel
theorem dX10_loadOf_27 : decode cX10_loadOf 27 = .ok (.iload_n 3, 1) := by decide +kernel
theorem dX10_loadOf_28 : decode cX10_loadOf 28 = .ok (.iconst 0, 1) := by decide +kernel
theorem dX10_loadOf_29 : decode cX10_loadOf 29 = .ok (.invokevirtual 175, 3) := by decide +kernel
theorem dX10_loadOf_32 : decode cX10_loadOf 32 = .ok (.iload_n 1, 1) := by decide +kernel
theorem dX10_loadOf_33 : decode cX10_loadOf 33 = .ok (.if_icmp .ne 7, 3) := by decide +kernel
theorem dX10_loadOf_36 : decode cX10_loadOf 36 = .ok (.iconst 1, 1) := by decide +kernel
theorem dX10_loadOf_37 : decode cX10_loadOf 37 = .ok (.goto 4, 3) := by decide +kernel
theorem dX10_loadOf_40 : decode cX10_loadOf 40 = .ok (.iconst 0, 1) := by decide +kernel
theorem dX10_loadOf_41 : decode cX10_loadOf 41 = .ok (.iadd, 1) := by decide +kernel
theorem dX10_loadOf_42 : decode cX10_loadOf 42 = .ok (.istore_n 2, 1) := by decide +kernel
theorem dX10_loadOf_43 : decode cX10_loadOf 43 = .ok (.iinc 3 1, 3) := by decide +kernel
theorem dX10_loadOf_46 : decode cX10_loadOf 46 = .ok (.goto (-42), 3) := by decide +kernel
theorem dX10_loadOf_49 : decode cX10_loadOf 49 = .ok (.iload_n 2, 1) := by decide +kernel
theorem dX10_loadOf_50 : decode cX10_loadOf 50 = .ok (.ireturn, 1) := by decide +kernel
theorem dX10_jobWorth_0 : decode cX10_jobWorth 0 = .ok (.aload_n 0, 1) := by decide +kernel
theorem dX10_jobWorth_1 : decode cX10_jobWorth 1 = .ok (.iload_n 1, 1) := by decide +kernel
theorem dX10_jobWorth_2 : decode cX10_jobWorth 2 = .ok (.iconst 0, 1) := by decide +kernel
theorem dX10_jobWorth_3 : decode cX10_jobWorth 3 = .ok (.invokevirtual 175, 3) := by decide +kernel
theorem dX10_jobWorth_6 : decode cX10_jobWorth 6 = .ok (.istore_n 2, 1) := by decide +kernel
theorem dX10_jobWorth_7 : decode cX10_jobWorth 7 = .ok (.aload_n 0, 1) := by decide +kernel
theorem dX10_jobWorth_8 : decode cX10_jobWorth 8 = .ok (.iload_n 2, 1) := by decide +kernel
theorem dX10_jobWorth_9 : decode cX10_jobWorth 9 = .ok (.aload_n 0, 1) := by decide +kernel
theorem dX10_jobWorth_10 : decode cX10_jobWorth 10 = .ok (.iload_n 1, 1) := by decide +kernel
theorem dX10_jobWorth_11 : decode cX10_jobWorth 11 = .ok (.iconst 3, 1) := by decide +kernel
theorem dX10_jobWorth_12 : decode cX10_jobWorth 12 = .ok (.invokevirtual 175, 3) := by decide +kernel
theorem dX10_jobWorth_15 : decode cX10_jobWorth 15 = .ok (.ifCond .ne 13, 3) := by decide +kernel
theorem dX10_jobWorth_18 : decode cX10_jobWorth 18 = .ok (.aload_n 0, 1) := by decide +kernel
theorem dX10_jobWorth_19 : decode cX10_jobWorth 19 = .ok (.iload_n 2, 1) := by decide +kernel
theorem dX10_jobWorth_20 : decode cX10_jobWorth 20 = .ok (.invokevirtual 216, 3) := by decide +kernel
theorem dX10_jobWorth_23 : decode cX10_jobWorth 23 = .ok (.iconst 1, 1) := by decide +kernel
theorem dX10_jobWorth_24 : decode cX10_jobWorth 24 = .ok (.iadd, 1) := by decide +kernel
theorem dX10_jobWorth_25 : decode cX10_jobWorth 25 = .ok (.goto 8, 3) := by decide +kernel
theorem dX10_jobWorth_28 : decode cX10_jobWorth 28 = .ok (.aload_n 0, 1) := by decide +kernel
theorem dX10_jobWorth_29 : decode cX10_jobWorth 29 = .ok (.iload_n 2, 1) := by decide +kernel
theorem dX10_jobWorth_30 : decode cX10_jobWorth 30 = .ok (.invokevirtual 216, 3) := by decide +kernel
theorem dX10_jobWorth_33 : decode cX10_jobWorth 33 = .ok (.invokevirtual 219, 3) := by decide +kernel
theorem dX10_jobWorth_36 : decode cX10_jobWorth 36 = .ok (.lreturn, 1) := by decide +kernel
theorem dX10_bestWaiting_0 : decode cX10_bestWaiting 0 = .ok (.iconst (-1), 1) := by decide +kernel
theorem dX10_bestWaiting_1 : decode cX10_bestWaiting 1 = .ok (.istore_n 1, 1) := by decide +kernel
theorem dX10_bestWaiting_2 : decode cX10_bestWaiting 2 = .ok (.lconst 0, 1) := by decide +kernel
theorem dX10_bestWaiting_3 : decode cX10_bestWaiting 3 = .ok (.lstore_n 2, 1) := by decide +kernel
theorem dX10_bestWaiting_4 : decode cX10_bestWaiting 4 = .ok (.iconst 0, 1) := by decide +kernel
theorem dX10_bestWaiting_5 : decode cX10_bestWaiting 5 = .ok (.istore 4, 2) := by decide +kernel
theorem dX10_bestWaiting_7 : decode cX10_bestWaiting 7 = .ok (.iload 4, 2) := by decide +kernel
theorem dX10_bestWaiting_9 : decode cX10_bestWaiting 9 = .ok (.aload_n 0, 1) := by decide +kernel
theorem dX10_bestWaiting_10 : decode cX10_bestWaiting 10 = .ok (.getfield 7, 3) := by decide +kernel
theorem dX10_bestWaiting_13 : decode cX10_bestWaiting 13 = .ok (.bipush 6, 2) := by decide +kernel
theorem dX10_bestWaiting_15 : decode cX10_bestWaiting 15 = .ok (.iaload, 1) := by decide +kernel
theorem dX10_bestWaiting_16 : decode cX10_bestWaiting 16 = .ok (.if_icmp .ge 51, 3) := by decide +kernel
theorem dX10_bestWaiting_19 : decode cX10_bestWaiting 19 = .ok (.aload_n 0, 1) := by decide +kernel
theorem dX10_bestWaiting_20 : decode cX10_bestWaiting 20 = .ok (.iload 4, 2) := by decide +kernel
theorem dX10_bestWaiting_22 : decode cX10_bestWaiting 22 = .ok (.iconst 3, 1) := by decide +kernel
theorem dX10_bestWaiting_23 : decode cX10_bestWaiting 23 = .ok (.invokevirtual 175, 3) := by decide +kernel
theorem dX10_bestWaiting_26 : decode cX10_bestWaiting 26 = .ok (.ifCond .eq 6, 3) := by decide +kernel
theorem dX10_bestWaiting_29 : decode cX10_bestWaiting 29 = .ok (.goto 32, 3) := by decide +kernel
theorem dX10_bestWaiting_32 : decode cX10_bestWaiting 32 = .ok (.aload_n 0, 1) := by decide +kernel
theorem dX10_bestWaiting_33 : decode cX10_bestWaiting 33 = .ok (.iload 4, 2) := by decide +kernel
theorem dX10_bestWaiting_35 : decode cX10_bestWaiting 35 = .ok (.invokevirtual 223, 3) := by decide +kernel
theorem dX10_bestWaiting_38 : decode cX10_bestWaiting 38 = .ok (.lstore 5, 2) := by decide +kernel
theorem dX10_bestWaiting_40 : decode cX10_bestWaiting 40 = .ok (.iload_n 1, 1) := by decide +kernel
theorem dX10_bestWaiting_41 : decode cX10_bestWaiting 41 = .ok (.iconst (-1), 1) := by decide +kernel
theorem dX10_bestWaiting_42 : decode cX10_bestWaiting 42 = .ok (.if_icmp .eq 13, 3) := by decide +kernel
theorem dX10_bestWaiting_45 : decode cX10_bestWaiting 45 = .ok (.lload 5, 2) := by decide +kernel
theorem dX10_bestWaiting_47 : decode cX10_bestWaiting 47 = .ok (.lload_n 2, 1) := by decide +kernel
theorem dX10_bestWaiting_48 : decode cX10_bestWaiting 48 = .ok (.lcmp, 1) := by decide +kernel
theorem dX10_bestWaiting_49 : decode cX10_bestWaiting 49 = .ok (.ifCond .gt 6, 3) := by decide +kernel
theorem dX10_bestWaiting_52 : decode cX10_bestWaiting 52 = .ok (.goto 9, 3) := by decide +kernel
theorem dX10_bestWaiting_55 : decode cX10_bestWaiting 55 = .ok (.iload 4, 2) := by decide +kernel
theorem dX10_bestWaiting_57 : decode cX10_bestWaiting 57 = .ok (.istore_n 1, 1) := by decide +kernel
theorem dX10_bestWaiting_58 : decode cX10_bestWaiting 58 = .ok (.lload 5, 2) := by decide +kernel
theorem dX10_bestWaiting_60 : decode cX10_bestWaiting 60 = .ok (.lstore_n 2, 1) := by decide +kernel
theorem dX10_bestWaiting_61 : decode cX10_bestWaiting 61 = .ok (.iinc 4 1, 3) := by decide +kernel
theorem dX10_bestWaiting_64 : decode cX10_bestWaiting 64 = .ok (.goto (-57), 3) := by decide +kernel
theorem dX10_bestWaiting_67 : decode cX10_bestWaiting 67 = .ok (.iload_n 1, 1) := by decide +kernel
theorem dX10_bestWaiting_68 : decode cX10_bestWaiting 68 = .ok (.ireturn, 1) := by decide +kernel
theorem dX10_leastRunning_0 : decode cX10_leastRunning 0 = .ok (.iconst (-1), 1) := by decide +kernel
theorem dX10_leastRunning_1 : decode cX10_leastRunning 1 = .ok (.istore_n 2, 1) := by decide +kernel
theorem dX10_leastRunning_2 : decode cX10_leastRunning 2 = .ok (.lconst 0, 1) := by decide +kernel
theorem dX10_leastRunning_3 : decode cX10_leastRunning 3 = .ok (.lstore_n 3, 1) := by decide +kernel
theorem dX10_leastRunning_4 : decode cX10_leastRunning 4 = .ok (.iconst 0, 1) := by decide +kernel
theorem dX10_leastRunning_5 : decode cX10_leastRunning 5 = .ok (.istore 5, 2) := by decide +kernel
theorem dX10_leastRunning_7 : decode cX10_leastRunning 7 = .ok (.iload 5, 2) := by decide +kernel
theorem dX10_leastRunning_9 : decode cX10_leastRunning 9 = .ok (.aload_n 0, 1) := by decide +kernel
theorem dX10_leastRunning_10 : decode cX10_leastRunning 10 = .ok (.getfield 7, 3) := by decide +kernel
theorem dX10_leastRunning_13 : decode cX10_leastRunning 13 = .ok (.bipush 6, 2) := by decide +kernel
theorem dX10_leastRunning_15 : decode cX10_leastRunning 15 = .ok (.iaload, 1) := by decide +kernel
theorem dX10_leastRunning_16 : decode cX10_leastRunning 16 = .ok (.if_icmp .ge 63, 3) := by decide +kernel
theorem dX10_leastRunning_19 : decode cX10_leastRunning 19 = .ok (.aload_n 0, 1) := by decide +kernel
theorem dX10_leastRunning_20 : decode cX10_leastRunning 20 = .ok (.iload 5, 2) := by decide +kernel
theorem dX10_leastRunning_22 : decode cX10_leastRunning 22 = .ok (.iconst 3, 1) := by decide +kernel
theorem dX10_leastRunning_23 : decode cX10_leastRunning 23 = .ok (.invokevirtual 175, 3) := by decide +kernel
theorem dX10_leastRunning_26 : decode cX10_leastRunning 26 = .ok (.iconst 1, 1) := by decide +kernel
theorem dX10_leastRunning_27 : decode cX10_leastRunning 27 = .ok (.if_icmp .ne 46, 3) := by decide +kernel
theorem dX10_leastRunning_30 : decode cX10_leastRunning 30 = .ok (.aload_n 0, 1) := by decide +kernel
theorem dX10_leastRunning_31 : decode cX10_leastRunning 31 = .ok (.iload 5, 2) := by decide +kernel
theorem dX10_leastRunning_33 : decode cX10_leastRunning 33 = .ok (.iconst 4, 1) := by decide +kernel
theorem dX10_leastRunning_34 : decode cX10_leastRunning 34 = .ok (.invokevirtual 175, 3) := by decide +kernel
theorem dX10_leastRunning_37 : decode cX10_leastRunning 37 = .ok (.iload_n 1, 1) := by decide +kernel
theorem dX10_leastRunning_38 : decode cX10_leastRunning 38 = .ok (.if_icmp .eq 6, 3) := by decide +kernel
theorem dX10_leastRunning_41 : decode cX10_leastRunning 41 = .ok (.goto 32, 3) := by decide +kernel
theorem dX10_leastRunning_44 : decode cX10_leastRunning 44 = .ok (.aload_n 0, 1) := by decide +kernel
theorem dX10_leastRunning_45 : decode cX10_leastRunning 45 = .ok (.iload 5, 2) := by decide +kernel
theorem dX10_leastRunning_47 : decode cX10_leastRunning 47 = .ok (.invokevirtual 223, 3) := by decide +kernel
theorem dX10_leastRunning_50 : decode cX10_leastRunning 50 = .ok (.lstore 6, 2) := by decide +kernel
theorem dX10_leastRunning_52 : decode cX10_leastRunning 52 = .ok (.iload_n 2, 1) := by decide +kernel
theorem dX10_leastRunning_53 : decode cX10_leastRunning 53 = .ok (.iconst (-1), 1) := by decide +kernel
theorem dX10_leastRunning_54 : decode cX10_leastRunning 54 = .ok (.if_icmp .eq 13, 3) := by decide +kernel
theorem dX10_leastRunning_57 : decode cX10_leastRunning 57 = .ok (.lload 6, 2) := by decide +kernel
theorem dX10_leastRunning_59 : decode cX10_leastRunning 59 = .ok (.lload_n 3, 1) := by decide +kernel
theorem dX10_leastRunning_60 : decode cX10_leastRunning 60 = .ok (.lcmp, 1) := by decide +kernel
theorem dX10_leastRunning_61 : decode cX10_leastRunning 61 = .ok (.ifCond .le 6, 3) := by decide +kernel
theorem dX10_leastRunning_64 : decode cX10_leastRunning 64 = .ok (.goto 9, 3) := by decide +kernel
theorem dX10_leastRunning_67 : decode cX10_leastRunning 67 = .ok (.iload 5, 2) := by decide +kernel
theorem dX10_leastRunning_69 : decode cX10_leastRunning 69 = .ok (.istore_n 2, 1) := by decide +kernel
theorem dX10_leastRunning_70 : decode cX10_leastRunning 70 = .ok (.lload 6, 2) := by decide +kernel
theorem dX10_leastRunning_72 : decode cX10_leastRunning 72 = .ok (.lstore_n 3, 1) := by decide +kernel
theorem dX10_leastRunning_73 : decode cX10_leastRunning 73 = .ok (.iinc 5 1, 3) := by decide +kernel
theorem dX10_leastRunning_76 : decode cX10_leastRunning 76 = .ok (.goto (-69), 3) := by decide +kernel
theorem dX10_leastRunning_79 : decode cX10_leastRunning 79 = .ok (.iload_n 2, 1) := by decide +kernel
theorem dX10_leastRunning_80 : decode cX10_leastRunning 80 = .ok (.ireturn, 1) := by decide +kernel
theorem dX10_ranked_0 : decode cX10_ranked 0 = .ok (.aload_n 0, 1) := by decide +kernel
theorem dX10_ranked_1 : decode cX10_ranked 1 = .ok (.invokevirtual 227, 3) := by decide +kernel
theorem dX10_ranked_4 : decode cX10_ranked 4 = .ok (.lconst 0, 1) := by decide +kernel
theorem dX10_ranked_5 : decode cX10_ranked 5 = .ok (.lstore_n 2, 1) := by decide +kernel
theorem dX10_ranked_6 : decode cX10_ranked 6 = .ok (.iconst (-1), 1) := by decide +kernel
theorem dX10_ranked_7 : decode cX10_ranked 7 = .ok (.istore 4, 2) := by decide +kernel
theorem dX10_ranked_9 : decode cX10_ranked 9 = .ok (.aload_n 0, 1) := by decide +kernel
theorem dX10_ranked_10 : decode cX10_ranked 10 = .ok (.iload_n 1, 1) := by decide +kernel
theorem dX10_ranked_11 : decode cX10_ranked 11 = .ok (.ifCond .ge 7, 3) := by decide +kernel
theorem dX10_ranked_14 : decode cX10_ranked 14 = .ok (.iconst 1, 1) := by decide +kernel
theorem dX10_ranked_15 : decode cX10_ranked 15 = .ok (.goto 4, 3) := by decide +kernel
theorem dX10_ranked_18 : decode cX10_ranked 18 = .ok (.iconst 0, 1) := by decide +kernel
theorem dX10_ranked_19 : decode cX10_ranked 19 = .ok (.putfield 42, 3) := by decide +kernel
theorem dX10_ranked_22 : decode cX10_ranked 22 = .ok (.iconst 0, 1) := by decide +kernel
theorem dX10_ranked_23 : decode cX10_ranked 23 = .ok (.istore 5, 2) := by decide +kernel
theorem dX10_ranked_25 : decode cX10_ranked 25 = .ok (.iload 5, 2) := by decide +kernel
theorem dX10_ranked_27 : decode cX10_ranked 27 = .ok (.iload_n 1, 1) := by decide +kernel
theorem dX10_ranked_28 : decode cX10_ranked 28 = .ok (.if_icmp .gt 125, 3) := by decide +kernel
theorem dX10_ranked_31 : decode cX10_ranked 31 = .ok (.aload_n 0, 1) := by decide +kernel
theorem dX10_ranked_32 : decode cX10_ranked 32 = .ok (.getfield 42, 3) := by decide +kernel
theorem dX10_ranked_35 : decode cX10_ranked 35 = .ok (.ifCond .ne 118, 3) := by decide +kernel
theorem dX10_ranked_38 : decode cX10_ranked 38 = .ok (.iconst (-1), 1) := by decide +kernel
theorem dX10_ranked_39 : decode cX10_ranked 39 = .ok (.istore 4, 2) := by decide +kernel
theorem dX10_ranked_41 : decode cX10_ranked 41 = .ok (.iconst 0, 1) := by decide +kernel
theorem dX10_ranked_42 : decode cX10_ranked 42 = .ok (.istore 6, 2) := by decide +kernel
theorem dX10_ranked_44 : decode cX10_ranked 44 = .ok (.iload 6, 2) := by decide +kernel
theorem dX10_ranked_46 : decode cX10_ranked 46 = .ok (.aload_n 0, 1) := by decide +kernel
theorem dX10_ranked_47 : decode cX10_ranked 47 = .ok (.getfield 7, 3) := by decide +kernel
theorem dX10_ranked_50 : decode cX10_ranked 50 = .ok (.iconst 4, 1) := by decide +kernel
theorem dX10_ranked_51 : decode cX10_ranked 51 = .ok (.iaload, 1) := by decide +kernel
theorem dX10_ranked_52 : decode cX10_ranked 52 = .ok (.if_icmp .ge 74, 3) := by decide +kernel
theorem dX10_ranked_55 : decode cX10_ranked 55 = .ok (.aload_n 0, 1) := by decide +kernel
theorem dX10_ranked_56 : decode cX10_ranked 56 = .ok (.iload 6, 2) := by decide +kernel
theorem dX10_ranked_58 : decode cX10_ranked 58 = .ok (.invokevirtual 119, 3) := by decide +kernel
theorem dX10_ranked_61 : decode cX10_ranked 61 = .ok (.ifCond .eq 59, 3) := by decide +kernel
theorem dX10_ranked_64 : decode cX10_ranked 64 = .ok (.lload_n 2, 1) := by decide +kernel
theorem dX10_ranked_65 : decode cX10_ranked 65 = .ok (.iload 6, 2) := by decide +kernel
theorem dX10_ranked_67 : decode cX10_ranked 67 = .ok (.lshr, 1) := by decide +kernel
theorem dX10_ranked_68 : decode cX10_ranked 68 = .ok (.lconst 1, 1) := by decide +kernel
theorem dX10_ranked_69 : decode cX10_ranked 69 = .ok (.land, 1) := by decide +kernel
theorem dX10_ranked_70 : decode cX10_ranked 70 = .ok (.lconst 1, 1) := by decide +kernel
theorem dX10_ranked_71 : decode cX10_ranked 71 = .ok (.lcmp, 1) := by decide +kernel
theorem dX10_ranked_72 : decode cX10_ranked 72 = .ok (.ifCond .ne 6, 3) := by decide +kernel
theorem dX10_ranked_75 : decode cX10_ranked 75 = .ok (.goto 45, 3) := by decide +kernel
theorem dX10_ranked_78 : decode cX10_ranked 78 = .ok (.iload 4, 2) := by decide +kernel
theorem dX10_ranked_80 : decode cX10_ranked 80 = .ok (.iconst (-1), 1) := by decide +kernel
theorem dX10_ranked_81 : decode cX10_ranked 81 = .ok (.if_icmp .eq 35, 3) := by decide +kernel
theorem dX10_ranked_84 : decode cX10_ranked 84 = .ok (.aload_n 0, 1) := by decide +kernel
theorem dX10_ranked_85 : decode cX10_ranked 85 = .ok (.iload 6, 2) := by decide +kernel
theorem dX10_ranked_87 : decode cX10_ranked 87 = .ok (.aload_n 0, 1) := by decide +kernel
theorem dX10_ranked_88 : decode cX10_ranked 88 = .ok (.iload 6, 2) := by decide +kernel
theorem dX10_ranked_90 : decode cX10_ranked 90 = .ok (.invokevirtual 216, 3) := by decide +kernel
theorem dX10_ranked_93 : decode cX10_ranked 93 = .ok (.iconst 1, 1) := by decide +kernel
theorem dX10_ranked_94 : decode cX10_ranked 94 = .ok (.iadd, 1) := by decide +kernel
theorem dX10_ranked_95 : decode cX10_ranked 95 = .ok (.invokevirtual 219, 3) := by decide +kernel
theorem dX10_ranked_98 : decode cX10_ranked 98 = .ok (.aload_n 0, 1) := by decide +kernel
theorem dX10_ranked_99 : decode cX10_ranked 99 = .ok (.iload 4, 2) := by decide +kernel
theorem dX10_ranked_101 : decode cX10_ranked 101 = .ok (.aload_n 0, 1) := by decide +kernel
theorem dX10_ranked_102 : decode cX10_ranked 102 = .ok (.iload 4, 2) := by decide +kernel
theorem dX10_ranked_104 : decode cX10_ranked 104 = .ok (.invokevirtual 216, 3) := by decide +kernel
theorem dX10_ranked_107 : decode cX10_ranked 107 = .ok (.iconst 1, 1) := by decide +kernel
theorem dX10_ranked_108 : decode cX10_ranked 108 = .ok (.iadd, 1) := by decide +kernel
theorem dX10_ranked_109 : decode cX10_ranked 109 = .ok (.invokevirtual 219, 3) := by decide +kernel
theorem dX10_ranked_112 : decode cX10_ranked 112 = .ok (.lcmp, 1) := by decide +kernel
theorem dX10_ranked_113 : decode cX10_ranked 113 = .ok (.ifCond .le 7, 3) := by decide +kernel
theorem dX10_ranked_116 : decode cX10_ranked 116 = .ok (.iload 6, 2) := by decide +kernel
theorem dX10_ranked_118 : decode cX10_ranked 118 = .ok (.istore 4, 2) := by decide +kernel
theorem dX10_ranked_120 : decode cX10_ranked 120 = .ok (.iinc 6 1, 3) := by decide +kernel
theorem dX10_ranked_123 : decode cX10_ranked 123 = .ok (.goto (-79), 3) := by decide +kernel
theorem dX10_ranked_126 : decode cX10_ranked 126 = .ok (.iload 4, 2) := by decide +kernel
theorem dX10_ranked_128 : decode cX10_ranked 128 = .ok (.iconst (-1), 1) := by decide +kernel
theorem dX10_ranked_129 : decode cX10_ranked 129 = .ok (.if_icmp .ne 11, 3) := by decide +kernel
theorem dX10_ranked_132 : decode cX10_ranked 132 = .ok (.aload_n 0, 1) := by decide +kernel
theorem dX10_ranked_133 : decode cX10_ranked 133 = .ok (.iconst 1, 1) := by decide +kernel
theorem dX10_ranked_134 : decode cX10_ranked 134 = .ok (.putfield 42, 3) := by decide +kernel
theorem dX10_ranked_137 : decode cX10_ranked 137 = .ok (.goto 10, 3) := by decide +kernel
theorem dX10_ranked_140 : decode cX10_ranked 140 = .ok (.lload_n 2, 1) := by decide +kernel
theorem dX10_ranked_141 : decode cX10_ranked 141 = .ok (.lconst 1, 1) := by decide +kernel
theorem dX10_ranked_142 : decode cX10_ranked 142 = .ok (.iload 4, 2) := by decide +kernel
theorem dX10_ranked_144 : decode cX10_ranked 144 = .ok (.lshl, 1) := by decide +kernel
theorem dX10_ranked_145 : decode cX10_ranked 145 = .ok (.lor, 1) := by decide +kernel
theorem dX10_ranked_146 : decode cX10_ranked 146 = .ok (.lstore_n 2, 1) := by decide +kernel
theorem dX10_ranked_147 : decode cX10_ranked 147 = .ok (.iinc 5 1, 3) := by decide +kernel
theorem dX10_ranked_150 : decode cX10_ranked 150 = .ok (.goto (-125), 3) := by decide +kernel
theorem dX10_ranked_153 : decode cX10_ranked 153 = .ok (.aload_n 0, 1) := by decide +kernel
theorem dX10_ranked_154 : decode cX10_ranked 154 = .ok (.getfield 42, 3) := by decide +kernel
theorem dX10_ranked_157 : decode cX10_ranked 157 = .ok (.ifCond .le 7, 3) := by decide +kernel
theorem dX10_ranked_160 : decode cX10_ranked 160 = .ok (.iconst 0, 1) := by decide +kernel
theorem dX10_ranked_161 : decode cX10_ranked 161 = .ok (.goto 5, 3) := by decide +kernel
theorem dX10_ranked_164 : decode cX10_ranked 164 = .ok (.iload 4, 2) := by decide +kernel
theorem dX10_ranked_166 : decode cX10_ranked 166 = .ok (.ireturn, 1) := by decide +kernel
theorem dX10_worth_0 : decode cX10_worth 0 = .ok (.aload_n 0, 1) := by decide +kernel
theorem dX10_worth_1 : decode cX10_worth 1 = .ok (.aload_n 0, 1) := by decide +kernel
theorem dX10_worth_2 : decode cX10_worth 2 = .ok (.iload_n 1, 1) := by decide +kernel
theorem dX10_worth_3 : decode cX10_worth 3 = .ok (.invokevirtual 192, 3) := by decide +kernel
theorem dX10_worth_6 : decode cX10_worth 6 = .ok (.ifCond .ne 7, 3) := by decide +kernel
theorem dX10_worth_9 : decode cX10_worth 9 = .ok (.iconst 1, 1) := by decide +kernel
theorem dX10_worth_10 : decode cX10_worth 10 = .ok (.goto 30, 3) := by decide +kernel
theorem dX10_worth_13 : decode cX10_worth 13 = .ok (.iload_n 2, 1) := by decide +kernel
theorem dX10_worth_14 : decode cX10_worth 14 = .ok (.iconst 1, 1) := by decide +kernel
theorem dX10_worth_15 : decode cX10_worth 15 = .ok (.bipush 30, 2) := by decide +kernel
theorem dX10_worth_17 : decode cX10_worth 17 = .ok (.invokestatic 54, 3) := by decide +kernel
theorem dX10_worth_20 : decode cX10_worth 20 = .ok (.ifCond .ne 7, 3) := by decide +kernel
theorem dX10_worth_23 : decode cX10_worth 23 = .ok (.iconst 2, 1) := by decide +kernel
theorem dX10_worth_24 : decode cX10_worth 24 = .ok (.goto 16, 3) := by decide +kernel
theorem dX10_worth_27 : decode cX10_worth 27 = .ok (.aload_n 0, 1) := by decide +kernel
theorem dX10_worth_28 : decode cX10_worth 28 = .ok (.iload_n 1, 1) := by decide +kernel
theorem dX10_worth_29 : decode cX10_worth 29 = .ok (.invokevirtual 119, 3) := by decide +kernel
theorem dX10_worth_32 : decode cX10_worth 32 = .ok (.ifCond .eq 7, 3) := by decide +kernel
theorem dX10_worth_35 : decode cX10_worth 35 = .ok (.iconst 0, 1) := by decide +kernel
theorem dX10_worth_36 : decode cX10_worth 36 = .ok (.goto 4, 3) := by decide +kernel
theorem dX10_worth_39 : decode cX10_worth 39 = .ok (.iconst 3, 1) := by decide +kernel
theorem dX10_worth_40 : decode cX10_worth 40 = .ok (.putfield 42, 3) := by decide +kernel
theorem dX10_worth_43 : decode cX10_worth 43 = .ok (.aload_n 0, 1) := by decide +kernel
theorem dX10_worth_44 : decode cX10_worth 44 = .ok (.getfield 42, 3) := by decide +kernel
theorem dX10_worth_47 : decode cX10_worth 47 = .ok (.ifCond .le 5, 3) := by decide +kernel
theorem dX10_worth_50 : decode cX10_worth 50 = .ok (.lconst 0, 1) := by decide +kernel
theorem dX10_worth_51 : decode cX10_worth 51 = .ok (.lreturn, 1) := by decide +kernel
theorem dX10_worth_52 : decode cX10_worth 52 = .ok (.aload_n 0, 1) := by decide +kernel
theorem dX10_worth_53 : decode cX10_worth 53 = .ok (.invokevirtual 227, 3) := by decide +kernel
theorem dX10_worth_56 : decode cX10_worth 56 = .ok (.aload_n 0, 1) := by decide +kernel
theorem dX10_worth_57 : decode cX10_worth 57 = .ok (.iload_n 1, 1) := by decide +kernel
theorem dX10_worth_58 : decode cX10_worth 58 = .ok (.iload_n 2, 1) := by decide +kernel
theorem dX10_worth_59 : decode cX10_worth 59 = .ok (.invokevirtual 219, 3) := by decide +kernel
theorem dX10_worth_62 : decode cX10_worth 62 = .ok (.lreturn, 1) := by decide +kernel
theorem dX10_isMachine_0 : decode cX10_isMachine 0 = .ok (.iload_n 1, 1) := by decide +kernel
theorem dX10_isMachine_1 : decode cX10_isMachine 1 = .ok (.iconst 0, 1) := by decide +kernel
theorem dX10_isMachine_2 : decode cX10_isMachine 2 = .ok (.aload_n 0, 1) := by decide +kernel
theorem dX10_isMachine_3 : decode cX10_isMachine 3 = .ok (.getfield 7, 3) := by decide +kernel
theorem dX10_isMachine_6 : decode cX10_isMachine 6 = .ok (.iconst 5, 1) := by decide +kernel
theorem dX10_isMachine_7 : decode cX10_isMachine 7 = .ok (.iaload, 1) := by decide +kernel
theorem dX10_isMachine_8 : decode cX10_isMachine 8 = .ok (.iconst 1, 1) := by decide +kernel
theorem dX10_isMachine_9 : decode cX10_isMachine 9 = .ok (.isub, 1) := by decide +kernel
theorem dX10_isMachine_10 : decode cX10_isMachine 10 = .ok (.invokestatic 54, 3) := by decide +kernel
theorem dX10_isMachine_13 : decode cX10_isMachine 13 = .ok (.ireturn, 1) := by decide +kernel
theorem dX10_isJob_0 : decode cX10_isJob 0 = .ok (.iload_n 1, 1) := by decide +kernel
theorem dX10_isJob_1 : decode cX10_isJob 1 = .ok (.iconst 0, 1) := by decide +kernel
theorem dX10_isJob_2 : decode cX10_isJob 2 = .ok (.aload_n 0, 1) := by decide +kernel
theorem dX10_isJob_3 : decode cX10_isJob 3 = .ok (.getfield 7, 3) := by decide +kernel
theorem dX10_isJob_6 : decode cX10_isJob 6 = .ok (.bipush 6, 2) := by decide +kernel
theorem dX10_isJob_8 : decode cX10_isJob 8 = .ok (.iaload, 1) := by decide +kernel
theorem dX10_isJob_9 : decode cX10_isJob 9 = .ok (.iconst 1, 1) := by decide +kernel
theorem dX10_isJob_10 : decode cX10_isJob 10 = .ok (.isub, 1) := by decide +kernel
theorem dX10_isJob_11 : decode cX10_isJob 11 = .ok (.invokestatic 54, 3) := by decide +kernel
theorem dX10_isJob_14 : decode cX10_isJob 14 = .ok (.ireturn, 1) := by decide +kernel
theorem dX10_of_0 : decode cX10_of 0 = .ok (.aload_n 0, 1) := by decide +kernel
theorem dX10_of_1 : decode cX10_of 1 = .ok (.getfield 7, 3) := by decide +kernel
theorem dX10_of_4 : decode cX10_of 4 = .ok (.bipush 58, 2) := by decide +kernel
theorem dX10_of_6 : decode cX10_of 6 = .ok (.bipush 7, 2) := by decide +kernel
theorem dX10_of_8 : decode cX10_of 8 = .ok (.iload_n 1, 1) := by decide +kernel
theorem dX10_of_9 : decode cX10_of 9 = .ok (.imul, 1) := by decide +kernel
theorem dX10_of_10 : decode cX10_of 10 = .ok (.iadd, 1) := by decide +kernel
theorem dX10_of_11 : decode cX10_of 11 = .ok (.iload_n 2, 1) := by decide +kernel
theorem dX10_of_12 : decode cX10_of 12 = .ok (.iadd, 1) := by decide +kernel
theorem dX10_of_13 : decode cX10_of 13 = .ok (.iaload, 1) := by decide +kernel
theorem dX10_of_14 : decode cX10_of 14 = .ok (.ireturn, 1) := by decide +kernel
theorem dX10_lays_0 : decode cX10_lays 0 = .ok (.aload_n 0, 1) := by decide +kernel
theorem dX10_lays_1 : decode cX10_lays 1 = .ok (.getfield 7, 3) := by decide +kernel
theorem dX10_lays_4 : decode cX10_lays 4 = .ok (.bipush 58, 2) := by decide +kernel
theorem dX10_lays_6 : decode cX10_lays 6 = .ok (.bipush 7, 2) := by decide +kernel
theorem dX10_lays_8 : decode cX10_lays 8 = .ok (.iload_n 1, 1) := by decide +kernel
theorem dX10_lays_9 : decode cX10_lays 9 = .ok (.imul, 1) := by decide +kernel
theorem dX10_lays_10 : decode cX10_lays 10 = .ok (.iadd, 1) := by decide +kernel
theorem dX10_lays_11 : decode cX10_lays 11 = .ok (.iload_n 2, 1) := by decide +kernel
theorem dX10_lays_12 : decode cX10_lays 12 = .ok (.iadd, 1) := by decide +kernel
theorem dX10_lays_13 : decode cX10_lays 13 = .ok (.iload_n 3, 1) := by decide +kernel
theorem dX10_lays_14 : decode cX10_lays 14 = .ok (.iastore, 1) := by decide +kernel
theorem dX10_lays_15 : decode cX10_lays 15 = .ok (.return_, 1) := by decide +kernel
theorem dX10_runningOn_0 : decode cX10_runningOn 0 = .ok (.iconst 0, 1) := by decide +kernel
theorem dX10_runningOn_1 : decode cX10_runningOn 1 = .ok (.istore_n 2, 1) := by decide +kernel
theorem dX10_runningOn_2 : decode cX10_runningOn 2 = .ok (.iconst 0, 1) := by decide +kernel
theorem dX10_runningOn_3 : decode cX10_runningOn 3 = .ok (.istore_n 3, 1) := by decide +kernel
theorem dX10_runningOn_4 : decode cX10_runningOn 4 = .ok (.iload_n 3, 1) := by decide +kernel
theorem dX10_runningOn_5 : decode cX10_runningOn 5 = .ok (.aload_n 0, 1) := by decide +kernel
theorem dX10_runningOn_6 : decode cX10_runningOn 6 = .ok (.getfield 7, 3) := by decide +kernel
theorem dX10_runningOn_9 : decode cX10_runningOn 9 = .ok (.bipush 6, 2) := by decide +kernel
theorem dX10_runningOn_11 : decode cX10_runningOn 11 = .ok (.iaload, 1) := by decide +kernel
theorem dX10_runningOn_12 : decode cX10_runningOn 12 = .ok (.if_icmp .ge 37, 3) := by decide +kernel
theorem dX10_runningOn_15 : decode cX10_runningOn 15 = .ok (.iload_n 2, 1) := by decide +kernel
theorem dX10_runningOn_16 : decode cX10_runningOn 16 = .ok (.aload_n 0, 1) := by decide +kernel
theorem dX10_runningOn_17 : decode cX10_runningOn 17 = .ok (.iload_n 3, 1) := by decide +kernel
theorem dX10_runningOn_18 : decode cX10_runningOn 18 = .ok (.iconst 3, 1) := by decide +kernel
theorem dX10_runningOn_19 : decode cX10_runningOn 19 = .ok (.invokevirtual 175, 3) := by decide +kernel
theorem dX10_runningOn_22 : decode cX10_runningOn 22 = .ok (.iconst 1, 1) := by decide +kernel
theorem dX10_runningOn_23 : decode cX10_runningOn 23 = .ok (.if_icmp .ne 17, 3) := by decide +kernel
theorem dX10_runningOn_26 : decode cX10_runningOn 26 = .ok (.aload_n 0, 1) := by decide +kernel
theorem dX10_runningOn_27 : decode cX10_runningOn 27 = .ok (.iload_n 3, 1) := by decide +kernel
theorem dX10_runningOn_28 : decode cX10_runningOn 28 = .ok (.iconst 4, 1) := by decide +kernel
theorem dX10_runningOn_29 : decode cX10_runningOn 29 = .ok (.invokevirtual 175, 3) := by decide +kernel
theorem dX10_runningOn_32 : decode cX10_runningOn 32 = .ok (.iload_n 1, 1) := by decide +kernel
theorem dX10_runningOn_33 : decode cX10_runningOn 33 = .ok (.if_icmp .ne 7, 3) := by decide +kernel
theorem dX10_runningOn_36 : decode cX10_runningOn 36 = .ok (.iconst 1, 1) := by decide +kernel
theorem dX10_runningOn_37 : decode cX10_runningOn 37 = .ok (.goto 4, 3) := by decide +kernel
theorem dX10_runningOn_40 : decode cX10_runningOn 40 = .ok (.iconst 0, 1) := by decide +kernel
theorem dX10_runningOn_41 : decode cX10_runningOn 41 = .ok (.iadd, 1) := by decide +kernel
theorem dX10_runningOn_42 : decode cX10_runningOn 42 = .ok (.istore_n 2, 1) := by decide +kernel
theorem dX10_runningOn_43 : decode cX10_runningOn 43 = .ok (.iinc 3 1, 3) := by decide +kernel
theorem dX10_runningOn_46 : decode cX10_runningOn 46 = .ok (.goto (-42), 3) := by decide +kernel
theorem dX10_runningOn_49 : decode cX10_runningOn 49 = .ok (.iload_n 2, 1) := by decide +kernel
theorem dX10_runningOn_50 : decode cX10_runningOn 50 = .ok (.ireturn, 1) := by decide +kernel
theorem dX10_freeMachine_0 : decode cX10_freeMachine 0 = .ok (.iconst 0, 1) := by decide +kernel
theorem dX10_freeMachine_1 : decode cX10_freeMachine 1 = .ok (.istore_n 1, 1) := by decide +kernel
theorem dX10_freeMachine_2 : decode cX10_freeMachine 2 = .ok (.iload_n 1, 1) := by decide +kernel
theorem dX10_freeMachine_3 : decode cX10_freeMachine 3 = .ok (.aload_n 0, 1) := by decide +kernel
theorem dX10_freeMachine_4 : decode cX10_freeMachine 4 = .ok (.getfield 7, 3) := by decide +kernel
theorem dX10_freeMachine_7 : decode cX10_freeMachine 7 = .ok (.iconst 5, 1) := by decide +kernel
theorem dX10_freeMachine_8 : decode cX10_freeMachine 8 = .ok (.iaload, 1) := by decide +kernel
theorem dX10_freeMachine_9 : decode cX10_freeMachine 9 = .ok (.if_icmp .ge 41, 3) := by decide +kernel
theorem dX10_freeMachine_12 : decode cX10_freeMachine 12 = .ok (.aload_n 0, 1) := by decide +kernel
theorem dX10_freeMachine_13 : decode cX10_freeMachine 13 = .ok (.getfield 7, 3) := by decide +kernel
theorem dX10_freeMachine_16 : decode cX10_freeMachine 16 = .ok (.bipush 52, 2) := by decide +kernel
theorem dX10_freeMachine_18 : decode cX10_freeMachine 18 = .ok (.iload_n 1, 1) := by decide +kernel
theorem dX10_freeMachine_19 : decode cX10_freeMachine 19 = .ok (.iadd, 1) := by decide +kernel
theorem dX10_freeMachine_20 : decode cX10_freeMachine 20 = .ok (.iaload, 1) := by decide +kernel
theorem dX10_freeMachine_21 : decode cX10_freeMachine 21 = .ok (.iconst 1, 1) := by decide +kernel
theorem dX10_freeMachine_22 : decode cX10_freeMachine 22 = .ok (.if_icmp .ne 22, 3) := by decide +kernel
theorem dX10_freeMachine_25 : decode cX10_freeMachine 25 = .ok (.aload_n 0, 1) := by decide +kernel
theorem dX10_freeMachine_26 : decode cX10_freeMachine 26 = .ok (.iload_n 1, 1) := by decide +kernel
theorem dX10_freeMachine_27 : decode cX10_freeMachine 27 = .ok (.invokevirtual 230, 3) := by decide +kernel
theorem dX10_freeMachine_30 : decode cX10_freeMachine 30 = .ok (.aload_n 0, 1) := by decide +kernel
theorem dX10_freeMachine_31 : decode cX10_freeMachine 31 = .ok (.getfield 7, 3) := by decide +kernel
theorem dX10_freeMachine_34 : decode cX10_freeMachine 34 = .ok (.bipush 46, 2) := by decide +kernel
theorem dX10_freeMachine_36 : decode cX10_freeMachine 36 = .ok (.iload_n 1, 1) := by decide +kernel
theorem dX10_freeMachine_37 : decode cX10_freeMachine 37 = .ok (.iadd, 1) := by decide +kernel
theorem dX10_freeMachine_38 : decode cX10_freeMachine 38 = .ok (.iaload, 1) := by decide +kernel
theorem dX10_freeMachine_39 : decode cX10_freeMachine 39 = .ok (.if_icmp .ge 5, 3) := by decide +kernel
theorem dX10_freeMachine_42 : decode cX10_freeMachine 42 = .ok (.iload_n 1, 1) := by decide +kernel
theorem dX10_freeMachine_43 : decode cX10_freeMachine 43 = .ok (.ireturn, 1) := by decide +kernel
theorem dX10_freeMachine_44 : decode cX10_freeMachine 44 = .ok (.iinc 1 1, 3) := by decide +kernel
theorem dX10_freeMachine_47 : decode cX10_freeMachine 47 = .ok (.goto (-45), 3) := by decide +kernel
theorem dX10_freeMachine_50 : decode cX10_freeMachine 50 = .ok (.iconst (-1), 1) := by decide +kernel
theorem dX10_freeMachine_51 : decode cX10_freeMachine 51 = .ok (.ireturn, 1) := by decide +kernel
theorem dX10_freeSlots_0 : decode cX10_freeSlots 0 = .ok (.iconst 0, 1) := by decide +kernel
theorem dX10_freeSlots_1 : decode cX10_freeSlots 1 = .ok (.istore_n 1, 1) := by decide +kernel
theorem dX10_freeSlots_2 : decode cX10_freeSlots 2 = .ok (.iconst 0, 1) := by decide +kernel
theorem dX10_freeSlots_3 : decode cX10_freeSlots 3 = .ok (.istore_n 2, 1) := by decide +kernel
theorem dX10_freeSlots_4 : decode cX10_freeSlots 4 = .ok (.iload_n 2, 1) := by decide +kernel
theorem dX10_freeSlots_5 : decode cX10_freeSlots 5 = .ok (.aload_n 0, 1) := by decide +kernel
theorem dX10_freeSlots_6 : decode cX10_freeSlots 6 = .ok (.getfield 7, 3) := by decide +kernel
theorem dX10_freeSlots_9 : decode cX10_freeSlots 9 = .ok (.iconst 5, 1) := by decide +kernel
theorem dX10_freeSlots_10 : decode cX10_freeSlots 10 = .ok (.iaload, 1) := by decide +kernel
theorem dX10_freeSlots_11 : decode cX10_freeSlots 11 = .ok (.if_icmp .ge 44, 3) := by decide +kernel
theorem dX10_freeSlots_14 : decode cX10_freeSlots 14 = .ok (.iload_n 1, 1) := by decide +kernel
theorem dX10_freeSlots_15 : decode cX10_freeSlots 15 = .ok (.aload_n 0, 1) := by decide +kernel
theorem dX10_freeSlots_16 : decode cX10_freeSlots 16 = .ok (.getfield 7, 3) := by decide +kernel
theorem dX10_freeSlots_19 : decode cX10_freeSlots 19 = .ok (.bipush 52, 2) := by decide +kernel
theorem dX10_freeSlots_21 : decode cX10_freeSlots 21 = .ok (.iload_n 2, 1) := by decide +kernel
theorem dX10_freeSlots_22 : decode cX10_freeSlots 22 = .ok (.iadd, 1) := by decide +kernel
theorem dX10_freeSlots_23 : decode cX10_freeSlots 23 = .ok (.iaload, 1) := by decide +kernel
theorem dX10_freeSlots_24 : decode cX10_freeSlots 24 = .ok (.iconst 1, 1) := by decide +kernel
theorem dX10_freeSlots_25 : decode cX10_freeSlots 25 = .ok (.if_icmp .ne 21, 3) := by decide +kernel
theorem dX10_freeSlots_28 : decode cX10_freeSlots 28 = .ok (.aload_n 0, 1) := by decide +kernel
theorem dX10_freeSlots_29 : decode cX10_freeSlots 29 = .ok (.getfield 7, 3) := by decide +kernel
theorem dX10_freeSlots_32 : decode cX10_freeSlots 32 = .ok (.bipush 46, 2) := by decide +kernel
theorem dX10_freeSlots_34 : decode cX10_freeSlots 34 = .ok (.iload_n 2, 1) := by decide +kernel
theorem dX10_freeSlots_35 : decode cX10_freeSlots 35 = .ok (.iadd, 1) := by decide +kernel
theorem dX10_freeSlots_36 : decode cX10_freeSlots 36 = .ok (.iaload, 1) := by decide +kernel
theorem dX10_freeSlots_37 : decode cX10_freeSlots 37 = .ok (.aload_n 0, 1) := by decide +kernel
theorem dX10_freeSlots_38 : decode cX10_freeSlots 38 = .ok (.iload_n 2, 1) := by decide +kernel
theorem dX10_freeSlots_39 : decode cX10_freeSlots 39 = .ok (.invokevirtual 230, 3) := by decide +kernel
theorem dX10_freeSlots_42 : decode cX10_freeSlots 42 = .ok (.isub, 1) := by decide +kernel
theorem dX10_freeSlots_43 : decode cX10_freeSlots 43 = .ok (.goto 4, 3) := by decide +kernel
theorem dX10_freeSlots_46 : decode cX10_freeSlots 46 = .ok (.iconst 0, 1) := by decide +kernel
theorem dX10_freeSlots_47 : decode cX10_freeSlots 47 = .ok (.iadd, 1) := by decide +kernel
theorem dX10_freeSlots_48 : decode cX10_freeSlots 48 = .ok (.istore_n 1, 1) := by decide +kernel
theorem dX10_freeSlots_49 : decode cX10_freeSlots 49 = .ok (.iinc 2 1, 3) := by decide +kernel
theorem dX10_freeSlots_52 : decode cX10_freeSlots 52 = .ok (.goto (-48), 3) := by decide +kernel
theorem dX10_freeSlots_55 : decode cX10_freeSlots 55 = .ok (.iload_n 1, 1) := by decide +kernel
theorem dX10_freeSlots_56 : decode cX10_freeSlots 56 = .ok (.ireturn, 1) := by decide +kernel
theorem dX10_inState_0 : decode cX10_inState 0 = .ok (.iconst 0, 1) := by decide +kernel
theorem dX10_inState_1 : decode cX10_inState 1 = .ok (.istore_n 2, 1) := by decide +kernel
theorem dX10_inState_2 : decode cX10_inState 2 = .ok (.iconst 0, 1) := by decide +kernel
theorem dX10_inState_3 : decode cX10_inState 3 = .ok (.istore_n 3, 1) := by decide +kernel
theorem dX10_inState_4 : decode cX10_inState 4 = .ok (.iload_n 3, 1) := by decide +kernel
theorem dX10_inState_5 : decode cX10_inState 5 = .ok (.aload_n 0, 1) := by decide +kernel
theorem dX10_inState_6 : decode cX10_inState 6 = .ok (.getfield 7, 3) := by decide +kernel
theorem dX10_inState_9 : decode cX10_inState 9 = .ok (.bipush 6, 2) := by decide +kernel
theorem dX10_inState_11 : decode cX10_inState 11 = .ok (.iaload, 1) := by decide +kernel
theorem dX10_inState_12 : decode cX10_inState 12 = .ok (.if_icmp .ge 27, 3) := by decide +kernel
theorem dX10_inState_15 : decode cX10_inState 15 = .ok (.iload_n 2, 1) := by decide +kernel
theorem dX10_inState_16 : decode cX10_inState 16 = .ok (.aload_n 0, 1) := by decide +kernel
theorem dX10_inState_17 : decode cX10_inState 17 = .ok (.iload_n 3, 1) := by decide +kernel
theorem dX10_inState_18 : decode cX10_inState 18 = .ok (.iconst 3, 1) := by decide +kernel
theorem dX10_inState_19 : decode cX10_inState 19 = .ok (.invokevirtual 175, 3) := by decide +kernel
theorem dX10_inState_22 : decode cX10_inState 22 = .ok (.iload_n 1, 1) := by decide +kernel
theorem dX10_inState_23 : decode cX10_inState 23 = .ok (.if_icmp .ne 7, 3) := by decide +kernel
theorem dX10_inState_26 : decode cX10_inState 26 = .ok (.iconst 1, 1) := by decide +kernel
theorem dX10_inState_27 : decode cX10_inState 27 = .ok (.goto 4, 3) := by decide +kernel
theorem dX10_inState_30 : decode cX10_inState 30 = .ok (.iconst 0, 1) := by decide +kernel
theorem dX10_inState_31 : decode cX10_inState 31 = .ok (.iadd, 1) := by decide +kernel
theorem dX10_inState_32 : decode cX10_inState 32 = .ok (.istore_n 2, 1) := by decide +kernel
theorem dX10_inState_33 : decode cX10_inState 33 = .ok (.iinc 3 1, 3) := by decide +kernel
theorem dX10_inState_36 : decode cX10_inState 36 = .ok (.goto (-32), 3) := by decide +kernel
theorem dX10_inState_39 : decode cX10_inState 39 = .ok (.iload_n 2, 1) := by decide +kernel
theorem dX10_inState_40 : decode cX10_inState 40 = .ok (.ireturn, 1) := by decide +kernel
theorem dX10_runs_0 : decode cX10_runs 0 = .ok (.aload_n 0, 1) := by decide +kernel
theorem dX10_runs_1 : decode cX10_runs 1 = .ok (.iload_n 1, 1) := by decide +kernel
theorem dX10_runs_2 : decode cX10_runs 2 = .ok (.iconst 3, 1) := by decide +kernel
theorem dX10_runs_3 : decode cX10_runs 3 = .ok (.iconst 1, 1) := by decide +kernel
theorem dX10_runs_4 : decode cX10_runs 4 = .ok (.invokevirtual 233, 3) := by decide +kernel
theorem dX10_runs_7 : decode cX10_runs 7 = .ok (.aload_n 0, 1) := by decide +kernel
theorem dX10_runs_8 : decode cX10_runs 8 = .ok (.iload_n 1, 1) := by decide +kernel
theorem dX10_runs_9 : decode cX10_runs 9 = .ok (.iconst 4, 1) := by decide +kernel
theorem dX10_runs_10 : decode cX10_runs 10 = .ok (.iload_n 2, 1) := by decide +kernel
theorem dX10_runs_11 : decode cX10_runs 11 = .ok (.invokevirtual 233, 3) := by decide +kernel
theorem dX10_runs_14 : decode cX10_runs 14 = .ok (.return_, 1) := by decide +kernel
theorem dX10_interrupts_0 : decode cX10_interrupts 0 = .ok (.aload_n 0, 1) := by decide +kernel
theorem dX10_interrupts_1 : decode cX10_interrupts 1 = .ok (.iload_n 1, 1) := by decide +kernel
theorem dX10_interrupts_2 : decode cX10_interrupts 2 = .ok (.iconst 2, 1) := by decide +kernel
theorem dX10_interrupts_3 : decode cX10_interrupts 3 = .ok (.invokevirtual 175, 3) := by decide +kernel
theorem dX10_interrupts_6 : decode cX10_interrupts 6 = .ok (.aload_n 0, 1) := by decide +kernel
theorem dX10_interrupts_7 : decode cX10_interrupts 7 = .ok (.getfield 7, 3) := by decide +kernel
theorem dX10_interrupts_10 : decode cX10_interrupts 10 = .ok (.iconst 3, 1) := by decide +kernel
theorem dX10_interrupts_11 : decode cX10_interrupts 11 = .ok (.iaload, 1) := by decide +kernel
theorem dX10_interrupts_12 : decode cX10_interrupts 12 = .ok (.irem, 1) := by decide +kernel
theorem dX10_interrupts_13 : decode cX10_interrupts 13 = .ok (.istore_n 2, 1) := by decide +kernel
theorem dX10_interrupts_14 : decode cX10_interrupts 14 = .ok (.aload_n 0, 1) := by decide +kernel
theorem dX10_interrupts_15 : decode cX10_interrupts 15 = .ok (.iload_n 1, 1) := by decide +kernel
theorem dX10_interrupts_16 : decode cX10_interrupts 16 = .ok (.iconst 2, 1) := by decide +kernel
theorem dX10_interrupts_17 : decode cX10_interrupts 17 = .ok (.aload_n 0, 1) := by decide +kernel
theorem dX10_interrupts_18 : decode cX10_interrupts 18 = .ok (.iload_n 1, 1) := by decide +kernel
theorem dX10_interrupts_19 : decode cX10_interrupts 19 = .ok (.iconst 2, 1) := by decide +kernel
theorem dX10_interrupts_20 : decode cX10_interrupts 20 = .ok (.invokevirtual 175, 3) := by decide +kernel
theorem dX10_interrupts_23 : decode cX10_interrupts 23 = .ok (.iload_n 2, 1) := by decide +kernel
theorem dX10_interrupts_24 : decode cX10_interrupts 24 = .ok (.isub, 1) := by decide +kernel
theorem dX10_interrupts_25 : decode cX10_interrupts 25 = .ok (.invokevirtual 233, 3) := by decide +kernel
theorem dX10_interrupts_28 : decode cX10_interrupts 28 = .ok (.aload_n 0, 1) := by decide +kernel
theorem dX10_interrupts_29 : decode cX10_interrupts 29 = .ok (.iload_n 1, 1) := by decide +kernel
theorem dX10_interrupts_30 : decode cX10_interrupts 30 = .ok (.iconst 3, 1) := by decide +kernel
theorem dX10_interrupts_31 : decode cX10_interrupts 31 = .ok (.iconst 0, 1) := by decide +kernel
theorem dX10_interrupts_32 : decode cX10_interrupts 32 = .ok (.invokevirtual 233, 3) := by decide +kernel
theorem dX10_interrupts_35 : decode cX10_interrupts 35 = .ok (.aload_n 0, 1) := by decide +kernel
theorem dX10_interrupts_36 : decode cX10_interrupts 36 = .ok (.iload_n 1, 1) := by decide +kernel
theorem dX10_interrupts_37 : decode cX10_interrupts 37 = .ok (.iconst 4, 1) := by decide +kernel
theorem dX10_interrupts_38 : decode cX10_interrupts 38 = .ok (.iconst (-1), 1) := by decide +kernel
theorem dX10_interrupts_39 : decode cX10_interrupts 39 = .ok (.invokevirtual 233, 3) := by decide +kernel
theorem dX10_interrupts_42 : decode cX10_interrupts 42 = .ok (.aload_n 0, 1) := by decide +kernel
theorem dX10_interrupts_43 : decode cX10_interrupts 43 = .ok (.getfield 7, 3) := by decide +kernel
theorem dX10_interrupts_46 : decode cX10_interrupts 46 = .ok (.bipush 8, 2) := by decide +kernel
theorem dX10_interrupts_48 : decode cX10_interrupts 48 = .ok (.dup2, 1) := by decide +kernel
theorem dX10_interrupts_49 : decode cX10_interrupts 49 = .ok (.iaload, 1) := by decide +kernel
theorem dX10_interrupts_50 : decode cX10_interrupts 50 = .ok (.iconst 1, 1) := by decide +kernel
theorem dX10_interrupts_51 : decode cX10_interrupts 51 = .ok (.iadd, 1) := by decide +kernel
theorem dX10_interrupts_52 : decode cX10_interrupts 52 = .ok (.iastore, 1) := by decide +kernel
theorem dX10_interrupts_53 : decode cX10_interrupts 53 = .ok (.aload_n 0, 1) := by decide +kernel
theorem dX10_interrupts_54 : decode cX10_interrupts 54 = .ok (.getfield 7, 3) := by decide +kernel
theorem dX10_interrupts_57 : decode cX10_interrupts 57 = .ok (.bipush 9, 2) := by decide +kernel
theorem dX10_interrupts_59 : decode cX10_interrupts 59 = .ok (.dup2, 1) := by decide +kernel
theorem dX10_interrupts_60 : decode cX10_interrupts 60 = .ok (.iaload, 1) := by decide +kernel
theorem dX10_interrupts_61 : decode cX10_interrupts 61 = .ok (.iload_n 2, 1) := by decide +kernel
theorem dX10_interrupts_62 : decode cX10_interrupts 62 = .ok (.iadd, 1) := by decide +kernel
theorem dX10_interrupts_63 : decode cX10_interrupts 63 = .ok (.iastore, 1) := by decide +kernel
theorem dX10_interrupts_64 : decode cX10_interrupts 64 = .ok (.return_, 1) := by decide +kernel
theorem dX10_fills_0 : decode cX10_fills 0 = .ok (.aload_n 0, 1) := by decide +kernel
theorem dX10_fills_1 : decode cX10_fills 1 = .ok (.invokevirtual 227, 3) := by decide +kernel
theorem dX10_fills_4 : decode cX10_fills 4 = .ok (.aload_n 0, 1) := by decide +kernel
theorem dX10_fills_5 : decode cX10_fills 5 = .ok (.invokevirtual 237, 3) := by decide +kernel
theorem dX10_fills_8 : decode cX10_fills 8 = .ok (.istore_n 1, 1) := by decide +kernel
theorem dX10_fills_9 : decode cX10_fills 9 = .ok (.aload_n 0, 1) := by decide +kernel
theorem dX10_fills_10 : decode cX10_fills 10 = .ok (.invokevirtual 240, 3) := by decide +kernel
theorem dX10_fills_13 : decode cX10_fills 13 = .ok (.istore_n 2, 1) := by decide +kernel
theorem dX10_fills_14 : decode cX10_fills 14 = .ok (.iload_n 1, 1) := by decide +kernel
theorem dX10_fills_15 : decode cX10_fills 15 = .ok (.iconst (-1), 1) := by decide +kernel
theorem dX10_fills_16 : decode cX10_fills 16 = .ok (.if_icmp .eq 27, 3) := by decide +kernel
theorem dX10_fills_19 : decode cX10_fills 19 = .ok (.iload_n 2, 1) := by decide +kernel
theorem dX10_fills_20 : decode cX10_fills 20 = .ok (.iconst (-1), 1) := by decide +kernel
theorem dX10_fills_21 : decode cX10_fills 21 = .ok (.if_icmp .eq 22, 3) := by decide +kernel
theorem dX10_fills_24 : decode cX10_fills 24 = .ok (.aload_n 0, 1) := by decide +kernel
theorem dX10_fills_25 : decode cX10_fills 25 = .ok (.iload_n 1, 1) := by decide +kernel
theorem dX10_fills_26 : decode cX10_fills 26 = .ok (.iload_n 2, 1) := by decide +kernel
theorem dX10_fills_27 : decode cX10_fills 27 = .ok (.invokevirtual 243, 3) := by decide +kernel
theorem dX10_fills_30 : decode cX10_fills 30 = .ok (.aload_n 0, 1) := by decide +kernel
theorem dX10_fills_31 : decode cX10_fills 31 = .ok (.invokevirtual 237, 3) := by decide +kernel
theorem dX10_fills_34 : decode cX10_fills 34 = .ok (.istore_n 1, 1) := by decide +kernel
theorem dX10_fills_35 : decode cX10_fills 35 = .ok (.aload_n 0, 1) := by decide +kernel
theorem dX10_fills_36 : decode cX10_fills 36 = .ok (.invokevirtual 240, 3) := by decide +kernel
theorem dX10_fills_39 : decode cX10_fills 39 = .ok (.istore_n 2, 1) := by decide +kernel
theorem dX10_fills_40 : decode cX10_fills 40 = .ok (.goto (-26), 3) := by decide +kernel
theorem dX10_fills_43 : decode cX10_fills 43 = .ok (.return_, 1) := by decide +kernel
theorem dX10_preempts_0 : decode cX10_preempts 0 = .ok (.iconst 0, 1) := by decide +kernel
theorem dX10_preempts_1 : decode cX10_preempts 1 = .ok (.istore_n 1, 1) := by decide +kernel
theorem dX10_preempts_2 : decode cX10_preempts 2 = .ok (.iload_n 1, 1) := by decide +kernel
theorem dX10_preempts_3 : decode cX10_preempts 3 = .ok (.aload_n 0, 1) := by decide +kernel
theorem dX10_preempts_4 : decode cX10_preempts 4 = .ok (.getfield 7, 3) := by decide +kernel
theorem dX10_preempts_7 : decode cX10_preempts 7 = .ok (.iconst 5, 1) := by decide +kernel
theorem dX10_preempts_8 : decode cX10_preempts 8 = .ok (.iaload, 1) := by decide +kernel
theorem dX10_preempts_9 : decode cX10_preempts 9 = .ok (.if_icmp .ge 89, 3) := by decide +kernel
theorem dX10_preempts_12 : decode cX10_preempts 12 = .ok (.aload_n 0, 1) := by decide +kernel
theorem dX10_preempts_13 : decode cX10_preempts 13 = .ok (.getfield 7, 3) := by decide +kernel
theorem dX10_preempts_16 : decode cX10_preempts 16 = .ok (.bipush 52, 2) := by decide +kernel
theorem dX10_preempts_18 : decode cX10_preempts 18 = .ok (.iload_n 1, 1) := by decide +kernel
theorem dX10_preempts_19 : decode cX10_preempts 19 = .ok (.iadd, 1) := by decide +kernel
theorem dX10_preempts_20 : decode cX10_preempts 20 = .ok (.iaload, 1) := by decide +kernel
theorem dX10_preempts_21 : decode cX10_preempts 21 = .ok (.ifCond .ne 6, 3) := by decide +kernel
theorem dX10_preempts_24 : decode cX10_preempts 24 = .ok (.goto 68, 3) := by decide +kernel
theorem dX10_preempts_27 : decode cX10_preempts 27 = .ok (.aload_n 0, 1) := by decide +kernel
theorem dX10_preempts_28 : decode cX10_preempts 28 = .ok (.iload_n 1, 1) := by decide +kernel
theorem dX10_preempts_29 : decode cX10_preempts 29 = .ok (.invokevirtual 246, 3) := by decide +kernel
theorem dX10_preempts_32 : decode cX10_preempts 32 = .ok (.istore_n 2, 1) := by decide +kernel
theorem dX10_preempts_33 : decode cX10_preempts 33 = .ok (.aload_n 0, 1) := by decide +kernel
theorem dX10_preempts_34 : decode cX10_preempts 34 = .ok (.invokevirtual 237, 3) := by decide +kernel
theorem dX10_preempts_37 : decode cX10_preempts 37 = .ok (.istore_n 3, 1) := by decide +kernel
theorem dX10_preempts_38 : decode cX10_preempts 38 = .ok (.iload_n 2, 1) := by decide +kernel
theorem dX10_preempts_39 : decode cX10_preempts 39 = .ok (.iconst (-1), 1) := by decide +kernel
theorem dX10_preempts_40 : decode cX10_preempts 40 = .ok (.if_icmp .eq 52, 3) := by decide +kernel
theorem dX10_preempts_43 : decode cX10_preempts 43 = .ok (.iload_n 3, 1) := by decide +kernel
theorem dX10_preempts_44 : decode cX10_preempts 44 = .ok (.iconst (-1), 1) := by decide +kernel
theorem dX10_preempts_45 : decode cX10_preempts 45 = .ok (.if_icmp .eq 47, 3) := by decide +kernel
theorem dX10_preempts_48 : decode cX10_preempts 48 = .ok (.ldc2_w 249, 3) := by decide +kernel
theorem dX10_preempts_51 : decode cX10_preempts 51 = .ok (.aload_n 0, 1) := by decide +kernel
theorem dX10_preempts_52 : decode cX10_preempts 52 = .ok (.iload_n 3, 1) := by decide +kernel
theorem dX10_preempts_53 : decode cX10_preempts 53 = .ok (.invokevirtual 223, 3) := by decide +kernel
theorem dX10_preempts_56 : decode cX10_preempts 56 = .ok (.lmul, 1) := by decide +kernel
theorem dX10_preempts_57 : decode cX10_preempts 57 = .ok (.ldc2_w 249, 3) := by decide +kernel
theorem dX10_preempts_60 : decode cX10_preempts 60 = .ok (.aload_n 0, 1) := by decide +kernel
theorem dX10_preempts_61 : decode cX10_preempts 61 = .ok (.getfield 7, 3) := by decide +kernel
theorem dX10_preempts_64 : decode cX10_preempts 64 = .ok (.iconst 2, 1) := by decide +kernel
theorem dX10_preempts_65 : decode cX10_preempts 65 = .ok (.iaload, 1) := by decide +kernel
theorem dX10_preempts_66 : decode cX10_preempts 66 = .ok (.i2l, 1) := by decide +kernel
theorem dX10_preempts_67 : decode cX10_preempts 67 = .ok (.ladd, 1) := by decide +kernel
theorem dX10_preempts_68 : decode cX10_preempts 68 = .ok (.aload_n 0, 1) := by decide +kernel
theorem dX10_preempts_69 : decode cX10_preempts 69 = .ok (.iload_n 2, 1) := by decide +kernel
theorem dX10_preempts_70 : decode cX10_preempts 70 = .ok (.invokevirtual 223, 3) := by decide +kernel
theorem dX10_preempts_73 : decode cX10_preempts 73 = .ok (.lmul, 1) := by decide +kernel
theorem dX10_preempts_74 : decode cX10_preempts 74 = .ok (.lcmp, 1) := by decide +kernel
theorem dX10_preempts_75 : decode cX10_preempts 75 = .ok (.ifCond .gt 6, 3) := by decide +kernel
theorem dX10_preempts_78 : decode cX10_preempts 78 = .ok (.goto 14, 3) := by decide +kernel
theorem dX10_preempts_81 : decode cX10_preempts 81 = .ok (.aload_n 0, 1) := by decide +kernel
theorem dX10_preempts_82 : decode cX10_preempts 82 = .ok (.iload_n 2, 1) := by decide +kernel
theorem dX10_preempts_83 : decode cX10_preempts 83 = .ok (.invokevirtual 251, 3) := by decide +kernel
theorem dX10_preempts_86 : decode cX10_preempts 86 = .ok (.aload_n 0, 1) := by decide +kernel
theorem dX10_preempts_87 : decode cX10_preempts 87 = .ok (.iload_n 3, 1) := by decide +kernel
theorem dX10_preempts_88 : decode cX10_preempts 88 = .ok (.iload_n 1, 1) := by decide +kernel
theorem dX10_preempts_89 : decode cX10_preempts 89 = .ok (.invokevirtual 243, 3) := by decide +kernel
theorem dX10_preempts_92 : decode cX10_preempts 92 = .ok (.iinc 1 1, 3) := by decide +kernel
theorem dX10_preempts_95 : decode cX10_preempts 95 = .ok (.goto (-93), 3) := by decide +kernel
theorem dX10_preempts_98 : decode cX10_preempts 98 = .ok (.return_, 1) := by decide +kernel
theorem dX10_machine_0 : decode cX10_machine 0 = .ok (.aload_n 0, 1) := by decide +kernel
theorem dX10_machine_1 : decode cX10_machine 1 = .ok (.aload_n 0, 1) := by decide +kernel
theorem dX10_machine_2 : decode cX10_machine 2 = .ok (.iload_n 1, 1) := by decide +kernel
theorem dX10_machine_3 : decode cX10_machine 3 = .ok (.invokevirtual 254, 3) := by decide +kernel
theorem dX10_machine_6 : decode cX10_machine 6 = .ok (.ifCond .ne 7, 3) := by decide +kernel
theorem dX10_machine_9 : decode cX10_machine 9 = .ok (.iconst 1, 1) := by decide +kernel
theorem dX10_machine_10 : decode cX10_machine 10 = .ok (.goto 17, 3) := by decide +kernel
theorem dX10_machine_13 : decode cX10_machine 13 = .ok (.iload_n 2, 1) := by decide +kernel
theorem dX10_machine_14 : decode cX10_machine 14 = .ok (.iconst 0, 1) := by decide +kernel
theorem dX10_machine_15 : decode cX10_machine 15 = .ok (.iconst 3, 1) := by decide +kernel
theorem dX10_machine_16 : decode cX10_machine 16 = .ok (.invokestatic 54, 3) := by decide +kernel
theorem dX10_machine_19 : decode cX10_machine 19 = .ok (.ifCond .eq 7, 3) := by decide +kernel
theorem dX10_machine_22 : decode cX10_machine 22 = .ok (.iconst 0, 1) := by decide +kernel
theorem dX10_machine_23 : decode cX10_machine 23 = .ok (.goto 4, 3) := by decide +kernel
theorem dX10_machine_26 : decode cX10_machine 26 = .ok (.iconst 2, 1) := by decide +kernel
theorem dX10_machine_27 : decode cX10_machine 27 = .ok (.putfield 42, 3) := by decide +kernel
theorem dX10_machine_30 : decode cX10_machine 30 = .ok (.aload_n 0, 1) := by decide +kernel
theorem dX10_machine_31 : decode cX10_machine 31 = .ok (.getfield 42, 3) := by decide +kernel
theorem dX10_machine_34 : decode cX10_machine 34 = .ok (.ifCond .le 5, 3) := by decide +kernel
theorem dX10_machine_37 : decode cX10_machine 37 = .ok (.iconst 0, 1) := by decide +kernel
theorem dX10_machine_38 : decode cX10_machine 38 = .ok (.ireturn, 1) := by decide +kernel
theorem dX10_machine_39 : decode cX10_machine 39 = .ok (.iload_n 2, 1) := by decide +kernel
theorem dX10_machine_40 : decode cX10_machine 40 = .ok (.iconst 2, 1) := by decide +kernel
theorem dX10_machine_41 : decode cX10_machine 41 = .ok (.if_icmp .ge 22, 3) := by decide +kernel
theorem dX10_machine_44 : decode cX10_machine 44 = .ok (.aload_n 0, 1) := by decide +kernel
theorem dX10_machine_45 : decode cX10_machine 45 = .ok (.getfield 7, 3) := by decide +kernel
theorem dX10_machine_48 : decode cX10_machine 48 = .ok (.iload_n 2, 1) := by decide +kernel
theorem dX10_machine_49 : decode cX10_machine 49 = .ok (.ifCond .ne 8, 3) := by decide +kernel
theorem dX10_machine_52 : decode cX10_machine 52 = .ok (.bipush 46, 2) := by decide +kernel
theorem dX10_machine_54 : decode cX10_machine 54 = .ok (.goto 5, 3) := by decide +kernel
theorem dX10_machine_57 : decode cX10_machine 57 = .ok (.bipush 52, 2) := by decide +kernel
theorem dX10_machine_59 : decode cX10_machine 59 = .ok (.iload_n 1, 1) := by decide +kernel
theorem dX10_machine_60 : decode cX10_machine 60 = .ok (.iadd, 1) := by decide +kernel
theorem dX10_machine_61 : decode cX10_machine 61 = .ok (.iaload, 1) := by decide +kernel
theorem dX10_machine_62 : decode cX10_machine 62 = .ok (.ireturn, 1) := by decide +kernel
theorem dX10_machine_63 : decode cX10_machine 63 = .ok (.aload_n 0, 1) := by decide +kernel
theorem dX10_machine_64 : decode cX10_machine 64 = .ok (.invokevirtual 227, 3) := by decide +kernel
theorem dX10_machine_67 : decode cX10_machine 67 = .ok (.iload_n 2, 1) := by decide +kernel
theorem dX10_machine_68 : decode cX10_machine 68 = .ok (.iconst 2, 1) := by decide +kernel
theorem dX10_machine_69 : decode cX10_machine 69 = .ok (.if_icmp .ne 11, 3) := by decide +kernel
theorem dX10_machine_72 : decode cX10_machine 72 = .ok (.aload_n 0, 1) := by decide +kernel
theorem dX10_machine_73 : decode cX10_machine 73 = .ok (.iload_n 1, 1) := by decide +kernel
theorem dX10_machine_74 : decode cX10_machine 74 = .ok (.invokevirtual 230, 3) := by decide +kernel
theorem dX10_machine_77 : decode cX10_machine 77 = .ok (.goto 8, 3) := by decide +kernel
theorem dX10_machine_80 : decode cX10_machine 80 = .ok (.aload_n 0, 1) := by decide +kernel
theorem dX10_machine_81 : decode cX10_machine 81 = .ok (.iload_n 1, 1) := by decide +kernel
theorem dX10_machine_82 : decode cX10_machine 82 = .ok (.invokevirtual 246, 3) := by decide +kernel
theorem dX10_machine_85 : decode cX10_machine 85 = .ok (.ireturn, 1) := by decide +kernel
theorem dX10_job_0 : decode cX10_job 0 = .ok (.aload_n 0, 1) := by decide +kernel
theorem dX10_job_1 : decode cX10_job 1 = .ok (.aload_n 0, 1) := by decide +kernel
theorem dX10_job_2 : decode cX10_job 2 = .ok (.iload_n 1, 1) := by decide +kernel
theorem dX10_job_3 : decode cX10_job 3 = .ok (.invokevirtual 257, 3) := by decide +kernel
theorem dX10_job_6 : decode cX10_job 6 = .ok (.ifCond .ne 7, 3) := by decide +kernel
theorem dX10_job_9 : decode cX10_job 9 = .ok (.iconst 1, 1) := by decide +kernel
theorem dX10_job_10 : decode cX10_job 10 = .ok (.goto 18, 3) := by decide +kernel
theorem dX10_job_13 : decode cX10_job 13 = .ok (.iload_n 2, 1) := by decide +kernel
theorem dX10_job_14 : decode cX10_job 14 = .ok (.iconst 0, 1) := by decide +kernel
theorem dX10_job_15 : decode cX10_job 15 = .ok (.bipush 6, 2) := by decide +kernel
theorem dX10_job_17 : decode cX10_job 17 = .ok (.invokestatic 54, 3) := by decide +kernel
theorem dX10_job_20 : decode cX10_job 20 = .ok (.ifCond .eq 7, 3) := by decide +kernel
theorem dX10_job_23 : decode cX10_job 23 = .ok (.iconst 0, 1) := by decide +kernel
theorem dX10_job_24 : decode cX10_job 24 = .ok (.goto 4, 3) := by decide +kernel
theorem dX10_job_27 : decode cX10_job 27 = .ok (.iconst 2, 1) := by decide +kernel
theorem dX10_job_28 : decode cX10_job 28 = .ok (.putfield 42, 3) := by decide +kernel
theorem dX10_job_31 : decode cX10_job 31 = .ok (.aload_n 0, 1) := by decide +kernel
theorem dX10_job_32 : decode cX10_job 32 = .ok (.getfield 42, 3) := by decide +kernel
theorem dX10_job_35 : decode cX10_job 35 = .ok (.ifCond .le 7, 3) := by decide +kernel
theorem dX10_job_38 : decode cX10_job 38 = .ok (.iconst 0, 1) := by decide +kernel
theorem dX10_job_39 : decode cX10_job 39 = .ok (.goto 9, 3) := by decide +kernel
theorem dX10_job_42 : decode cX10_job 42 = .ok (.aload_n 0, 1) := by decide +kernel
theorem dX10_job_43 : decode cX10_job 43 = .ok (.iload_n 1, 1) := by decide +kernel
theorem dX10_job_44 : decode cX10_job 44 = .ok (.iload_n 2, 1) := by decide +kernel
theorem dX10_job_45 : decode cX10_job 45 = .ok (.invokevirtual 175, 3) := by decide +kernel
theorem dX10_job_48 : decode cX10_job 48 = .ok (.ireturn, 1) := by decide +kernel
theorem dX10_first_0 : decode cX10_first 0 = .ok (.aload_n 0, 1) := by decide +kernel
theorem dX10_first_1 : decode cX10_first 1 = .ok (.invokevirtual 227, 3) := by decide +kernel
theorem dX10_first_4 : decode cX10_first 4 = .ok (.aload_n 0, 1) := by decide +kernel
theorem dX10_first_5 : decode cX10_first 5 = .ok (.invokevirtual 237, 3) := by decide +kernel
theorem dX10_first_8 : decode cX10_first 8 = .ok (.istore_n 1, 1) := by decide +kernel
theorem dX10_first_9 : decode cX10_first 9 = .ok (.aload_n 0, 1) := by decide +kernel
theorem dX10_first_10 : decode cX10_first 10 = .ok (.iload_n 1, 1) := by decide +kernel
theorem dX10_first_11 : decode cX10_first 11 = .ok (.iconst (-1), 1) := by decide +kernel
theorem dX10_first_12 : decode cX10_first 12 = .ok (.if_icmp .ne 7, 3) := by decide +kernel
theorem dX10_first_15 : decode cX10_first 15 = .ok (.iconst 1, 1) := by decide +kernel
theorem dX10_first_16 : decode cX10_first 16 = .ok (.goto 4, 3) := by decide +kernel
theorem dX10_first_19 : decode cX10_first 19 = .ok (.iconst 0, 1) := by decide +kernel
theorem dX10_first_20 : decode cX10_first 20 = .ok (.putfield 42, 3) := by decide +kernel
theorem dX10_first_23 : decode cX10_first 23 = .ok (.aload_n 0, 1) := by decide +kernel
theorem dX10_first_24 : decode cX10_first 24 = .ok (.getfield 42, 3) := by decide +kernel
theorem dX10_first_27 : decode cX10_first 27 = .ok (.ifCond .le 7, 3) := by decide +kernel
theorem dX10_first_30 : decode cX10_first 30 = .ok (.iconst 0, 1) := by decide +kernel
theorem dX10_first_31 : decode cX10_first 31 = .ok (.goto 4, 3) := by decide +kernel
theorem dX10_first_34 : decode cX10_first 34 = .ok (.iload_n 1, 1) := by decide +kernel
theorem dX10_first_35 : decode cX10_first 35 = .ok (.ireturn, 1) := by decide +kernel
theorem dX10_addsJob_0 : decode cX10_addsJob 0 = .ok (.aload_n 0, 1) := by decide +kernel
theorem dX10_addsJob_1 : decode cX10_addsJob 1 = .ok (.getfield 7, 3) := by decide +kernel
theorem dX10_addsJob_4 : decode cX10_addsJob 4 = .ok (.bipush 6, 2) := by decide +kernel
theorem dX10_addsJob_6 : decode cX10_addsJob 6 = .ok (.iaload, 1) := by decide +kernel
theorem dX10_addsJob_7 : decode cX10_addsJob 7 = .ok (.istore_n 3, 1) := by decide +kernel
theorem dX10_addsJob_8 : decode cX10_addsJob 8 = .ok (.aload_n 0, 1) := by decide +kernel
theorem dX10_addsJob_9 : decode cX10_addsJob 9 = .ok (.iload_n 3, 1) := by decide +kernel
theorem dX10_addsJob_10 : decode cX10_addsJob 10 = .ok (.iconst 0, 1) := by decide +kernel
theorem dX10_addsJob_11 : decode cX10_addsJob 11 = .ok (.iload_n 1, 1) := by decide +kernel
theorem dX10_addsJob_12 : decode cX10_addsJob 12 = .ok (.invokevirtual 233, 3) := by decide +kernel
theorem dX10_addsJob_15 : decode cX10_addsJob 15 = .ok (.aload_n 0, 1) := by decide +kernel
theorem dX10_addsJob_16 : decode cX10_addsJob 16 = .ok (.iload_n 3, 1) := by decide +kernel
theorem dX10_addsJob_17 : decode cX10_addsJob 17 = .ok (.iconst 1, 1) := by decide +kernel
theorem dX10_addsJob_18 : decode cX10_addsJob 18 = .ok (.iload_n 2, 1) := by decide +kernel
theorem dX10_addsJob_19 : decode cX10_addsJob 19 = .ok (.invokevirtual 233, 3) := by decide +kernel
theorem dX10_addsJob_22 : decode cX10_addsJob 22 = .ok (.aload_n 0, 1) := by decide +kernel
theorem dX10_addsJob_23 : decode cX10_addsJob 23 = .ok (.iload_n 3, 1) := by decide +kernel
theorem dX10_addsJob_24 : decode cX10_addsJob 24 = .ok (.iconst 2, 1) := by decide +kernel
theorem dX10_addsJob_25 : decode cX10_addsJob 25 = .ok (.iconst 0, 1) := by decide +kernel
theorem dX10_addsJob_26 : decode cX10_addsJob 26 = .ok (.invokevirtual 233, 3) := by decide +kernel
theorem dX10_addsJob_29 : decode cX10_addsJob 29 = .ok (.aload_n 0, 1) := by decide +kernel
theorem dX10_addsJob_30 : decode cX10_addsJob 30 = .ok (.iload_n 3, 1) := by decide +kernel
theorem dX10_addsJob_31 : decode cX10_addsJob 31 = .ok (.iconst 3, 1) := by decide +kernel
theorem dX10_addsJob_32 : decode cX10_addsJob 32 = .ok (.iconst 0, 1) := by decide +kernel
theorem dX10_addsJob_33 : decode cX10_addsJob 33 = .ok (.invokevirtual 233, 3) := by decide +kernel
theorem dX10_addsJob_36 : decode cX10_addsJob 36 = .ok (.aload_n 0, 1) := by decide +kernel
theorem dX10_addsJob_37 : decode cX10_addsJob 37 = .ok (.iload_n 3, 1) := by decide +kernel
theorem dX10_addsJob_38 : decode cX10_addsJob 38 = .ok (.iconst 4, 1) := by decide +kernel
theorem dX10_addsJob_39 : decode cX10_addsJob 39 = .ok (.iconst (-1), 1) := by decide +kernel
theorem dX10_addsJob_40 : decode cX10_addsJob 40 = .ok (.invokevirtual 233, 3) := by decide +kernel
theorem dX10_addsJob_43 : decode cX10_addsJob 43 = .ok (.aload_n 0, 1) := by decide +kernel
theorem dX10_addsJob_44 : decode cX10_addsJob 44 = .ok (.iload_n 3, 1) := by decide +kernel
theorem dX10_addsJob_45 : decode cX10_addsJob 45 = .ok (.iconst 5, 1) := by decide +kernel
theorem dX10_addsJob_46 : decode cX10_addsJob 46 = .ok (.iconst (-1), 1) := by decide +kernel
theorem dX10_addsJob_47 : decode cX10_addsJob 47 = .ok (.invokevirtual 233, 3) := by decide +kernel
theorem dX10_addsJob_50 : decode cX10_addsJob 50 = .ok (.aload_n 0, 1) := by decide +kernel
theorem dX10_addsJob_51 : decode cX10_addsJob 51 = .ok (.iload_n 3, 1) := by decide +kernel
theorem dX10_addsJob_52 : decode cX10_addsJob 52 = .ok (.bipush 6, 2) := by decide +kernel
theorem dX10_addsJob_54 : decode cX10_addsJob 54 = .ok (.iconst 0, 1) := by decide +kernel
theorem dX10_addsJob_55 : decode cX10_addsJob 55 = .ok (.invokevirtual 233, 3) := by decide +kernel
theorem dX10_addsJob_58 : decode cX10_addsJob 58 = .ok (.aload_n 0, 1) := by decide +kernel
theorem dX10_addsJob_59 : decode cX10_addsJob 59 = .ok (.getfield 7, 3) := by decide +kernel
theorem dX10_addsJob_62 : decode cX10_addsJob 62 = .ok (.bipush 6, 2) := by decide +kernel
theorem dX10_addsJob_64 : decode cX10_addsJob 64 = .ok (.dup2, 1) := by decide +kernel
theorem dX10_addsJob_65 : decode cX10_addsJob 65 = .ok (.iaload, 1) := by decide +kernel
theorem dX10_addsJob_66 : decode cX10_addsJob 66 = .ok (.iconst 1, 1) := by decide +kernel
theorem dX10_addsJob_67 : decode cX10_addsJob 67 = .ok (.iadd, 1) := by decide +kernel
theorem dX10_addsJob_68 : decode cX10_addsJob 68 = .ok (.iastore, 1) := by decide +kernel
theorem dX10_addsJob_69 : decode cX10_addsJob 69 = .ok (.return_, 1) := by decide +kernel
theorem dX10_submit_0 : decode cX10_submit 0 = .ok (.aload_n 0, 1) := by decide +kernel
theorem dX10_submit_1 : decode cX10_submit 1 = .ok (.aload_n 0, 1) := by decide +kernel
theorem dX10_submit_2 : decode cX10_submit 2 = .ok (.iload_n 1, 1) := by decide +kernel
theorem dX10_submit_3 : decode cX10_submit 3 = .ok (.invokevirtual 192, 3) := by decide +kernel
theorem dX10_submit_6 : decode cX10_submit 6 = .ok (.ifCond .ne 7, 3) := by decide +kernel
theorem dX10_submit_9 : decode cX10_submit 9 = .ok (.iconst 1, 1) := by decide +kernel
theorem dX10_submit_10 : decode cX10_submit 10 = .ok (.goto 42, 3) := by decide +kernel
theorem dX10_submit_13 : decode cX10_submit 13 = .ok (.iload_n 2, 1) := by decide +kernel
theorem dX10_submit_14 : decode cX10_submit 14 = .ok (.iconst 1, 1) := by decide +kernel
theorem dX10_submit_15 : decode cX10_submit 15 = .ok (.bipush 60, 2) := by decide +kernel
theorem dX10_submit_17 : decode cX10_submit 17 = .ok (.invokestatic 54, 3) := by decide +kernel
theorem dX10_submit_20 : decode cX10_submit 20 = .ok (.ifCond .ne 7, 3) := by decide +kernel
theorem dX10_submit_23 : decode cX10_submit 23 = .ok (.iconst 2, 1) := by decide +kernel
theorem dX10_submit_24 : decode cX10_submit 24 = .ok (.goto 28, 3) := by decide +kernel
theorem dX10_submit_27 : decode cX10_submit 27 = .ok (.aload_n 0, 1) := by decide +kernel
theorem dX10_submit_28 : decode cX10_submit 28 = .ok (.iload_n 1, 1) := by decide +kernel
theorem dX10_submit_29 : decode cX10_submit 29 = .ok (.invokevirtual 119, 3) := by decide +kernel
theorem dX10_submit_32 : decode cX10_submit 32 = .ok (.ifCond .eq 15, 3) := by decide +kernel
theorem dX10_submit_35 : decode cX10_submit 35 = .ok (.aload_n 0, 1) := by decide +kernel
theorem dX10_submit_36 : decode cX10_submit 36 = .ok (.getfield 7, 3) := by decide +kernel
theorem dX10_submit_39 : decode cX10_submit 39 = .ok (.bipush 6, 2) := by decide +kernel
theorem dX10_submit_41 : decode cX10_submit 41 = .ok (.iaload, 1) := by decide +kernel
theorem dX10_submit_42 : decode cX10_submit 42 = .ok (.bipush 30, 2) := by decide +kernel
theorem dX10_submit_44 : decode cX10_submit 44 = .ok (.if_icmp .ne 7, 3) := by decide +kernel
theorem dX10_submit_47 : decode cX10_submit 47 = .ok (.iconst 3, 1) := by decide +kernel
theorem dX10_submit_48 : decode cX10_submit 48 = .ok (.goto 4, 3) := by decide +kernel
theorem dX10_submit_51 : decode cX10_submit 51 = .ok (.iconst 0, 1) := by decide +kernel
theorem dX10_submit_52 : decode cX10_submit 52 = .ok (.putfield 42, 3) := by decide +kernel
theorem dX10_submit_55 : decode cX10_submit 55 = .ok (.aload_n 0, 1) := by decide +kernel
theorem dX10_submit_56 : decode cX10_submit 56 = .ok (.getfield 42, 3) := by decide +kernel
theorem dX10_submit_59 : decode cX10_submit 59 = .ok (.ifCond .le 5, 3) := by decide +kernel
theorem dX10_submit_62 : decode cX10_submit 62 = .ok (.iconst 0, 1) := by decide +kernel
theorem dX10_submit_63 : decode cX10_submit 63 = .ok (.ireturn, 1) := by decide +kernel
theorem dX10_submit_64 : decode cX10_submit 64 = .ok (.aload_n 0, 1) := by decide +kernel
theorem dX10_submit_65 : decode cX10_submit 65 = .ok (.invokevirtual 169, 3) := by decide +kernel
theorem dX10_submit_68 : decode cX10_submit 68 = .ok (.aload_n 0, 1) := by decide +kernel
theorem dX10_submit_69 : decode cX10_submit 69 = .ok (.iload_n 1, 1) := by decide +kernel
theorem dX10_submit_70 : decode cX10_submit 70 = .ok (.iload_n 2, 1) := by decide +kernel
theorem dX10_submit_71 : decode cX10_submit 71 = .ok (.invokevirtual 122, 3) := by decide +kernel
theorem dX10_submit_74 : decode cX10_submit 74 = .ok (.aload_n 0, 1) := by decide +kernel
theorem dX10_submit_75 : decode cX10_submit 75 = .ok (.invokevirtual 166, 3) := by decide +kernel
theorem dX10_submit_78 : decode cX10_submit 78 = .ok (.aload_n 0, 1) := by decide +kernel
theorem dX10_submit_79 : decode cX10_submit 79 = .ok (.getfield 7, 3) := by decide +kernel
theorem dX10_submit_82 : decode cX10_submit 82 = .ok (.bipush 6, 2) := by decide +kernel
theorem dX10_submit_84 : decode cX10_submit 84 = .ok (.iaload, 1) := by decide +kernel
theorem dX10_submit_85 : decode cX10_submit 85 = .ok (.iconst 1, 1) := by decide +kernel
theorem dX10_submit_86 : decode cX10_submit 86 = .ok (.isub, 1) := by decide +kernel
theorem dX10_submit_87 : decode cX10_submit 87 = .ok (.ireturn, 1) := by decide +kernel
theorem dX10_ends_0 : decode cX10_ends 0 = .ok (.aload_n 0, 1) := by decide +kernel
theorem dX10_ends_1 : decode cX10_ends 1 = .ok (.iload_n 1, 1) := by decide +kernel
theorem dX10_ends_2 : decode cX10_ends 2 = .ok (.iconst 3, 1) := by decide +kernel
theorem dX10_ends_3 : decode cX10_ends 3 = .ok (.iload_n 2, 1) := by decide +kernel
theorem dX10_ends_4 : decode cX10_ends 4 = .ok (.invokevirtual 233, 3) := by decide +kernel
theorem dX10_ends_7 : decode cX10_ends 7 = .ok (.aload_n 0, 1) := by decide +kernel
theorem dX10_ends_8 : decode cX10_ends 8 = .ok (.iload_n 1, 1) := by decide +kernel
theorem dX10_ends_9 : decode cX10_ends 9 = .ok (.iconst 4, 1) := by decide +kernel
theorem dX10_ends_10 : decode cX10_ends 10 = .ok (.iconst (-1), 1) := by decide +kernel
theorem dX10_ends_11 : decode cX10_ends 11 = .ok (.invokevirtual 233, 3) := by decide +kernel
theorem dX10_ends_14 : decode cX10_ends 14 = .ok (.aload_n 0, 1) := by decide +kernel
theorem dX10_ends_15 : decode cX10_ends 15 = .ok (.iload_n 1, 1) := by decide +kernel
theorem dX10_ends_16 : decode cX10_ends 16 = .ok (.iconst 5, 1) := by decide +kernel
theorem dX10_ends_17 : decode cX10_ends 17 = .ok (.aload_n 0, 1) := by decide +kernel
theorem dX10_ends_18 : decode cX10_ends 18 = .ok (.getfield 7, 3) := by decide +kernel
theorem dX10_ends_21 : decode cX10_ends 21 = .ok (.iconst 0, 1) := by decide +kernel
theorem dX10_ends_22 : decode cX10_ends 22 = .ok (.iaload, 1) := by decide +kernel
theorem dX10_ends_23 : decode cX10_ends 23 = .ok (.invokevirtual 233, 3) := by decide +kernel
theorem dX10_ends_26 : decode cX10_ends 26 = .ok (.return_, 1) := by decide +kernel
theorem dX10_cancel_0 : decode cX10_cancel 0 = .ok (.aload_n 0, 1) := by decide +kernel
theorem dX10_cancel_1 : decode cX10_cancel 1 = .ok (.aload_n 0, 1) := by decide +kernel
theorem dX10_cancel_2 : decode cX10_cancel 2 = .ok (.iload_n 1, 1) := by decide +kernel
theorem dX10_cancel_3 : decode cX10_cancel 3 = .ok (.invokevirtual 257, 3) := by decide +kernel
theorem dX10_cancel_6 : decode cX10_cancel 6 = .ok (.ifCond .ne 7, 3) := by decide +kernel
theorem dX10_cancel_9 : decode cX10_cancel 9 = .ok (.iconst 1, 1) := by decide +kernel
theorem dX10_cancel_10 : decode cX10_cancel 10 = .ok (.goto 18, 3) := by decide +kernel
theorem dX10_cancel_13 : decode cX10_cancel 13 = .ok (.aload_n 0, 1) := by decide +kernel
theorem dX10_cancel_14 : decode cX10_cancel 14 = .ok (.iload_n 1, 1) := by decide +kernel
theorem dX10_cancel_15 : decode cX10_cancel 15 = .ok (.iconst 3, 1) := by decide +kernel
theorem dX10_cancel_16 : decode cX10_cancel 16 = .ok (.invokevirtual 175, 3) := by decide +kernel
theorem dX10_cancel_19 : decode cX10_cancel 19 = .ok (.iconst 1, 1) := by decide +kernel
theorem dX10_cancel_20 : decode cX10_cancel 20 = .ok (.if_icmp .le 7, 3) := by decide +kernel
theorem dX10_cancel_23 : decode cX10_cancel 23 = .ok (.iconst 2, 1) := by decide +kernel
theorem dX10_cancel_24 : decode cX10_cancel 24 = .ok (.goto 4, 3) := by decide +kernel
theorem dX10_cancel_27 : decode cX10_cancel 27 = .ok (.iconst 0, 1) := by decide +kernel
theorem dX10_cancel_28 : decode cX10_cancel 28 = .ok (.putfield 42, 3) := by decide +kernel
theorem dX10_cancel_31 : decode cX10_cancel 31 = .ok (.aload_n 0, 1) := by decide +kernel
theorem dX10_cancel_32 : decode cX10_cancel 32 = .ok (.getfield 42, 3) := by decide +kernel
theorem dX10_cancel_35 : decode cX10_cancel 35 = .ok (.ifCond .le 5, 3) := by decide +kernel
theorem dX10_cancel_38 : decode cX10_cancel 38 = .ok (.iconst 0, 1) := by decide +kernel
theorem dX10_cancel_39 : decode cX10_cancel 39 = .ok (.ireturn, 1) := by decide +kernel
theorem dX10_cancel_40 : decode cX10_cancel 40 = .ok (.aload_n 0, 1) := by decide +kernel
theorem dX10_cancel_41 : decode cX10_cancel 41 = .ok (.invokevirtual 169, 3) := by decide +kernel
theorem dX10_cancel_44 : decode cX10_cancel 44 = .ok (.aload_n 0, 1) := by decide +kernel
theorem dX10_cancel_45 : decode cX10_cancel 45 = .ok (.iload_n 1, 1) := by decide +kernel
theorem dX10_cancel_46 : decode cX10_cancel 46 = .ok (.iconst 3, 1) := by decide +kernel
theorem dX10_cancel_47 : decode cX10_cancel 47 = .ok (.invokevirtual 260, 3) := by decide +kernel
theorem dX10_cancel_50 : decode cX10_cancel 50 = .ok (.aload_n 0, 1) := by decide +kernel
theorem dX10_cancel_51 : decode cX10_cancel 51 = .ok (.invokevirtual 166, 3) := by decide +kernel
theorem dX10_cancel_54 : decode cX10_cancel 54 = .ok (.aload_n 0, 1) := by decide +kernel
theorem dX10_cancel_55 : decode cX10_cancel 55 = .ok (.iload_n 1, 1) := by decide +kernel
theorem dX10_cancel_56 : decode cX10_cancel 56 = .ok (.iconst 2, 1) := by decide +kernel
theorem dX10_cancel_57 : decode cX10_cancel 57 = .ok (.invokevirtual 175, 3) := by decide +kernel
theorem dX10_cancel_60 : decode cX10_cancel 60 = .ok (.ireturn, 1) := by decide +kernel
theorem dX10_setUp_0 : decode cX10_setUp 0 = .ok (.aload_n 0, 1) := by decide +kernel
theorem dX10_setUp_1 : decode cX10_setUp 1 = .ok (.aload_n 0, 1) := by decide +kernel
theorem dX10_setUp_2 : decode cX10_setUp 2 = .ok (.iload_n 1, 1) := by decide +kernel
theorem dX10_setUp_3 : decode cX10_setUp 3 = .ok (.invokevirtual 254, 3) := by decide +kernel
theorem dX10_setUp_6 : decode cX10_setUp 6 = .ok (.ifCond .eq 7, 3) := by decide +kernel
theorem dX10_setUp_9 : decode cX10_setUp 9 = .ok (.iconst 0, 1) := by decide +kernel
theorem dX10_setUp_10 : decode cX10_setUp 10 = .ok (.goto 4, 3) := by decide +kernel
theorem dX10_setUp_13 : decode cX10_setUp 13 = .ok (.iconst 1, 1) := by decide +kernel
theorem dX10_setUp_14 : decode cX10_setUp 14 = .ok (.putfield 42, 3) := by decide +kernel
theorem dX10_setUp_17 : decode cX10_setUp 17 = .ok (.aload_n 0, 1) := by decide +kernel
theorem dX10_setUp_18 : decode cX10_setUp 18 = .ok (.getfield 42, 3) := by decide +kernel
theorem dX10_setUp_21 : decode cX10_setUp 21 = .ok (.ifCond .le 5, 3) := by decide +kernel
theorem dX10_setUp_24 : decode cX10_setUp 24 = .ok (.iconst 0, 1) := by decide +kernel
theorem dX10_setUp_25 : decode cX10_setUp 25 = .ok (.ireturn, 1) := by decide +kernel
theorem dX10_setUp_26 : decode cX10_setUp 26 = .ok (.aload_n 0, 1) := by decide +kernel
theorem dX10_setUp_27 : decode cX10_setUp 27 = .ok (.invokevirtual 169, 3) := by decide +kernel
theorem dX10_setUp_30 : decode cX10_setUp 30 = .ok (.aload_n 0, 1) := by decide +kernel
theorem dX10_setUp_31 : decode cX10_setUp 31 = .ok (.getfield 7, 3) := by decide +kernel
theorem dX10_setUp_34 : decode cX10_setUp 34 = .ok (.bipush 52, 2) := by decide +kernel
theorem dX10_setUp_36 : decode cX10_setUp 36 = .ok (.iload_n 1, 1) := by decide +kernel
theorem dX10_setUp_37 : decode cX10_setUp 37 = .ok (.iadd, 1) := by decide +kernel
theorem dX10_setUp_38 : decode cX10_setUp 38 = .ok (.iload_n 2, 1) := by decide +kernel
theorem dX10_setUp_39 : decode cX10_setUp 39 = .ok (.ifCond .eq 7, 3) := by decide +kernel
theorem dX10_setUp_42 : decode cX10_setUp 42 = .ok (.iconst 1, 1) := by decide +kernel
theorem dX10_setUp_43 : decode cX10_setUp 43 = .ok (.goto 4, 3) := by decide +kernel
theorem dX10_setUp_46 : decode cX10_setUp 46 = .ok (.iconst 0, 1) := by decide +kernel
theorem dX10_setUp_47 : decode cX10_setUp 47 = .ok (.iastore, 1) := by decide +kernel
theorem dX10_setUp_48 : decode cX10_setUp 48 = .ok (.iconst 0, 1) := by decide +kernel
theorem dX10_setUp_49 : decode cX10_setUp 49 = .ok (.istore_n 3, 1) := by decide +kernel
theorem dX10_setUp_50 : decode cX10_setUp 50 = .ok (.iconst 0, 1) := by decide +kernel
theorem dX10_setUp_51 : decode cX10_setUp 51 = .ok (.istore 4, 2) := by decide +kernel
theorem dX10_setUp_53 : decode cX10_setUp 53 = .ok (.iload 4, 2) := by decide +kernel
theorem dX10_setUp_55 : decode cX10_setUp 55 = .ok (.aload_n 0, 1) := by decide +kernel
theorem dX10_setUp_56 : decode cX10_setUp 56 = .ok (.getfield 7, 3) := by decide +kernel
theorem dX10_setUp_59 : decode cX10_setUp 59 = .ok (.bipush 6, 2) := by decide +kernel
theorem dX10_setUp_61 : decode cX10_setUp 61 = .ok (.iaload, 1) := by decide +kernel
theorem dX10_setUp_62 : decode cX10_setUp 62 = .ok (.if_icmp .ge 47, 3) := by decide +kernel
theorem dX10_setUp_65 : decode cX10_setUp 65 = .ok (.iload_n 2, 1) := by decide +kernel
theorem dX10_setUp_66 : decode cX10_setUp 66 = .ok (.ifCond .ne 43, 3) := by decide +kernel
theorem dX10_setUp_69 : decode cX10_setUp 69 = .ok (.aload_n 0, 1) := by decide +kernel
theorem dX10_setUp_70 : decode cX10_setUp 70 = .ok (.iload 4, 2) := by decide +kernel
theorem dX10_setUp_72 : decode cX10_setUp 72 = .ok (.iconst 3, 1) := by decide +kernel
theorem dX10_setUp_73 : decode cX10_setUp 73 = .ok (.invokevirtual 175, 3) := by decide +kernel
theorem dX10_setUp_76 : decode cX10_setUp 76 = .ok (.iconst 1, 1) := by decide +kernel
theorem dX10_setUp_77 : decode cX10_setUp 77 = .ok (.if_icmp .ne 26, 3) := by decide +kernel
theorem dX10_setUp_80 : decode cX10_setUp 80 = .ok (.aload_n 0, 1) := by decide +kernel
theorem dX10_setUp_81 : decode cX10_setUp 81 = .ok (.iload 4, 2) := by decide +kernel
theorem dX10_setUp_83 : decode cX10_setUp 83 = .ok (.iconst 4, 1) := by decide +kernel
theorem dX10_setUp_84 : decode cX10_setUp 84 = .ok (.invokevirtual 175, 3) := by decide +kernel
theorem dX10_setUp_87 : decode cX10_setUp 87 = .ok (.iload_n 1, 1) := by decide +kernel
theorem dX10_setUp_88 : decode cX10_setUp 88 = .ok (.if_icmp .eq 6, 3) := by decide +kernel
theorem dX10_setUp_91 : decode cX10_setUp 91 = .ok (.goto 12, 3) := by decide +kernel
theorem dX10_setUp_94 : decode cX10_setUp 94 = .ok (.aload_n 0, 1) := by decide +kernel
theorem dX10_setUp_95 : decode cX10_setUp 95 = .ok (.iload 4, 2) := by decide +kernel
theorem dX10_setUp_97 : decode cX10_setUp 97 = .ok (.invokevirtual 251, 3) := by decide +kernel
theorem dX10_setUp_100 : decode cX10_setUp 100 = .ok (.iinc 3 1, 3) := by decide +kernel
theorem dX10_setUp_103 : decode cX10_setUp 103 = .ok (.iinc 4 1, 3) := by decide +kernel
theorem dX10_setUp_106 : decode cX10_setUp 106 = .ok (.goto (-53), 3) := by decide +kernel
theorem dX10_setUp_109 : decode cX10_setUp 109 = .ok (.aload_n 0, 1) := by decide +kernel
theorem dX10_setUp_110 : decode cX10_setUp 110 = .ok (.invokevirtual 166, 3) := by decide +kernel
theorem dX10_setUp_113 : decode cX10_setUp 113 = .ok (.iload_n 3, 1) := by decide +kernel
theorem dX10_setUp_114 : decode cX10_setUp 114 = .ok (.ireturn, 1) := by decide +kernel
theorem dX10_least_0 : decode cX10_least 0 = .ok (.iload_n 0, 1) := by decide +kernel
theorem dX10_least_1 : decode cX10_least 1 = .ok (.iconst 2, 1) := by decide +kernel
theorem dX10_least_2 : decode cX10_least 2 = .ok (.if_icmp .ne 7, 3) := by decide +kernel
theorem dX10_least_5 : decode cX10_least 5 = .ok (.iconst 0, 1) := by decide +kernel
theorem dX10_least_6 : decode cX10_least 6 = .ok (.goto 4, 3) := by decide +kernel
theorem dX10_least_9 : decode cX10_least 9 = .ok (.iconst 1, 1) := by decide +kernel
theorem dX10_least_10 : decode cX10_least 10 = .ok (.ireturn, 1) := by decide +kernel
theorem dX10_most_0 : decode cX10_most 0 = .ok (.iload_n 0, 1) := by decide +kernel
theorem dX10_most_1 : decode cX10_most 1 = .ok (.iconst 1, 1) := by decide +kernel
theorem dX10_most_2 : decode cX10_most 2 = .ok (.if_icmp .ne 8, 3) := by decide +kernel
theorem dX10_most_5 : decode cX10_most 5 = .ok (.bipush 50, 2) := by decide +kernel
theorem dX10_most_7 : decode cX10_most 7 = .ok (.goto 16, 3) := by decide +kernel
theorem dX10_most_10 : decode cX10_most 10 = .ok (.iload_n 0, 1) := by decide +kernel
theorem dX10_most_11 : decode cX10_most 11 = .ok (.iconst 2, 1) := by decide +kernel
theorem dX10_most_12 : decode cX10_most 12 = .ok (.if_icmp .ne 9, 3) := by decide +kernel
theorem dX10_most_15 : decode cX10_most 15 = .ok (.sipush 400, 3) := by decide +kernel
theorem dX10_most_18 : decode cX10_most 18 = .ok (.goto 5, 3) := by decide +kernel
theorem dX10_most_21 : decode cX10_most 21 = .ok (.bipush 20, 2) := by decide +kernel
theorem dX10_most_23 : decode cX10_most 23 = .ok (.ireturn, 1) := by decide +kernel
theorem dX10_set_0 : decode cX10_set 0 = .ok (.aload_n 0, 1) := by decide +kernel
theorem dX10_set_1 : decode cX10_set 1 = .ok (.iload_n 1, 1) := by decide +kernel
theorem dX10_set_2 : decode cX10_set 2 = .ok (.iconst 0, 1) := by decide +kernel
theorem dX10_set_3 : decode cX10_set 3 = .ok (.iconst 2, 1) := by decide +kernel
theorem dX10_set_4 : decode cX10_set 4 = .ok (.invokestatic 54, 3) := by decide +kernel
theorem dX10_set_7 : decode cX10_set 7 = .ok (.ifCond .eq 26, 3) := by decide +kernel
theorem dX10_set_10 : decode cX10_set 10 = .ok (.iload_n 2, 1) := by decide +kernel
theorem dX10_set_11 : decode cX10_set 11 = .ok (.iconst 1, 1) := by decide +kernel
theorem dX10_set_12 : decode cX10_set 12 = .ok (.iload_n 1, 1) := by decide +kernel
theorem dX10_set_13 : decode cX10_set 13 = .ok (.iadd, 1) := by decide +kernel
theorem dX10_set_14 : decode cX10_set 14 = .ok (.invokestatic 125, 3) := by decide +kernel
theorem dX10_set_17 : decode cX10_set 17 = .ok (.iconst 1, 1) := by decide +kernel
theorem dX10_set_18 : decode cX10_set 18 = .ok (.iload_n 1, 1) := by decide +kernel
theorem dX10_set_19 : decode cX10_set 19 = .ok (.iadd, 1) := by decide +kernel
theorem dX10_set_20 : decode cX10_set 20 = .ok (.invokestatic 128, 3) := by decide +kernel
theorem dX10_set_23 : decode cX10_set 23 = .ok (.invokestatic 54, 3) := by decide +kernel
theorem dX10_set_26 : decode cX10_set 26 = .ok (.ifCond .eq 7, 3) := by decide +kernel
theorem dX10_set_29 : decode cX10_set 29 = .ok (.iconst 0, 1) := by decide +kernel
theorem dX10_set_30 : decode cX10_set 30 = .ok (.goto 4, 3) := by decide +kernel
theorem dX10_set_33 : decode cX10_set 33 = .ok (.iconst 1, 1) := by decide +kernel
theorem dX10_set_34 : decode cX10_set 34 = .ok (.putfield 42, 3) := by decide +kernel
theorem dX10_set_37 : decode cX10_set 37 = .ok (.aload_n 0, 1) := by decide +kernel
theorem dX10_set_38 : decode cX10_set 38 = .ok (.getfield 42, 3) := by decide +kernel
theorem dX10_set_41 : decode cX10_set 41 = .ok (.ifCond .le 5, 3) := by decide +kernel
theorem dX10_set_44 : decode cX10_set 44 = .ok (.iconst 0, 1) := by decide +kernel
theorem dX10_set_45 : decode cX10_set 45 = .ok (.ireturn, 1) := by decide +kernel
theorem dX10_set_46 : decode cX10_set 46 = .ok (.aload_n 0, 1) := by decide +kernel
theorem dX10_set_47 : decode cX10_set 47 = .ok (.invokevirtual 169, 3) := by decide +kernel
theorem dX10_set_50 : decode cX10_set 50 = .ok (.aload_n 0, 1) := by decide +kernel
theorem dX10_set_51 : decode cX10_set 51 = .ok (.getfield 7, 3) := by decide +kernel
theorem dX10_set_54 : decode cX10_set 54 = .ok (.iconst 1, 1) := by decide +kernel
theorem dX10_set_55 : decode cX10_set 55 = .ok (.iload_n 1, 1) := by decide +kernel
theorem dX10_set_56 : decode cX10_set 56 = .ok (.iadd, 1) := by decide +kernel
theorem dX10_set_57 : decode cX10_set 57 = .ok (.iaload, 1) := by decide +kernel
theorem dX10_set_58 : decode cX10_set 58 = .ok (.istore_n 3, 1) := by decide +kernel
theorem dX10_set_59 : decode cX10_set 59 = .ok (.aload_n 0, 1) := by decide +kernel
theorem dX10_set_60 : decode cX10_set 60 = .ok (.getfield 7, 3) := by decide +kernel
theorem dX10_set_63 : decode cX10_set 63 = .ok (.iconst 1, 1) := by decide +kernel
theorem dX10_set_64 : decode cX10_set 64 = .ok (.iload_n 1, 1) := by decide +kernel
theorem dX10_set_65 : decode cX10_set 65 = .ok (.iadd, 1) := by decide +kernel
theorem dX10_set_66 : decode cX10_set 66 = .ok (.iload_n 2, 1) := by decide +kernel
theorem dX10_set_67 : decode cX10_set 67 = .ok (.iastore, 1) := by decide +kernel
theorem dX10_set_68 : decode cX10_set 68 = .ok (.iload_n 3, 1) := by decide +kernel
theorem dX10_set_69 : decode cX10_set 69 = .ok (.ireturn, 1) := by decide +kernel
theorem dX10_count_0 : decode cX10_count 0 = .ok (.aload_n 0, 1) := by decide +kernel
theorem dX10_count_1 : decode cX10_count 1 = .ok (.iload_n 1, 1) := by decide +kernel
theorem dX10_count_2 : decode cX10_count 2 = .ok (.iconst 0, 1) := by decide +kernel
theorem dX10_count_3 : decode cX10_count 3 = .ok (.bipush 12, 2) := by decide +kernel
theorem dX10_count_5 : decode cX10_count 5 = .ok (.invokestatic 54, 3) := by decide +kernel
theorem dX10_count_8 : decode cX10_count 8 = .ok (.ifCond .eq 7, 3) := by decide +kernel
theorem dX10_count_11 : decode cX10_count 11 = .ok (.iconst 0, 1) := by decide +kernel
theorem dX10_count_12 : decode cX10_count 12 = .ok (.goto 4, 3) := by decide +kernel
theorem dX10_count_15 : decode cX10_count 15 = .ok (.iconst 1, 1) := by decide +kernel
theorem dX10_count_16 : decode cX10_count 16 = .ok (.putfield 42, 3) := by decide +kernel
theorem dX10_count_19 : decode cX10_count 19 = .ok (.aload_n 0, 1) := by decide +kernel
theorem dX10_count_20 : decode cX10_count 20 = .ok (.getfield 42, 3) := by decide +kernel
theorem dX10_count_23 : decode cX10_count 23 = .ok (.ifCond .le 5, 3) := by decide +kernel
theorem dX10_count_26 : decode cX10_count 26 = .ok (.iconst 0, 1) := by decide +kernel
theorem dX10_count_27 : decode cX10_count 27 = .ok (.ireturn, 1) := by decide +kernel
theorem dX10_count_28 : decode cX10_count 28 = .ok (.iload_n 1, 1) := by decide +kernel
theorem dX10_count_29 : decode cX10_count 29 = .ok (.iconst 4, 1) := by decide +kernel
theorem dX10_count_30 : decode cX10_count 30 = .ok (.if_icmp .ge 12, 3) := by decide +kernel
theorem dX10_count_33 : decode cX10_count 33 = .ok (.aload_n 0, 1) := by decide +kernel
theorem dX10_count_34 : decode cX10_count 34 = .ok (.getfield 7, 3) := by decide +kernel
theorem dX10_count_37 : decode cX10_count 37 = .ok (.iconst 4, 1) := by decide +kernel
theorem dX10_count_38 : decode cX10_count 38 = .ok (.iload_n 1, 1) := by decide +kernel
theorem dX10_count_39 : decode cX10_count 39 = .ok (.iadd, 1) := by decide +kernel
theorem dX10_count_40 : decode cX10_count 40 = .ok (.iaload, 1) := by decide +kernel
theorem dX10_count_41 : decode cX10_count 41 = .ok (.ireturn, 1) := by decide +kernel
theorem dX10_count_42 : decode cX10_count 42 = .ok (.iload_n 1, 1) := by decide +kernel
theorem dX10_count_43 : decode cX10_count 43 = .ok (.bipush 8, 2) := by decide +kernel
theorem dX10_count_45 : decode cX10_count 45 = .ok (.if_icmp .ge 12, 3) := by decide +kernel
theorem dX10_count_48 : decode cX10_count 48 = .ok (.aload_n 0, 1) := by decide +kernel
theorem dX10_count_49 : decode cX10_count 49 = .ok (.getfield 7, 3) := by decide +kernel
theorem dX10_count_52 : decode cX10_count 52 = .ok (.iload_n 1, 1) := by decide +kernel
theorem dX10_count_53 : decode cX10_count 53 = .ok (.iconst 4, 1) := by decide +kernel
theorem dX10_count_54 : decode cX10_count 54 = .ok (.isub, 1) := by decide +kernel
theorem dX10_count_55 : decode cX10_count 55 = .ok (.iaload, 1) := by decide +kernel
theorem dX10_count_56 : decode cX10_count 56 = .ok (.ireturn, 1) := by decide +kernel
theorem dX10_count_57 : decode cX10_count 57 = .ok (.iload_n 1, 1) := by decide +kernel
theorem dX10_count_58 : decode cX10_count 58 = .ok (.tableswitch 43 8 10 #[26, 32, 38], 26) := by decide +kernel
theorem dX10_count_84 : decode cX10_count 84 = .ok (.aload_n 0, 1) := by decide +kernel
theorem dX10_count_85 : decode cX10_count 85 = .ok (.iconst 0, 1) := by decide +kernel
theorem dX10_count_86 : decode cX10_count 86 = .ok (.invokevirtual 263, 3) := by decide +kernel
theorem dX10_count_89 : decode cX10_count 89 = .ok (.ireturn, 1) := by decide +kernel
theorem dX10_count_90 : decode cX10_count 90 = .ok (.aload_n 0, 1) := by decide +kernel
theorem dX10_count_91 : decode cX10_count 91 = .ok (.iconst 1, 1) := by decide +kernel
theorem dX10_count_92 : decode cX10_count 92 = .ok (.invokevirtual 263, 3) := by decide +kernel
theorem dX10_count_95 : decode cX10_count 95 = .ok (.ireturn, 1) := by decide +kernel
theorem dX10_count_96 : decode cX10_count 96 = .ok (.aload_n 0, 1) := by decide +kernel
theorem dX10_count_97 : decode cX10_count 97 = .ok (.invokevirtual 266, 3) := by decide +kernel
theorem dX10_count_100 : decode cX10_count 100 = .ok (.ireturn, 1) := by decide +kernel
theorem dX10_count_101 : decode cX10_count 101 = .ok (.aload_n 0, 1) := by decide +kernel
theorem dX10_count_102 : decode cX10_count 102 = .ok (.getfield 7, 3) := by decide +kernel
theorem dX10_count_105 : decode cX10_count 105 = .ok (.iload_n 1, 1) := by decide +kernel
theorem dX10_count_106 : decode cX10_count 106 = .ok (.iconst 3, 1) := by decide +kernel
theorem dX10_count_107 : decode cX10_count 107 = .ok (.isub, 1) := by decide +kernel
theorem dX10_count_108 : decode cX10_count 108 = .ok (.iaload, 1) := by decide +kernel
theorem dX10_count_109 : decode cX10_count 109 = .ok (.ireturn, 1) := by decide +kernel
theorem dX10_ticksOnce_0 : decode cX10_ticksOnce 0 = .ok (.aload_n 0, 1) := by decide +kernel
theorem dX10_ticksOnce_1 : decode cX10_ticksOnce 1 = .ok (.getfield 7, 3) := by decide +kernel
theorem dX10_ticksOnce_4 : decode cX10_ticksOnce 4 = .ok (.iconst 0, 1) := by decide +kernel
theorem dX10_ticksOnce_5 : decode cX10_ticksOnce 5 = .ok (.dup2, 1) := by decide +kernel
theorem dX10_ticksOnce_6 : decode cX10_ticksOnce 6 = .ok (.iaload, 1) := by decide +kernel
theorem dX10_ticksOnce_7 : decode cX10_ticksOnce 7 = .ok (.iconst 1, 1) := by decide +kernel
theorem dX10_ticksOnce_8 : decode cX10_ticksOnce 8 = .ok (.iadd, 1) := by decide +kernel
theorem dX10_ticksOnce_9 : decode cX10_ticksOnce 9 = .ok (.iastore, 1) := by decide +kernel
theorem dX10_ticksOnce_10 : decode cX10_ticksOnce 10 = .ok (.iconst 0, 1) := by decide +kernel
theorem dX10_ticksOnce_11 : decode cX10_ticksOnce 11 = .ok (.istore_n 1, 1) := by decide +kernel
theorem dX10_ticksOnce_12 : decode cX10_ticksOnce 12 = .ok (.iconst 0, 1) := by decide +kernel
theorem dX10_ticksOnce_13 : decode cX10_ticksOnce 13 = .ok (.istore_n 2, 1) := by decide +kernel
theorem dX10_ticksOnce_14 : decode cX10_ticksOnce 14 = .ok (.iload_n 2, 1) := by decide +kernel
theorem dX10_ticksOnce_15 : decode cX10_ticksOnce 15 = .ok (.aload_n 0, 1) := by decide +kernel
theorem dX10_ticksOnce_16 : decode cX10_ticksOnce 16 = .ok (.getfield 7, 3) := by decide +kernel
theorem dX10_ticksOnce_19 : decode cX10_ticksOnce 19 = .ok (.bipush 6, 2) := by decide +kernel
theorem dX10_ticksOnce_21 : decode cX10_ticksOnce 21 = .ok (.iaload, 1) := by decide +kernel
theorem dX10_ticksOnce_22 : decode cX10_ticksOnce 22 = .ok (.if_icmp .ge 112, 3) := by decide +kernel
theorem dX10_ticksOnce_25 : decode cX10_ticksOnce 25 = .ok (.aload_n 0, 1) := by decide +kernel
theorem dX10_ticksOnce_26 : decode cX10_ticksOnce 26 = .ok (.iload_n 2, 1) := by decide +kernel
theorem dX10_ticksOnce_27 : decode cX10_ticksOnce 27 = .ok (.bipush 6, 2) := by decide +kernel
theorem dX10_ticksOnce_29 : decode cX10_ticksOnce 29 = .ok (.aload_n 0, 1) := by decide +kernel
theorem dX10_ticksOnce_30 : decode cX10_ticksOnce 30 = .ok (.iload_n 2, 1) := by decide +kernel
theorem dX10_ticksOnce_31 : decode cX10_ticksOnce 31 = .ok (.bipush 6, 2) := by decide +kernel
theorem dX10_ticksOnce_33 : decode cX10_ticksOnce 33 = .ok (.invokevirtual 175, 3) := by decide +kernel
theorem dX10_ticksOnce_36 : decode cX10_ticksOnce 36 = .ok (.aload_n 0, 1) := by decide +kernel
theorem dX10_ticksOnce_37 : decode cX10_ticksOnce 37 = .ok (.iload_n 2, 1) := by decide +kernel
theorem dX10_ticksOnce_38 : decode cX10_ticksOnce 38 = .ok (.iconst 3, 1) := by decide +kernel
theorem dX10_ticksOnce_39 : decode cX10_ticksOnce 39 = .ok (.invokevirtual 175, 3) := by decide +kernel
theorem dX10_ticksOnce_42 : decode cX10_ticksOnce 42 = .ok (.ifCond .ne 7, 3) := by decide +kernel
theorem dX10_ticksOnce_45 : decode cX10_ticksOnce 45 = .ok (.iconst 1, 1) := by decide +kernel
theorem dX10_ticksOnce_46 : decode cX10_ticksOnce 46 = .ok (.goto 4, 3) := by decide +kernel
theorem dX10_ticksOnce_49 : decode cX10_ticksOnce 49 = .ok (.iconst 0, 1) := by decide +kernel
theorem dX10_ticksOnce_50 : decode cX10_ticksOnce 50 = .ok (.iadd, 1) := by decide +kernel
theorem dX10_ticksOnce_51 : decode cX10_ticksOnce 51 = .ok (.invokevirtual 233, 3) := by decide +kernel
theorem dX10_ticksOnce_54 : decode cX10_ticksOnce 54 = .ok (.aload_n 0, 1) := by decide +kernel
theorem dX10_ticksOnce_55 : decode cX10_ticksOnce 55 = .ok (.iload_n 2, 1) := by decide +kernel
theorem dX10_ticksOnce_56 : decode cX10_ticksOnce 56 = .ok (.iconst 3, 1) := by decide +kernel
theorem dX10_ticksOnce_57 : decode cX10_ticksOnce 57 = .ok (.invokevirtual 175, 3) := by decide +kernel
theorem dX10_ticksOnce_60 : decode cX10_ticksOnce 60 = .ok (.iconst 1, 1) := by decide +kernel
theorem dX10_ticksOnce_61 : decode cX10_ticksOnce 61 = .ok (.if_icmp .eq 6, 3) := by decide +kernel
theorem dX10_ticksOnce_64 : decode cX10_ticksOnce 64 = .ok (.goto 64, 3) := by decide +kernel
theorem dX10_ticksOnce_67 : decode cX10_ticksOnce 67 = .ok (.aload_n 0, 1) := by decide +kernel
theorem dX10_ticksOnce_68 : decode cX10_ticksOnce 68 = .ok (.iload_n 2, 1) := by decide +kernel
theorem dX10_ticksOnce_69 : decode cX10_ticksOnce 69 = .ok (.iconst 2, 1) := by decide +kernel
theorem dX10_ticksOnce_70 : decode cX10_ticksOnce 70 = .ok (.aload_n 0, 1) := by decide +kernel
theorem dX10_ticksOnce_71 : decode cX10_ticksOnce 71 = .ok (.iload_n 2, 1) := by decide +kernel
theorem dX10_ticksOnce_72 : decode cX10_ticksOnce 72 = .ok (.iconst 2, 1) := by decide +kernel
theorem dX10_ticksOnce_73 : decode cX10_ticksOnce 73 = .ok (.invokevirtual 175, 3) := by decide +kernel
theorem dX10_ticksOnce_76 : decode cX10_ticksOnce 76 = .ok (.iconst 1, 1) := by decide +kernel
theorem dX10_ticksOnce_77 : decode cX10_ticksOnce 77 = .ok (.iadd, 1) := by decide +kernel
theorem dX10_ticksOnce_78 : decode cX10_ticksOnce 78 = .ok (.invokevirtual 233, 3) := by decide +kernel
theorem dX10_ticksOnce_81 : decode cX10_ticksOnce 81 = .ok (.aload_n 0, 1) := by decide +kernel
theorem dX10_ticksOnce_82 : decode cX10_ticksOnce 82 = .ok (.getfield 7, 3) := by decide +kernel
theorem dX10_ticksOnce_85 : decode cX10_ticksOnce 85 = .ok (.bipush 34, 2) := by decide +kernel
theorem dX10_ticksOnce_87 : decode cX10_ticksOnce 87 = .ok (.aload_n 0, 1) := by decide +kernel
theorem dX10_ticksOnce_88 : decode cX10_ticksOnce 88 = .ok (.iload_n 2, 1) := by decide +kernel
theorem dX10_ticksOnce_89 : decode cX10_ticksOnce 89 = .ok (.iconst 0, 1) := by decide +kernel
theorem dX10_ticksOnce_90 : decode cX10_ticksOnce 90 = .ok (.invokevirtual 175, 3) := by decide +kernel
theorem dX10_ticksOnce_93 : decode cX10_ticksOnce 93 = .ok (.iadd, 1) := by decide +kernel
theorem dX10_ticksOnce_94 : decode cX10_ticksOnce 94 = .ok (.dup2, 1) := by decide +kernel
theorem dX10_ticksOnce_95 : decode cX10_ticksOnce 95 = .ok (.iaload, 1) := by decide +kernel
theorem dX10_ticksOnce_96 : decode cX10_ticksOnce 96 = .ok (.sipush 1000, 3) := by decide +kernel
theorem dX10_ticksOnce_99 : decode cX10_ticksOnce 99 = .ok (.iadd, 1) := by decide +kernel
theorem dX10_ticksOnce_100 : decode cX10_ticksOnce 100 = .ok (.iastore, 1) := by decide +kernel
theorem dX10_ticksOnce_101 : decode cX10_ticksOnce 101 = .ok (.aload_n 0, 1) := by decide +kernel
theorem dX10_ticksOnce_102 : decode cX10_ticksOnce 102 = .ok (.iload_n 2, 1) := by decide +kernel
theorem dX10_ticksOnce_103 : decode cX10_ticksOnce 103 = .ok (.iconst 2, 1) := by decide +kernel
theorem dX10_ticksOnce_104 : decode cX10_ticksOnce 104 = .ok (.invokevirtual 175, 3) := by decide +kernel
theorem dX10_ticksOnce_107 : decode cX10_ticksOnce 107 = .ok (.aload_n 0, 1) := by decide +kernel
theorem dX10_ticksOnce_108 : decode cX10_ticksOnce 108 = .ok (.iload_n 2, 1) := by decide +kernel
theorem dX10_ticksOnce_109 : decode cX10_ticksOnce 109 = .ok (.iconst 1, 1) := by decide +kernel
theorem dX10_ticksOnce_110 : decode cX10_ticksOnce 110 = .ok (.invokevirtual 175, 3) := by decide +kernel
theorem dX10_ticksOnce_113 : decode cX10_ticksOnce 113 = .ok (.if_icmp .ge 6, 3) := by decide +kernel
theorem dX10_ticksOnce_116 : decode cX10_ticksOnce 116 = .ok (.goto 12, 3) := by decide +kernel
theorem dX10_ticksOnce_119 : decode cX10_ticksOnce 119 = .ok (.aload_n 0, 1) := by decide +kernel
theorem dX10_ticksOnce_120 : decode cX10_ticksOnce 120 = .ok (.iload_n 2, 1) := by decide +kernel
theorem dX10_ticksOnce_121 : decode cX10_ticksOnce 121 = .ok (.iconst 2, 1) := by decide +kernel
theorem dX10_ticksOnce_122 : decode cX10_ticksOnce 122 = .ok (.invokevirtual 260, 3) := by decide +kernel
theorem dX10_ticksOnce_125 : decode cX10_ticksOnce 125 = .ok (.iinc 1 1, 3) := by decide +kernel
theorem dX10_ticksOnce_128 : decode cX10_ticksOnce 128 = .ok (.iinc 2 1, 3) := by decide +kernel
theorem dX10_ticksOnce_131 : decode cX10_ticksOnce 131 = .ok (.goto (-117), 3) := by decide +kernel
theorem dX10_ticksOnce_134 : decode cX10_ticksOnce 134 = .ok (.iconst 0, 1) := by decide +kernel
theorem dX10_ticksOnce_135 : decode cX10_ticksOnce 135 = .ok (.istore_n 2, 1) := by decide +kernel
theorem dX10_ticksOnce_136 : decode cX10_ticksOnce 136 = .ok (.iload_n 2, 1) := by decide +kernel
theorem dX10_ticksOnce_137 : decode cX10_ticksOnce 137 = .ok (.aload_n 0, 1) := by decide +kernel
theorem dX10_ticksOnce_138 : decode cX10_ticksOnce 138 = .ok (.getfield 7, 3) := by decide +kernel
theorem dX10_ticksOnce_141 : decode cX10_ticksOnce 141 = .ok (.iconst 4, 1) := by decide +kernel
theorem dX10_ticksOnce_142 : decode cX10_ticksOnce 142 = .ok (.iaload, 1) := by decide +kernel
theorem dX10_ticksOnce_143 : decode cX10_ticksOnce 143 = .ok (.if_icmp .ge 38, 3) := by decide +kernel
theorem dX10_ticksOnce_146 : decode cX10_ticksOnce 146 = .ok (.aload_n 0, 1) := by decide +kernel
theorem dX10_ticksOnce_147 : decode cX10_ticksOnce 147 = .ok (.getfield 7, 3) := by decide +kernel
theorem dX10_ticksOnce_150 : decode cX10_ticksOnce 150 = .ok (.iconst 0, 1) := by decide +kernel
theorem dX10_ticksOnce_151 : decode cX10_ticksOnce 151 = .ok (.iaload, 1) := by decide +kernel
theorem dX10_ticksOnce_152 : decode cX10_ticksOnce 152 = .ok (.aload_n 0, 1) := by decide +kernel
theorem dX10_ticksOnce_153 : decode cX10_ticksOnce 153 = .ok (.getfield 7, 3) := by decide +kernel
theorem dX10_ticksOnce_156 : decode cX10_ticksOnce 156 = .ok (.iconst 1, 1) := by decide +kernel
theorem dX10_ticksOnce_157 : decode cX10_ticksOnce 157 = .ok (.iaload, 1) := by decide +kernel
theorem dX10_ticksOnce_158 : decode cX10_ticksOnce 158 = .ok (.irem, 1) := by decide +kernel
theorem dX10_ticksOnce_159 : decode cX10_ticksOnce 159 = .ok (.ifCond .ne 22, 3) := by decide +kernel
theorem dX10_ticksOnce_162 : decode cX10_ticksOnce 162 = .ok (.aload_n 0, 1) := by decide +kernel
theorem dX10_ticksOnce_163 : decode cX10_ticksOnce 163 = .ok (.getfield 7, 3) := by decide +kernel
theorem dX10_ticksOnce_166 : decode cX10_ticksOnce 166 = .ok (.bipush 34, 2) := by decide +kernel
theorem dX10_ticksOnce_168 : decode cX10_ticksOnce 168 = .ok (.iload_n 2, 1) := by decide +kernel
theorem dX10_ticksOnce_169 : decode cX10_ticksOnce 169 = .ok (.iadd, 1) := by decide +kernel
theorem dX10_ticksOnce_170 : decode cX10_ticksOnce 170 = .ok (.dup2, 1) := by decide +kernel
theorem dX10_ticksOnce_171 : decode cX10_ticksOnce 171 = .ok (.iaload, 1) := by decide +kernel
theorem dX10_ticksOnce_172 : decode cX10_ticksOnce 172 = .ok (.iconst 2, 1) := by decide +kernel
theorem dX10_ticksOnce_173 : decode cX10_ticksOnce 173 = .ok (.idiv, 1) := by decide +kernel
theorem dX10_ticksOnce_174 : decode cX10_ticksOnce 174 = .ok (.iastore, 1) := by decide +kernel
theorem dX10_ticksOnce_175 : decode cX10_ticksOnce 175 = .ok (.iinc 2 1, 3) := by decide +kernel
theorem dX10_ticksOnce_178 : decode cX10_ticksOnce 178 = .ok (.goto (-42), 3) := by decide +kernel
theorem dX10_ticksOnce_181 : decode cX10_ticksOnce 181 = .ok (.aload_n 0, 1) := by decide +kernel
theorem dX10_ticksOnce_182 : decode cX10_ticksOnce 182 = .ok (.invokevirtual 269, 3) := by decide +kernel
theorem dX10_ticksOnce_185 : decode cX10_ticksOnce 185 = .ok (.aload_n 0, 1) := by decide +kernel
theorem dX10_ticksOnce_186 : decode cX10_ticksOnce 186 = .ok (.invokevirtual 166, 3) := by decide +kernel
theorem dX10_ticksOnce_189 : decode cX10_ticksOnce 189 = .ok (.aload_n 0, 1) := by decide +kernel
theorem dX10_ticksOnce_190 : decode cX10_ticksOnce 190 = .ok (.invokevirtual 272, 3) := by decide +kernel
theorem dX10_ticksOnce_193 : decode cX10_ticksOnce 193 = .ok (.iload_n 1, 1) := by decide +kernel
theorem dX10_ticksOnce_194 : decode cX10_ticksOnce 194 = .ok (.ireturn, 1) := by decide +kernel
theorem dX10_tick_0 : decode cX10_tick 0 = .ok (.aload_n 0, 1) := by decide +kernel
theorem dX10_tick_1 : decode cX10_tick 1 = .ok (.iload_n 1, 1) := by decide +kernel
theorem dX10_tick_2 : decode cX10_tick 2 = .ok (.iconst 1, 1) := by decide +kernel
theorem dX10_tick_3 : decode cX10_tick 3 = .ok (.bipush 60, 2) := by decide +kernel
theorem dX10_tick_5 : decode cX10_tick 5 = .ok (.invokestatic 54, 3) := by decide +kernel
theorem dX10_tick_8 : decode cX10_tick 8 = .ok (.ifCond .ne 7, 3) := by decide +kernel
theorem dX10_tick_11 : decode cX10_tick 11 = .ok (.iconst 1, 1) := by decide +kernel
theorem dX10_tick_12 : decode cX10_tick 12 = .ok (.goto 22, 3) := by decide +kernel
theorem dX10_tick_15 : decode cX10_tick 15 = .ok (.aload_n 0, 1) := by decide +kernel
theorem dX10_tick_16 : decode cX10_tick 16 = .ok (.getfield 7, 3) := by decide +kernel
theorem dX10_tick_19 : decode cX10_tick 19 = .ok (.iconst 0, 1) := by decide +kernel
theorem dX10_tick_20 : decode cX10_tick 20 = .ok (.iaload, 1) := by decide +kernel
theorem dX10_tick_21 : decode cX10_tick 21 = .ok (.iload_n 1, 1) := by decide +kernel
theorem dX10_tick_22 : decode cX10_tick 22 = .ok (.iadd, 1) := by decide +kernel
theorem dX10_tick_23 : decode cX10_tick 23 = .ok (.sipush 9999, 3) := by decide +kernel
theorem dX10_tick_26 : decode cX10_tick 26 = .ok (.if_icmp .le 7, 3) := by decide +kernel
theorem dX10_tick_29 : decode cX10_tick 29 = .ok (.iconst 2, 1) := by decide +kernel
theorem dX10_tick_30 : decode cX10_tick 30 = .ok (.goto 4, 3) := by decide +kernel
theorem dX10_tick_33 : decode cX10_tick 33 = .ok (.iconst 0, 1) := by decide +kernel
theorem dX10_tick_34 : decode cX10_tick 34 = .ok (.putfield 42, 3) := by decide +kernel
theorem dX10_tick_37 : decode cX10_tick 37 = .ok (.aload_n 0, 1) := by decide +kernel
theorem dX10_tick_38 : decode cX10_tick 38 = .ok (.getfield 42, 3) := by decide +kernel
theorem dX10_tick_41 : decode cX10_tick 41 = .ok (.ifCond .le 5, 3) := by decide +kernel
theorem dX10_tick_44 : decode cX10_tick 44 = .ok (.iconst 0, 1) := by decide +kernel
theorem dX10_tick_45 : decode cX10_tick 45 = .ok (.ireturn, 1) := by decide +kernel
theorem dX10_tick_46 : decode cX10_tick 46 = .ok (.aload_n 0, 1) := by decide +kernel
theorem dX10_tick_47 : decode cX10_tick 47 = .ok (.invokevirtual 169, 3) := by decide +kernel
theorem dX10_tick_50 : decode cX10_tick 50 = .ok (.iconst 0, 1) := by decide +kernel
theorem dX10_tick_51 : decode cX10_tick 51 = .ok (.istore_n 2, 1) := by decide +kernel
theorem dX10_tick_52 : decode cX10_tick 52 = .ok (.iconst 0, 1) := by decide +kernel
theorem dX10_tick_53 : decode cX10_tick 53 = .ok (.istore_n 3, 1) := by decide +kernel
theorem dX10_tick_54 : decode cX10_tick 54 = .ok (.iload_n 3, 1) := by decide +kernel
theorem dX10_tick_55 : decode cX10_tick 55 = .ok (.iload_n 1, 1) := by decide +kernel
theorem dX10_tick_56 : decode cX10_tick 56 = .ok (.if_icmp .ge 16, 3) := by decide +kernel
theorem dX10_tick_59 : decode cX10_tick 59 = .ok (.iload_n 2, 1) := by decide +kernel
theorem dX10_tick_60 : decode cX10_tick 60 = .ok (.aload_n 0, 1) := by decide +kernel
theorem dX10_tick_61 : decode cX10_tick 61 = .ok (.invokevirtual 275, 3) := by decide +kernel
theorem dX10_tick_64 : decode cX10_tick 64 = .ok (.iadd, 1) := by decide +kernel
theorem dX10_tick_65 : decode cX10_tick 65 = .ok (.istore_n 2, 1) := by decide +kernel
theorem dX10_tick_66 : decode cX10_tick 66 = .ok (.iinc 3 1, 3) := by decide +kernel
theorem dX10_tick_69 : decode cX10_tick 69 = .ok (.goto (-15), 3) := by decide +kernel
theorem dX10_tick_72 : decode cX10_tick 72 = .ok (.iload_n 2, 1) := by decide +kernel
theorem dX10_tick_73 : decode cX10_tick 73 = .ok (.ireturn, 1) := by decide +kernel
theorem dX10_finishedIn_0 : decode cX10_finishedIn 0 = .ok (.aload_n 0, 1) := by decide +kernel
theorem dX10_finishedIn_1 : decode cX10_finishedIn 1 = .ok (.aload_n 0, 1) := by decide +kernel
theorem dX10_finishedIn_2 : decode cX10_finishedIn 2 = .ok (.iload_n 1, 1) := by decide +kernel
theorem dX10_finishedIn_3 : decode cX10_finishedIn 3 = .ok (.invokevirtual 257, 3) := by decide +kernel
theorem dX10_finishedIn_6 : decode cX10_finishedIn 6 = .ok (.ifCond .ne 7, 3) := by decide +kernel
theorem dX10_finishedIn_9 : decode cX10_finishedIn 9 = .ok (.iconst 1, 1) := by decide +kernel
theorem dX10_finishedIn_10 : decode cX10_finishedIn 10 = .ok (.goto 18, 3) := by decide +kernel
theorem dX10_finishedIn_13 : decode cX10_finishedIn 13 = .ok (.aload_n 0, 1) := by decide +kernel
theorem dX10_finishedIn_14 : decode cX10_finishedIn 14 = .ok (.iload_n 1, 1) := by decide +kernel
theorem dX10_finishedIn_15 : decode cX10_finishedIn 15 = .ok (.iconst 3, 1) := by decide +kernel
theorem dX10_finishedIn_16 : decode cX10_finishedIn 16 = .ok (.invokevirtual 175, 3) := by decide +kernel
theorem dX10_finishedIn_19 : decode cX10_finishedIn 19 = .ok (.iconst 1, 1) := by decide +kernel
theorem dX10_finishedIn_20 : decode cX10_finishedIn 20 = .ok (.if_icmp .le 7, 3) := by decide +kernel
theorem dX10_finishedIn_23 : decode cX10_finishedIn 23 = .ok (.iconst 2, 1) := by decide +kernel
theorem dX10_finishedIn_24 : decode cX10_finishedIn 24 = .ok (.goto 4, 3) := by decide +kernel
theorem dX10_finishedIn_27 : decode cX10_finishedIn 27 = .ok (.iconst 0, 1) := by decide +kernel
theorem dX10_finishedIn_28 : decode cX10_finishedIn 28 = .ok (.putfield 42, 3) := by decide +kernel
theorem dX10_finishedIn_31 : decode cX10_finishedIn 31 = .ok (.aload_n 0, 1) := by decide +kernel
theorem dX10_finishedIn_32 : decode cX10_finishedIn 32 = .ok (.getfield 42, 3) := by decide +kernel
theorem dX10_finishedIn_35 : decode cX10_finishedIn 35 = .ok (.ifCond .le 5, 3) := by decide +kernel
theorem dX10_finishedIn_38 : decode cX10_finishedIn 38 = .ok (.iconst 0, 1) := by decide +kernel
theorem dX10_finishedIn_39 : decode cX10_finishedIn 39 = .ok (.ireturn, 1) := by decide +kernel
theorem dX10_finishedIn_40 : decode cX10_finishedIn 40 = .ok (.aload_n 0, 1) := by decide +kernel
theorem dX10_finishedIn_41 : decode cX10_finishedIn 41 = .ok (.getfield 16, 3) := by decide +kernel
theorem dX10_finishedIn_44 : decode cX10_finishedIn 44 = .ok (.aload_n 0, 1) := by decide +kernel
theorem dX10_finishedIn_45 : decode cX10_finishedIn 45 = .ok (.getfield 7, 3) := by decide +kernel
theorem dX10_finishedIn_48 : decode cX10_finishedIn 48 = .ok (.invokestatic 159, 3) := by decide +kernel
theorem dX10_finishedIn_51 : decode cX10_finishedIn 51 = .ok (.iconst 0, 1) := by decide +kernel
theorem dX10_finishedIn_52 : decode cX10_finishedIn 52 = .ok (.istore_n 2, 1) := by decide +kernel
theorem dX10_finishedIn_53 : decode cX10_finishedIn 53 = .ok (.iload_n 2, 1) := by decide +kernel
theorem dX10_finishedIn_54 : decode cX10_finishedIn 54 = .ok (.sipush 400, 3) := by decide +kernel
theorem dX10_finishedIn_57 : decode cX10_finishedIn 57 = .ok (.if_icmp .ge 27, 3) := by decide +kernel
theorem dX10_finishedIn_60 : decode cX10_finishedIn 60 = .ok (.aload_n 0, 1) := by decide +kernel
theorem dX10_finishedIn_61 : decode cX10_finishedIn 61 = .ok (.iload_n 1, 1) := by decide +kernel
theorem dX10_finishedIn_62 : decode cX10_finishedIn 62 = .ok (.iconst 3, 1) := by decide +kernel
theorem dX10_finishedIn_63 : decode cX10_finishedIn 63 = .ok (.invokevirtual 175, 3) := by decide +kernel
theorem dX10_finishedIn_66 : decode cX10_finishedIn 66 = .ok (.iconst 1, 1) := by decide +kernel
theorem dX10_finishedIn_67 : decode cX10_finishedIn 67 = .ok (.if_icmp .gt 17, 3) := by decide +kernel
theorem dX10_finishedIn_70 : decode cX10_finishedIn 70 = .ok (.aload_n 0, 1) := by decide +kernel
theorem dX10_finishedIn_71 : decode cX10_finishedIn 71 = .ok (.aload_n 0, 1) := by decide +kernel
theorem dX10_finishedIn_72 : decode cX10_finishedIn 72 = .ok (.invokevirtual 275, 3) := by decide +kernel
theorem dX10_finishedIn_75 : decode cX10_finishedIn 75 = .ok (.putfield 278, 3) := by decide +kernel
theorem dX10_finishedIn_78 : decode cX10_finishedIn 78 = .ok (.iinc 2 1, 3) := by decide +kernel
theorem dX10_finishedIn_81 : decode cX10_finishedIn 81 = .ok (.goto (-28), 3) := by decide +kernel
theorem dX10_finishedIn_84 : decode cX10_finishedIn 84 = .ok (.aload_n 0, 1) := by decide +kernel
theorem dX10_finishedIn_85 : decode cX10_finishedIn 85 = .ok (.iload_n 1, 1) := by decide +kernel
theorem dX10_finishedIn_86 : decode cX10_finishedIn 86 = .ok (.iconst 3, 1) := by decide +kernel
theorem dX10_finishedIn_87 : decode cX10_finishedIn 87 = .ok (.invokevirtual 175, 3) := by decide +kernel
theorem dX10_finishedIn_90 : decode cX10_finishedIn 90 = .ok (.iconst 2, 1) := by decide +kernel
theorem dX10_finishedIn_91 : decode cX10_finishedIn 91 = .ok (.if_icmp .ne 7, 3) := by decide +kernel
theorem dX10_finishedIn_94 : decode cX10_finishedIn 94 = .ok (.iconst 1, 1) := by decide +kernel
theorem dX10_finishedIn_95 : decode cX10_finishedIn 95 = .ok (.goto 4, 3) := by decide +kernel
theorem dX10_finishedIn_98 : decode cX10_finishedIn 98 = .ok (.iconst 0, 1) := by decide +kernel
theorem dX10_finishedIn_99 : decode cX10_finishedIn 99 = .ok (.istore_n 3, 1) := by decide +kernel
theorem dX10_finishedIn_100 : decode cX10_finishedIn 100 = .ok (.aload_n 0, 1) := by decide +kernel
theorem dX10_finishedIn_101 : decode cX10_finishedIn 101 = .ok (.aload_n 0, 1) := by decide +kernel
theorem dX10_finishedIn_102 : decode cX10_finishedIn 102 = .ok (.getfield 16, 3) := by decide +kernel
theorem dX10_finishedIn_105 : decode cX10_finishedIn 105 = .ok (.iconst 0, 1) := by decide +kernel
theorem dX10_finishedIn_106 : decode cX10_finishedIn 106 = .ok (.invokevirtual 38, 3) := by decide +kernel
theorem dX10_finishedIn_109 : decode cX10_finishedIn 109 = .ok (.iload_n 3, 1) := by decide +kernel
theorem dX10_finishedIn_110 : decode cX10_finishedIn 110 = .ok (.ifCond .eq 7, 3) := by decide +kernel
theorem dX10_finishedIn_113 : decode cX10_finishedIn 113 = .ok (.iload_n 2, 1) := by decide +kernel
theorem dX10_finishedIn_114 : decode cX10_finishedIn 114 = .ok (.goto 4, 3) := by decide +kernel
theorem dX10_finishedIn_117 : decode cX10_finishedIn 117 = .ok (.iconst (-1), 1) := by decide +kernel
theorem dX10_finishedIn_118 : decode cX10_finishedIn 118 = .ok (.ireturn, 1) := by decide +kernel
theorem dX10_ahead_0 : decode cX10_ahead 0 = .ok (.aload_n 0, 1) := by decide +kernel
theorem dX10_ahead_1 : decode cX10_ahead 1 = .ok (.iload_n 1, 1) := by decide +kernel
theorem dX10_ahead_2 : decode cX10_ahead 2 = .ok (.iconst 1, 1) := by decide +kernel
theorem dX10_ahead_3 : decode cX10_ahead 3 = .ok (.bipush 100, 2) := by decide +kernel
theorem dX10_ahead_5 : decode cX10_ahead 5 = .ok (.invokestatic 54, 3) := by decide +kernel
theorem dX10_ahead_8 : decode cX10_ahead 8 = .ok (.ifCond .eq 16, 3) := by decide +kernel
theorem dX10_ahead_11 : decode cX10_ahead 11 = .ok (.iload_n 2, 1) := by decide +kernel
theorem dX10_ahead_12 : decode cX10_ahead 12 = .ok (.iconst 0, 1) := by decide +kernel
theorem dX10_ahead_13 : decode cX10_ahead 13 = .ok (.iconst 3, 1) := by decide +kernel
theorem dX10_ahead_14 : decode cX10_ahead 14 = .ok (.invokestatic 54, 3) := by decide +kernel
theorem dX10_ahead_17 : decode cX10_ahead 17 = .ok (.ifCond .eq 7, 3) := by decide +kernel
theorem dX10_ahead_20 : decode cX10_ahead 20 = .ok (.iconst 0, 1) := by decide +kernel
theorem dX10_ahead_21 : decode cX10_ahead 21 = .ok (.goto 4, 3) := by decide +kernel
theorem dX10_ahead_24 : decode cX10_ahead 24 = .ok (.iconst 1, 1) := by decide +kernel
theorem dX10_ahead_25 : decode cX10_ahead 25 = .ok (.putfield 42, 3) := by decide +kernel
theorem dX10_ahead_28 : decode cX10_ahead 28 = .ok (.aload_n 0, 1) := by decide +kernel
theorem dX10_ahead_29 : decode cX10_ahead 29 = .ok (.getfield 42, 3) := by decide +kernel
theorem dX10_ahead_32 : decode cX10_ahead 32 = .ok (.ifCond .le 5, 3) := by decide +kernel
theorem dX10_ahead_35 : decode cX10_ahead 35 = .ok (.iconst 0, 1) := by decide +kernel
theorem dX10_ahead_36 : decode cX10_ahead 36 = .ok (.ireturn, 1) := by decide +kernel
theorem dX10_ahead_37 : decode cX10_ahead 37 = .ok (.aload_n 0, 1) := by decide +kernel
theorem dX10_ahead_38 : decode cX10_ahead 38 = .ok (.getfield 16, 3) := by decide +kernel
theorem dX10_ahead_41 : decode cX10_ahead 41 = .ok (.aload_n 0, 1) := by decide +kernel
theorem dX10_ahead_42 : decode cX10_ahead 42 = .ok (.getfield 7, 3) := by decide +kernel
theorem dX10_ahead_45 : decode cX10_ahead 45 = .ok (.invokestatic 159, 3) := by decide +kernel
theorem dX10_ahead_48 : decode cX10_ahead 48 = .ok (.iconst 0, 1) := by decide +kernel
theorem dX10_ahead_49 : decode cX10_ahead 49 = .ok (.istore_n 3, 1) := by decide +kernel
theorem dX10_ahead_50 : decode cX10_ahead 50 = .ok (.iload_n 3, 1) := by decide +kernel
theorem dX10_ahead_51 : decode cX10_ahead 51 = .ok (.iload_n 1, 1) := by decide +kernel
theorem dX10_ahead_52 : decode cX10_ahead 52 = .ok (.if_icmp .ge 17, 3) := by decide +kernel
theorem dX10_ahead_55 : decode cX10_ahead 55 = .ok (.aload_n 0, 1) := by decide +kernel
theorem dX10_ahead_56 : decode cX10_ahead 56 = .ok (.aload_n 0, 1) := by decide +kernel
theorem dX10_ahead_57 : decode cX10_ahead 57 = .ok (.invokevirtual 275, 3) := by decide +kernel
theorem dX10_ahead_60 : decode cX10_ahead 60 = .ok (.putfield 278, 3) := by decide +kernel
theorem dX10_ahead_63 : decode cX10_ahead 63 = .ok (.iinc 3 1, 3) := by decide +kernel
theorem dX10_ahead_66 : decode cX10_ahead 66 = .ok (.goto (-16), 3) := by decide +kernel
theorem dX10_ahead_69 : decode cX10_ahead 69 = .ok (.iload_n 2, 1) := by decide +kernel
theorem dX10_ahead_70 : decode cX10_ahead 70 = .ok (.ifCond .ne 11, 3) := by decide +kernel
theorem dX10_ahead_73 : decode cX10_ahead 73 = .ok (.aload_n 0, 1) := by decide +kernel
theorem dX10_ahead_74 : decode cX10_ahead 74 = .ok (.iconst 2, 1) := by decide +kernel
theorem dX10_ahead_75 : decode cX10_ahead 75 = .ok (.invokevirtual 263, 3) := by decide +kernel
theorem dX10_ahead_78 : decode cX10_ahead 78 = .ok (.goto 35, 3) := by decide +kernel
theorem dX10_ahead_81 : decode cX10_ahead 81 = .ok (.iload_n 2, 1) := by decide +kernel
theorem dX10_ahead_82 : decode cX10_ahead 82 = .ok (.iconst 1, 1) := by decide +kernel
theorem dX10_ahead_83 : decode cX10_ahead 83 = .ok (.if_icmp .ne 11, 3) := by decide +kernel
theorem dX10_ahead_86 : decode cX10_ahead 86 = .ok (.aload_n 0, 1) := by decide +kernel
theorem dX10_ahead_87 : decode cX10_ahead 87 = .ok (.iconst 0, 1) := by decide +kernel
theorem dX10_ahead_88 : decode cX10_ahead 88 = .ok (.invokevirtual 263, 3) := by decide +kernel
theorem dX10_ahead_91 : decode cX10_ahead 91 = .ok (.goto 22, 3) := by decide +kernel
theorem dX10_ahead_94 : decode cX10_ahead 94 = .ok (.iload_n 2, 1) := by decide +kernel
theorem dX10_ahead_95 : decode cX10_ahead 95 = .ok (.iconst 2, 1) := by decide +kernel
theorem dX10_ahead_96 : decode cX10_ahead 96 = .ok (.if_icmp .ne 13, 3) := by decide +kernel
theorem dX10_ahead_99 : decode cX10_ahead 99 = .ok (.aload_n 0, 1) := by decide +kernel
theorem dX10_ahead_100 : decode cX10_ahead 100 = .ok (.getfield 7, 3) := by decide +kernel
theorem dX10_ahead_103 : decode cX10_ahead 103 = .ok (.bipush 8, 2) := by decide +kernel
theorem dX10_ahead_105 : decode cX10_ahead 105 = .ok (.iaload, 1) := by decide +kernel
theorem dX10_ahead_106 : decode cX10_ahead 106 = .ok (.goto 7, 3) := by decide +kernel
theorem dX10_ahead_109 : decode cX10_ahead 109 = .ok (.aload_n 0, 1) := by decide +kernel
theorem dX10_ahead_110 : decode cX10_ahead 110 = .ok (.invokevirtual 266, 3) := by decide +kernel
theorem dX10_ahead_113 : decode cX10_ahead 113 = .ok (.istore_n 3, 1) := by decide +kernel
theorem dX10_ahead_114 : decode cX10_ahead 114 = .ok (.aload_n 0, 1) := by decide +kernel
theorem dX10_ahead_115 : decode cX10_ahead 115 = .ok (.aload_n 0, 1) := by decide +kernel
theorem dX10_ahead_116 : decode cX10_ahead 116 = .ok (.getfield 16, 3) := by decide +kernel
theorem dX10_ahead_119 : decode cX10_ahead 119 = .ok (.iconst 0, 1) := by decide +kernel
theorem dX10_ahead_120 : decode cX10_ahead 120 = .ok (.invokevirtual 38, 3) := by decide +kernel
theorem dX10_ahead_123 : decode cX10_ahead 123 = .ok (.iload_n 3, 1) := by decide +kernel
theorem dX10_ahead_124 : decode cX10_ahead 124 = .ok (.ireturn, 1) := by decide +kernel
theorem dX10_lackOf_0 : decode cX10_lackOf 0 = .ok (.aload_n 0, 1) := by decide +kernel
theorem dX10_lackOf_1 : decode cX10_lackOf 1 = .ok (.iconst 0, 1) := by decide +kernel
theorem dX10_lackOf_2 : decode cX10_lackOf 2 = .ok (.invokevirtual 198, 3) := by decide +kernel
theorem dX10_lackOf_5 : decode cX10_lackOf 5 = .ok (.istore_n 2, 1) := by decide +kernel
theorem dX10_lackOf_6 : decode cX10_lackOf 6 = .ok (.aload_n 0, 1) := by decide +kernel
theorem dX10_lackOf_7 : decode cX10_lackOf 7 = .ok (.iload_n 1, 1) := by decide +kernel
theorem dX10_lackOf_8 : decode cX10_lackOf 8 = .ok (.invokevirtual 182, 3) := by decide +kernel
theorem dX10_lackOf_11 : decode cX10_lackOf 11 = .ok (.iload_n 2, 1) := by decide +kernel
theorem dX10_lackOf_12 : decode cX10_lackOf 12 = .ok (.ifCond .ne 7, 3) := by decide +kernel
theorem dX10_lackOf_15 : decode cX10_lackOf 15 = .ok (.iconst 0, 1) := by decide +kernel
theorem dX10_lackOf_16 : decode cX10_lackOf 16 = .ok (.goto 21, 3) := by decide +kernel
theorem dX10_lackOf_19 : decode cX10_lackOf 19 = .ok (.ldc2_w 281, 3) := by decide +kernel
theorem dX10_lackOf_22 : decode cX10_lackOf 22 = .ok (.aload_n 0, 1) := by decide +kernel
theorem dX10_lackOf_23 : decode cX10_lackOf 23 = .ok (.getfield 7, 3) := by decide +kernel
theorem dX10_lackOf_26 : decode cX10_lackOf 26 = .ok (.bipush 34, 2) := by decide +kernel
theorem dX10_lackOf_28 : decode cX10_lackOf 28 = .ok (.iload_n 1, 1) := by decide +kernel
theorem dX10_lackOf_29 : decode cX10_lackOf 29 = .ok (.iadd, 1) := by decide +kernel
theorem dX10_lackOf_30 : decode cX10_lackOf 30 = .ok (.iaload, 1) := by decide +kernel
theorem dX10_lackOf_31 : decode cX10_lackOf 31 = .ok (.i2l, 1) := by decide +kernel
theorem dX10_lackOf_32 : decode cX10_lackOf 32 = .ok (.lmul, 1) := by decide +kernel
theorem dX10_lackOf_33 : decode cX10_lackOf 33 = .ok (.iload_n 2, 1) := by decide +kernel
theorem dX10_lackOf_34 : decode cX10_lackOf 34 = .ok (.i2l, 1) := by decide +kernel
theorem dX10_lackOf_35 : decode cX10_lackOf 35 = .ok (.ldiv, 1) := by decide +kernel
theorem dX10_lackOf_36 : decode cX10_lackOf 36 = .ok (.l2i, 1) := by decide +kernel
theorem dX10_lackOf_37 : decode cX10_lackOf 37 = .ok (.isub, 1) := by decide +kernel
theorem dX10_lackOf_38 : decode cX10_lackOf 38 = .ok (.ireturn, 1) := by decide +kernel
theorem dX10_drift_0 : decode cX10_drift 0 = .ok (.aload_n 0, 1) := by decide +kernel
theorem dX10_drift_1 : decode cX10_drift 1 = .ok (.iconst 0, 1) := by decide +kernel
theorem dX10_drift_2 : decode cX10_drift 2 = .ok (.putfield 42, 3) := by decide +kernel
theorem dX10_drift_5 : decode cX10_drift 5 = .ok (.iconst 0, 1) := by decide +kernel
theorem dX10_drift_6 : decode cX10_drift 6 = .ok (.istore_n 1, 1) := by decide +kernel
theorem dX10_drift_7 : decode cX10_drift 7 = .ok (.iconst 0, 1) := by decide +kernel
theorem dX10_drift_8 : decode cX10_drift 8 = .ok (.istore_n 2, 1) := by decide +kernel
theorem dX10_drift_9 : decode cX10_drift 9 = .ok (.iload_n 2, 1) := by decide +kernel
theorem dX10_drift_10 : decode cX10_drift 10 = .ok (.aload_n 0, 1) := by decide +kernel
theorem dX10_drift_11 : decode cX10_drift 11 = .ok (.getfield 7, 3) := by decide +kernel
theorem dX10_drift_14 : decode cX10_drift 14 = .ok (.iconst 4, 1) := by decide +kernel
theorem dX10_drift_15 : decode cX10_drift 15 = .ok (.iaload, 1) := by decide +kernel
theorem dX10_drift_16 : decode cX10_drift 16 = .ok (.if_icmp .ge 46, 3) := by decide +kernel
theorem dX10_drift_19 : decode cX10_drift 19 = .ok (.iload_n 1, 1) := by decide +kernel
theorem dX10_drift_20 : decode cX10_drift 20 = .ok (.aload_n 0, 1) := by decide +kernel
theorem dX10_drift_21 : decode cX10_drift 21 = .ok (.iload_n 2, 1) := by decide +kernel
theorem dX10_drift_22 : decode cX10_drift 22 = .ok (.invokevirtual 119, 3) := by decide +kernel
theorem dX10_drift_25 : decode cX10_drift 25 = .ok (.ifCond .ne 7, 3) := by decide +kernel
theorem dX10_drift_28 : decode cX10_drift 28 = .ok (.iconst 0, 1) := by decide +kernel
theorem dX10_drift_29 : decode cX10_drift 29 = .ok (.goto 25, 3) := by decide +kernel
theorem dX10_drift_32 : decode cX10_drift 32 = .ok (.aload_n 0, 1) := by decide +kernel
theorem dX10_drift_33 : decode cX10_drift 33 = .ok (.iload_n 2, 1) := by decide +kernel
theorem dX10_drift_34 : decode cX10_drift 34 = .ok (.invokevirtual 283, 3) := by decide +kernel
theorem dX10_drift_37 : decode cX10_drift 37 = .ok (.ifCond .ge 12, 3) := by decide +kernel
theorem dX10_drift_40 : decode cX10_drift 40 = .ok (.aload_n 0, 1) := by decide +kernel
theorem dX10_drift_41 : decode cX10_drift 41 = .ok (.iload_n 2, 1) := by decide +kernel
theorem dX10_drift_42 : decode cX10_drift 42 = .ok (.invokevirtual 283, 3) := by decide +kernel
theorem dX10_drift_45 : decode cX10_drift 45 = .ok (.ineg, 1) := by decide +kernel
theorem dX10_drift_46 : decode cX10_drift 46 = .ok (.goto 8, 3) := by decide +kernel
theorem dX10_drift_49 : decode cX10_drift 49 = .ok (.aload_n 0, 1) := by decide +kernel
theorem dX10_drift_50 : decode cX10_drift 50 = .ok (.iload_n 2, 1) := by decide +kernel
theorem dX10_drift_51 : decode cX10_drift 51 = .ok (.invokevirtual 283, 3) := by decide +kernel
theorem dX10_drift_54 : decode cX10_drift 54 = .ok (.iadd, 1) := by decide +kernel
theorem dX10_drift_55 : decode cX10_drift 55 = .ok (.istore_n 1, 1) := by decide +kernel
theorem dX10_drift_56 : decode cX10_drift 56 = .ok (.iinc 2 1, 3) := by decide +kernel
theorem dX10_drift_59 : decode cX10_drift 59 = .ok (.goto (-50), 3) := by decide +kernel
theorem dX10_drift_62 : decode cX10_drift 62 = .ok (.iload_n 1, 1) := by decide +kernel
theorem dX10_drift_63 : decode cX10_drift 63 = .ok (.ireturn, 1) := by decide +kernel
theorem dX10_part_0 : decode cX10_part 0 = .ok (.aload_n 0, 1) := by decide +kernel
theorem dX10_part_1 : decode cX10_part 1 = .ok (.aload_n 0, 1) := by decide +kernel
theorem dX10_part_2 : decode cX10_part 2 = .ok (.iload_n 1, 1) := by decide +kernel
theorem dX10_part_3 : decode cX10_part 3 = .ok (.invokevirtual 192, 3) := by decide +kernel
theorem dX10_part_6 : decode cX10_part 6 = .ok (.ifCond .ne 7, 3) := by decide +kernel
theorem dX10_part_9 : decode cX10_part 9 = .ok (.iconst 1, 1) := by decide +kernel
theorem dX10_part_10 : decode cX10_part 10 = .ok (.goto 16, 3) := by decide +kernel
theorem dX10_part_13 : decode cX10_part 13 = .ok (.aload_n 0, 1) := by decide +kernel
theorem dX10_part_14 : decode cX10_part 14 = .ok (.iconst 0, 1) := by decide +kernel
theorem dX10_part_15 : decode cX10_part 15 = .ok (.invokevirtual 198, 3) := by decide +kernel
theorem dX10_part_18 : decode cX10_part 18 = .ok (.ifCond .ne 7, 3) := by decide +kernel
theorem dX10_part_21 : decode cX10_part 21 = .ok (.iconst 2, 1) := by decide +kernel
theorem dX10_part_22 : decode cX10_part 22 = .ok (.goto 4, 3) := by decide +kernel
theorem dX10_part_25 : decode cX10_part 25 = .ok (.iconst 0, 1) := by decide +kernel
theorem dX10_part_26 : decode cX10_part 26 = .ok (.putfield 42, 3) := by decide +kernel
theorem dX10_part_29 : decode cX10_part 29 = .ok (.aload_n 0, 1) := by decide +kernel
theorem dX10_part_30 : decode cX10_part 30 = .ok (.getfield 42, 3) := by decide +kernel
theorem dX10_part_33 : decode cX10_part 33 = .ok (.ifCond .le 7, 3) := by decide +kernel
theorem dX10_part_36 : decode cX10_part 36 = .ok (.fconst 0, 1) := by decide +kernel
theorem dX10_part_37 : decode cX10_part 37 = .ok (.goto 16, 3) := by decide +kernel
theorem dX10_part_40 : decode cX10_part 40 = .ok (.aload_n 0, 1) := by decide +kernel
theorem dX10_part_41 : decode cX10_part 41 = .ok (.iload_n 1, 1) := by decide +kernel
theorem dX10_part_42 : decode cX10_part 42 = .ok (.invokevirtual 198, 3) := by decide +kernel
theorem dX10_part_45 : decode cX10_part 45 = .ok (.i2f, 1) := by decide +kernel
theorem dX10_part_46 : decode cX10_part 46 = .ok (.aload_n 0, 1) := by decide +kernel
theorem dX10_part_47 : decode cX10_part 47 = .ok (.iconst 0, 1) := by decide +kernel
theorem dX10_part_48 : decode cX10_part 48 = .ok (.invokevirtual 198, 3) := by decide +kernel
theorem dX10_part_51 : decode cX10_part 51 = .ok (.i2f, 1) := by decide +kernel
theorem dX10_part_52 : decode cX10_part 52 = .ok (.fdiv, 1) := by decide +kernel
theorem dX10_part_53 : decode cX10_part 53 = .ok (.freturn, 1) := by decide +kernel
theorem dX10_neediest_0 : decode cX10_neediest 0 = .ok (.aload_n 0, 1) := by decide +kernel
theorem dX10_neediest_1 : decode cX10_neediest 1 = .ok (.iconst 0, 1) := by decide +kernel
theorem dX10_neediest_2 : decode cX10_neediest 2 = .ok (.putfield 42, 3) := by decide +kernel
theorem dX10_neediest_5 : decode cX10_neediest 5 = .ok (.iconst (-1), 1) := by decide +kernel
theorem dX10_neediest_6 : decode cX10_neediest 6 = .ok (.istore_n 1, 1) := by decide +kernel
theorem dX10_neediest_7 : decode cX10_neediest 7 = .ok (.iconst 0, 1) := by decide +kernel
theorem dX10_neediest_8 : decode cX10_neediest 8 = .ok (.istore_n 2, 1) := by decide +kernel
theorem dX10_neediest_9 : decode cX10_neediest 9 = .ok (.iload_n 2, 1) := by decide +kernel
theorem dX10_neediest_10 : decode cX10_neediest 10 = .ok (.aload_n 0, 1) := by decide +kernel
theorem dX10_neediest_11 : decode cX10_neediest 11 = .ok (.getfield 7, 3) := by decide +kernel
theorem dX10_neediest_14 : decode cX10_neediest 14 = .ok (.iconst 4, 1) := by decide +kernel
theorem dX10_neediest_15 : decode cX10_neediest 15 = .ok (.iaload, 1) := by decide +kernel
theorem dX10_neediest_16 : decode cX10_neediest 16 = .ok (.if_icmp .ge 41, 3) := by decide +kernel
theorem dX10_neediest_19 : decode cX10_neediest 19 = .ok (.aload_n 0, 1) := by decide +kernel
theorem dX10_neediest_20 : decode cX10_neediest 20 = .ok (.iload_n 2, 1) := by decide +kernel
theorem dX10_neediest_21 : decode cX10_neediest 21 = .ok (.invokevirtual 119, 3) := by decide +kernel
theorem dX10_neediest_24 : decode cX10_neediest 24 = .ok (.ifCond .eq 25, 3) := by decide +kernel
theorem dX10_neediest_27 : decode cX10_neediest 27 = .ok (.iload_n 1, 1) := by decide +kernel
theorem dX10_neediest_28 : decode cX10_neediest 28 = .ok (.iconst (-1), 1) := by decide +kernel
theorem dX10_neediest_29 : decode cX10_neediest 29 = .ok (.if_icmp .eq 16, 3) := by decide +kernel
theorem dX10_neediest_32 : decode cX10_neediest 32 = .ok (.aload_n 0, 1) := by decide +kernel
theorem dX10_neediest_33 : decode cX10_neediest 33 = .ok (.iload_n 2, 1) := by decide +kernel
theorem dX10_neediest_34 : decode cX10_neediest 34 = .ok (.invokevirtual 283, 3) := by decide +kernel
theorem dX10_neediest_37 : decode cX10_neediest 37 = .ok (.aload_n 0, 1) := by decide +kernel
theorem dX10_neediest_38 : decode cX10_neediest 38 = .ok (.iload_n 1, 1) := by decide +kernel
theorem dX10_neediest_39 : decode cX10_neediest 39 = .ok (.invokevirtual 283, 3) := by decide +kernel
theorem dX10_neediest_42 : decode cX10_neediest 42 = .ok (.if_icmp .le 7, 3) := by decide +kernel
theorem dX10_neediest_45 : decode cX10_neediest 45 = .ok (.iload_n 2, 1) := by decide +kernel
theorem dX10_neediest_46 : decode cX10_neediest 46 = .ok (.goto 4, 3) := by decide +kernel
theorem dX10_neediest_49 : decode cX10_neediest 49 = .ok (.iload_n 1, 1) := by decide +kernel
theorem dX10_neediest_50 : decode cX10_neediest 50 = .ok (.istore_n 1, 1) := by decide +kernel
theorem dX10_neediest_51 : decode cX10_neediest 51 = .ok (.iinc 2 1, 3) := by decide +kernel
theorem dX10_neediest_54 : decode cX10_neediest 54 = .ok (.goto (-45), 3) := by decide +kernel
theorem dX10_neediest_57 : decode cX10_neediest 57 = .ok (.iload_n 1, 1) := by decide +kernel
theorem dX10_neediest_58 : decode cX10_neediest 58 = .ok (.ireturn, 1) := by decide +kernel
theorem dX10_says_0 : decode cX10_says 0 = .ok (.aload_n 0, 1) := by decide +kernel
theorem dX10_says_1 : decode cX10_says 1 = .ok (.getfield 32, 3) := by decide +kernel
theorem dX10_says_4 : decode cX10_says 4 = .ok (.aload_n 0, 1) := by decide +kernel
theorem dX10_says_5 : decode cX10_says 5 = .ok (.getfield 286, 3) := by decide +kernel
theorem dX10_says_8 : decode cX10_says 8 = .ok (.iload_n 1, 1) := by decide +kernel
theorem dX10_says_9 : decode cX10_says 9 = .ok (.iastore, 1) := by decide +kernel
theorem dX10_says_10 : decode cX10_says 10 = .ok (.aload_n 0, 1) := by decide +kernel
theorem dX10_says_11 : decode cX10_says 11 = .ok (.dup, 1) := by decide +kernel
theorem dX10_says_12 : decode cX10_says 12 = .ok (.getfield 286, 3) := by decide +kernel
theorem dX10_says_15 : decode cX10_says 15 = .ok (.iconst 1, 1) := by decide +kernel
theorem dX10_says_16 : decode cX10_says 16 = .ok (.iadd, 1) := by decide +kernel
theorem dX10_says_17 : decode cX10_says 17 = .ok (.putfield 286, 3) := by decide +kernel
theorem dX10_says_20 : decode cX10_says 20 = .ok (.return_, 1) := by decide +kernel
theorem dX10_saysJobs_0 : decode cX10_saysJobs 0 = .ok (.iconst 0, 1) := by decide +kernel
theorem dX10_saysJobs_1 : decode cX10_saysJobs 1 = .ok (.istore_n 2, 1) := by decide +kernel
theorem dX10_saysJobs_2 : decode cX10_saysJobs 2 = .ok (.iconst 0, 1) := by decide +kernel
theorem dX10_saysJobs_3 : decode cX10_saysJobs 3 = .ok (.istore_n 3, 1) := by decide +kernel
theorem dX10_saysJobs_4 : decode cX10_saysJobs 4 = .ok (.iload_n 3, 1) := by decide +kernel
theorem dX10_saysJobs_5 : decode cX10_saysJobs 5 = .ok (.aload_n 0, 1) := by decide +kernel
theorem dX10_saysJobs_6 : decode cX10_saysJobs 6 = .ok (.getfield 7, 3) := by decide +kernel
theorem dX10_saysJobs_9 : decode cX10_saysJobs 9 = .ok (.bipush 6, 2) := by decide +kernel
theorem dX10_saysJobs_11 : decode cX10_saysJobs 11 = .ok (.iaload, 1) := by decide +kernel
theorem dX10_saysJobs_12 : decode cX10_saysJobs 12 = .ok (.if_icmp .ge 72, 3) := by decide +kernel
theorem dX10_saysJobs_15 : decode cX10_saysJobs 15 = .ok (.aload_n 0, 1) := by decide +kernel
theorem dX10_saysJobs_16 : decode cX10_saysJobs 16 = .ok (.iload_n 3, 1) := by decide +kernel
theorem dX10_saysJobs_17 : decode cX10_saysJobs 17 = .ok (.iconst 3, 1) := by decide +kernel
theorem dX10_saysJobs_18 : decode cX10_saysJobs 18 = .ok (.invokevirtual 175, 3) := by decide +kernel
theorem dX10_saysJobs_21 : decode cX10_saysJobs 21 = .ok (.iconst 1, 1) := by decide +kernel
theorem dX10_saysJobs_22 : decode cX10_saysJobs 22 = .ok (.if_icmp .ne 56, 3) := by decide +kernel
theorem dX10_saysJobs_25 : decode cX10_saysJobs 25 = .ok (.aload_n 0, 1) := by decide +kernel
theorem dX10_saysJobs_26 : decode cX10_saysJobs 26 = .ok (.iload_n 3, 1) := by decide +kernel
theorem dX10_saysJobs_27 : decode cX10_saysJobs 27 = .ok (.iconst 4, 1) := by decide +kernel
theorem dX10_saysJobs_28 : decode cX10_saysJobs 28 = .ok (.invokevirtual 175, 3) := by decide +kernel
theorem dX10_saysJobs_31 : decode cX10_saysJobs 31 = .ok (.iload_n 1, 1) := by decide +kernel
theorem dX10_saysJobs_32 : decode cX10_saysJobs 32 = .ok (.if_icmp .eq 6, 3) := by decide +kernel
theorem dX10_saysJobs_35 : decode cX10_saysJobs 35 = .ok (.goto 43, 3) := by decide +kernel
theorem dX10_saysJobs_38 : decode cX10_saysJobs 38 = .ok (.iload_n 2, 1) := by decide +kernel
theorem dX10_saysJobs_39 : decode cX10_saysJobs 39 = .ok (.ifCond .eq 9, 3) := by decide +kernel
theorem dX10_saysJobs_42 : decode cX10_saysJobs 42 = .ok (.aload_n 0, 1) := by decide +kernel
theorem dX10_saysJobs_43 : decode cX10_saysJobs 43 = .ok (.bipush 44, 2) := by decide +kernel
theorem dX10_saysJobs_45 : decode cX10_saysJobs 45 = .ok (.invokevirtual 289, 3) := by decide +kernel
theorem dX10_saysJobs_48 : decode cX10_saysJobs 48 = .ok (.iload_n 3, 1) := by decide +kernel
theorem dX10_saysJobs_49 : decode cX10_saysJobs 49 = .ok (.bipush 9, 2) := by decide +kernel
theorem dX10_saysJobs_51 : decode cX10_saysJobs 51 = .ok (.if_icmp .le 14, 3) := by decide +kernel
theorem dX10_saysJobs_54 : decode cX10_saysJobs 54 = .ok (.aload_n 0, 1) := by decide +kernel
theorem dX10_saysJobs_55 : decode cX10_saysJobs 55 = .ok (.bipush 48, 2) := by decide +kernel
theorem dX10_saysJobs_57 : decode cX10_saysJobs 57 = .ok (.iload_n 3, 1) := by decide +kernel
theorem dX10_saysJobs_58 : decode cX10_saysJobs 58 = .ok (.bipush 10, 2) := by decide +kernel
theorem dX10_saysJobs_60 : decode cX10_saysJobs 60 = .ok (.idiv, 1) := by decide +kernel
theorem dX10_saysJobs_61 : decode cX10_saysJobs 61 = .ok (.iadd, 1) := by decide +kernel
theorem dX10_saysJobs_62 : decode cX10_saysJobs 62 = .ok (.invokevirtual 289, 3) := by decide +kernel
theorem dX10_saysJobs_65 : decode cX10_saysJobs 65 = .ok (.aload_n 0, 1) := by decide +kernel
theorem dX10_saysJobs_66 : decode cX10_saysJobs 66 = .ok (.bipush 48, 2) := by decide +kernel
theorem dX10_saysJobs_68 : decode cX10_saysJobs 68 = .ok (.iload_n 3, 1) := by decide +kernel
theorem dX10_saysJobs_69 : decode cX10_saysJobs 69 = .ok (.bipush 10, 2) := by decide +kernel
theorem dX10_saysJobs_71 : decode cX10_saysJobs 71 = .ok (.irem, 1) := by decide +kernel
theorem dX10_saysJobs_72 : decode cX10_saysJobs 72 = .ok (.iadd, 1) := by decide +kernel
theorem dX10_saysJobs_73 : decode cX10_saysJobs 73 = .ok (.invokevirtual 289, 3) := by decide +kernel
theorem dX10_saysJobs_76 : decode cX10_saysJobs 76 = .ok (.iconst 1, 1) := by decide +kernel
theorem dX10_saysJobs_77 : decode cX10_saysJobs 77 = .ok (.istore_n 2, 1) := by decide +kernel
theorem dX10_saysJobs_78 : decode cX10_saysJobs 78 = .ok (.iinc 3 1, 3) := by decide +kernel
theorem dX10_saysJobs_81 : decode cX10_saysJobs 81 = .ok (.goto (-77), 3) := by decide +kernel
theorem dX10_saysJobs_84 : decode cX10_saysJobs 84 = .ok (.iload_n 2, 1) := by decide +kernel
theorem dX10_saysJobs_85 : decode cX10_saysJobs 85 = .ok (.ifCond .ne 27, 3) := by decide +kernel
theorem dX10_saysJobs_88 : decode cX10_saysJobs 88 = .ok (.aload_n 0, 1) := by decide +kernel
theorem dX10_saysJobs_89 : decode cX10_saysJobs 89 = .ok (.aload_n 0, 1) := by decide +kernel
theorem dX10_saysJobs_90 : decode cX10_saysJobs 90 = .ok (.getfield 7, 3) := by decide +kernel
theorem dX10_saysJobs_93 : decode cX10_saysJobs 93 = .ok (.bipush 52, 2) := by decide +kernel
theorem dX10_saysJobs_95 : decode cX10_saysJobs 95 = .ok (.iload_n 1, 1) := by decide +kernel
theorem dX10_saysJobs_96 : decode cX10_saysJobs 96 = .ok (.iadd, 1) := by decide +kernel
theorem dX10_saysJobs_97 : decode cX10_saysJobs 97 = .ok (.iaload, 1) := by decide +kernel
theorem dX10_saysJobs_98 : decode cX10_saysJobs 98 = .ok (.iconst 1, 1) := by decide +kernel
theorem dX10_saysJobs_99 : decode cX10_saysJobs 99 = .ok (.if_icmp .ne 8, 3) := by decide +kernel
theorem dX10_saysJobs_102 : decode cX10_saysJobs 102 = .ok (.bipush 45, 2) := by decide +kernel
theorem dX10_saysJobs_104 : decode cX10_saysJobs 104 = .ok (.goto 5, 3) := by decide +kernel
theorem dX10_saysJobs_107 : decode cX10_saysJobs 107 = .ok (.bipush 120, 2) := by decide +kernel
theorem dX10_saysJobs_109 : decode cX10_saysJobs 109 = .ok (.invokevirtual 289, 3) := by decide +kernel
theorem dX10_saysJobs_112 : decode cX10_saysJobs 112 = .ok (.return_, 1) := by decide +kernel
theorem dX10_writeMachines_0 : decode cX10_writeMachines 0 = .ok (.aload_n 0, 1) := by decide +kernel
theorem dX10_writeMachines_1 : decode cX10_writeMachines 1 = .ok (.iconst 0, 1) := by decide +kernel
theorem dX10_writeMachines_2 : decode cX10_writeMachines 2 = .ok (.putfield 42, 3) := by decide +kernel
theorem dX10_writeMachines_5 : decode cX10_writeMachines 5 = .ok (.aload_n 0, 1) := by decide +kernel
theorem dX10_writeMachines_6 : decode cX10_writeMachines 6 = .ok (.iconst 0, 1) := by decide +kernel
theorem dX10_writeMachines_7 : decode cX10_writeMachines 7 = .ok (.putfield 286, 3) := by decide +kernel
theorem dX10_writeMachines_10 : decode cX10_writeMachines 10 = .ok (.iconst 0, 1) := by decide +kernel
theorem dX10_writeMachines_11 : decode cX10_writeMachines 11 = .ok (.istore_n 1, 1) := by decide +kernel
theorem dX10_writeMachines_12 : decode cX10_writeMachines 12 = .ok (.iload_n 1, 1) := by decide +kernel
theorem dX10_writeMachines_13 : decode cX10_writeMachines 13 = .ok (.aload_n 0, 1) := by decide +kernel
theorem dX10_writeMachines_14 : decode cX10_writeMachines 14 = .ok (.getfield 7, 3) := by decide +kernel
theorem dX10_writeMachines_17 : decode cX10_writeMachines 17 = .ok (.iconst 5, 1) := by decide +kernel
theorem dX10_writeMachines_18 : decode cX10_writeMachines 18 = .ok (.iaload, 1) := by decide +kernel
theorem dX10_writeMachines_19 : decode cX10_writeMachines 19 = .ok (.if_icmp .ge 24, 3) := by decide +kernel
theorem dX10_writeMachines_22 : decode cX10_writeMachines 22 = .ok (.iload_n 1, 1) := by decide +kernel
theorem dX10_writeMachines_23 : decode cX10_writeMachines 23 = .ok (.ifCond .le 9, 3) := by decide +kernel
theorem dX10_writeMachines_26 : decode cX10_writeMachines 26 = .ok (.aload_n 0, 1) := by decide +kernel
theorem dX10_writeMachines_27 : decode cX10_writeMachines 27 = .ok (.bipush 32, 2) := by decide +kernel
theorem dX10_writeMachines_29 : decode cX10_writeMachines 29 = .ok (.invokevirtual 289, 3) := by decide +kernel
theorem dX10_writeMachines_32 : decode cX10_writeMachines 32 = .ok (.aload_n 0, 1) := by decide +kernel
theorem dX10_writeMachines_33 : decode cX10_writeMachines 33 = .ok (.iload_n 1, 1) := by decide +kernel
theorem dX10_writeMachines_34 : decode cX10_writeMachines 34 = .ok (.invokevirtual 292, 3) := by decide +kernel
theorem dX10_writeMachines_37 : decode cX10_writeMachines 37 = .ok (.iinc 1 1, 3) := by decide +kernel
theorem dX10_writeMachines_40 : decode cX10_writeMachines 40 = .ok (.goto (-28), 3) := by decide +kernel
theorem dX10_writeMachines_43 : decode cX10_writeMachines 43 = .ok (.aload_n 0, 1) := by decide +kernel
theorem dX10_writeMachines_44 : decode cX10_writeMachines 44 = .ok (.getfield 286, 3) := by decide +kernel
theorem dX10_writeMachines_47 : decode cX10_writeMachines 47 = .ok (.ireturn, 1) := by decide +kernel
theorem dX10_writtenByte_0 : decode cX10_writtenByte 0 = .ok (.aload_n 0, 1) := by decide +kernel
theorem dX10_writtenByte_1 : decode cX10_writtenByte 1 = .ok (.iload_n 1, 1) := by decide +kernel
theorem dX10_writtenByte_2 : decode cX10_writtenByte 2 = .ok (.iconst 0, 1) := by decide +kernel
theorem dX10_writtenByte_3 : decode cX10_writtenByte 3 = .ok (.aload_n 0, 1) := by decide +kernel
theorem dX10_writtenByte_4 : decode cX10_writtenByte 4 = .ok (.getfield 286, 3) := by decide +kernel
theorem dX10_writtenByte_7 : decode cX10_writtenByte 7 = .ok (.iconst 1, 1) := by decide +kernel
theorem dX10_writtenByte_8 : decode cX10_writtenByte 8 = .ok (.isub, 1) := by decide +kernel
theorem dX10_writtenByte_9 : decode cX10_writtenByte 9 = .ok (.invokestatic 54, 3) := by decide +kernel
theorem dX10_writtenByte_12 : decode cX10_writtenByte 12 = .ok (.ifCond .eq 7, 3) := by decide +kernel
theorem dX10_writtenByte_15 : decode cX10_writtenByte 15 = .ok (.iconst 0, 1) := by decide +kernel
theorem dX10_writtenByte_16 : decode cX10_writtenByte 16 = .ok (.goto 4, 3) := by decide +kernel
theorem dX10_writtenByte_19 : decode cX10_writtenByte 19 = .ok (.iconst 1, 1) := by decide +kernel
theorem dX10_writtenByte_20 : decode cX10_writtenByte 20 = .ok (.putfield 42, 3) := by decide +kernel
theorem dX10_writtenByte_23 : decode cX10_writtenByte 23 = .ok (.aload_n 0, 1) := by decide +kernel
theorem dX10_writtenByte_24 : decode cX10_writtenByte 24 = .ok (.getfield 42, 3) := by decide +kernel
theorem dX10_writtenByte_27 : decode cX10_writtenByte 27 = .ok (.ifCond .le 7, 3) := by decide +kernel
theorem dX10_writtenByte_30 : decode cX10_writtenByte 30 = .ok (.iconst 0, 1) := by decide +kernel
theorem dX10_writtenByte_31 : decode cX10_writtenByte 31 = .ok (.goto 9, 3) := by decide +kernel
theorem dX10_writtenByte_34 : decode cX10_writtenByte 34 = .ok (.aload_n 0, 1) := by decide +kernel
theorem dX10_writtenByte_35 : decode cX10_writtenByte 35 = .ok (.getfield 32, 3) := by decide +kernel
theorem dX10_writtenByte_38 : decode cX10_writtenByte 38 = .ok (.iload_n 1, 1) := by decide +kernel
theorem dX10_writtenByte_39 : decode cX10_writtenByte 39 = .ok (.iaload, 1) := by decide +kernel
theorem dX10_writtenByte_40 : decode cX10_writtenByte 40 = .ok (.ireturn, 1) := by decide +kernel
theorem dL_append_0 : decode cL_append 0 = .ok (.aload 6, 2) := by decide +kernel
theorem dL_append_2 : decode cL_append 2 = .ok (.iconst 0, 1) := by decide +kernel
theorem dL_append_3 : decode cL_append 3 = .ok (.aload_n 0, 1) := by decide +kernel
theorem dL_append_4 : decode cL_append 4 = .ok (.iload_n 1, 1) := by decide +kernel
theorem dL_append_5 : decode cL_append 5 = .ok (.iload_n 2, 1) := by decide +kernel
theorem dL_append_6 : decode cL_append 6 = .ok (.iload_n 3, 1) := by decide +kernel
theorem dL_append_7 : decode cL_append 7 = .ok (.iload 4, 2) := by decide +kernel
theorem dL_append_9 : decode cL_append 9 = .ok (.iload 5, 2) := by decide +kernel
theorem dL_append_11 : decode cL_append 11 = .ok (.invokevirtual 7, 3) := by decide +kernel
theorem dL_append_14 : decode cL_append 14 = .ok (.i2l, 1) := by decide +kernel
theorem dL_append_15 : decode cL_append 15 = .ok (.lastore, 1) := by decide +kernel
theorem dL_append_16 : decode cL_append 16 = .ok (.goto 7, 3) := by decide +kernel
theorem dL_append_19 : decode cL_append 19 = .ok (.astore 7, 2) := by decide +kernel
theorem dL_append_21 : decode cL_append 21 = .ok (.iconst 1, 1) := by decide +kernel
theorem dL_append_22 : decode cL_append 22 = .ok (.ireturn, 1) := by decide +kernel
theorem dL_append_23 : decode cL_append 23 = .ok (.iconst 0, 1) := by decide +kernel
theorem dL_append_24 : decode cL_append 24 = .ok (.ireturn, 1) := by decide +kernel
theorem dL_load_0 : decode cL_load 0 = .ok (.aload_n 2, 1) := by decide +kernel
theorem dL_load_1 : decode cL_load 1 = .ok (.iconst 0, 1) := by decide +kernel
theorem dL_load_2 : decode cL_load 2 = .ok (.aload_n 0, 1) := by decide +kernel
theorem dL_load_3 : decode cL_load 3 = .ok (.iload_n 1, 1) := by decide +kernel
theorem dL_load_4 : decode cL_load 4 = .ok (.invokevirtual 15, 3) := by decide +kernel
theorem dL_load_7 : decode cL_load 7 = .ok (.i2l, 1) := by decide +kernel
theorem dL_load_8 : decode cL_load 8 = .ok (.lastore, 1) := by decide +kernel
theorem dL_load_9 : decode cL_load 9 = .ok (.goto 6, 3) := by decide +kernel
theorem dL_load_12 : decode cL_load 12 = .ok (.astore_n 3, 1) := by decide +kernel
theorem dL_load_13 : decode cL_load 13 = .ok (.iconst 1, 1) := by decide +kernel
theorem dL_load_14 : decode cL_load 14 = .ok (.ireturn, 1) := by decide +kernel
theorem dL_load_15 : decode cL_load 15 = .ok (.iconst 0, 1) := by decide +kernel
theorem dL_load_16 : decode cL_load 16 = .ok (.ireturn, 1) := by decide +kernel
theorem dL_count_0 : decode cL_count 0 = .ok (.aload_n 2, 1) := by decide +kernel
theorem dL_count_1 : decode cL_count 1 = .ok (.iconst 0, 1) := by decide +kernel
theorem dL_count_2 : decode cL_count 2 = .ok (.aload_n 0, 1) := by decide +kernel
theorem dL_count_3 : decode cL_count 3 = .ok (.iload_n 1, 1) := by decide +kernel
theorem dL_count_4 : decode cL_count 4 = .ok (.invokevirtual 21, 3) := by decide +kernel
theorem dL_count_7 : decode cL_count 7 = .ok (.i2l, 1) := by decide +kernel
theorem dL_count_8 : decode cL_count 8 = .ok (.lastore, 1) := by decide +kernel
theorem dL_count_9 : decode cL_count 9 = .ok (.goto 6, 3) := by decide +kernel
theorem dL_count_12 : decode cL_count 12 = .ok (.astore_n 3, 1) := by decide +kernel
theorem dL_count_13 : decode cL_count 13 = .ok (.iconst 1, 1) := by decide +kernel
theorem dL_count_14 : decode cL_count 14 = .ok (.ireturn, 1) := by decide +kernel
theorem dL_count_15 : decode cL_count 15 = .ok (.iconst 0, 1) := by decide +kernel
theorem dL_count_16 : decode cL_count 16 = .ok (.ireturn, 1) := by decide +kernel
theorem dL_user_0 : decode cL_user 0 = .ok (.aload_n 3, 1) := by decide +kernel
theorem dL_user_1 : decode cL_user 1 = .ok (.iconst 0, 1) := by decide +kernel
theorem dL_user_2 : decode cL_user 2 = .ok (.aload_n 0, 1) := by decide +kernel
theorem dL_user_3 : decode cL_user 3 = .ok (.iload_n 1, 1) := by decide +kernel
theorem dL_user_4 : decode cL_user 4 = .ok (.iload_n 2, 1) := by decide +kernel
theorem dL_user_5 : decode cL_user 5 = .ok (.invokevirtual 24, 3) := by decide +kernel
theorem dL_user_8 : decode cL_user 8 = .ok (.i2l, 1) := by decide +kernel
theorem dL_user_9 : decode cL_user 9 = .ok (.lastore, 1) := by decide +kernel
theorem dL_user_10 : decode cL_user 10 = .ok (.goto 11, 3) := by decide +kernel
theorem dL_user_13 : decode cL_user 13 = .ok (.astore 4, 2) := by decide +kernel
theorem dL_user_15 : decode cL_user 15 = .ok (.iconst 1, 1) := by decide +kernel
theorem dL_user_16 : decode cL_user 16 = .ok (.ireturn, 1) := by decide +kernel
theorem dL_user_17 : decode cL_user 17 = .ok (.astore 4, 2) := by decide +kernel
theorem dL_user_19 : decode cL_user 19 = .ok (.iconst 2, 1) := by decide +kernel
theorem dL_user_20 : decode cL_user 20 = .ok (.ireturn, 1) := by decide +kernel
theorem dL_user_21 : decode cL_user 21 = .ok (.iconst 0, 1) := by decide +kernel
theorem dL_user_22 : decode cL_user 22 = .ok (.ireturn, 1) := by decide +kernel
theorem dL_addUser_0 : decode cL_addUser 0 = .ok (.aload_n 3, 1) := by decide +kernel
theorem dL_addUser_1 : decode cL_addUser 1 = .ok (.iconst 0, 1) := by decide +kernel
theorem dL_addUser_2 : decode cL_addUser 2 = .ok (.aload_n 0, 1) := by decide +kernel
theorem dL_addUser_3 : decode cL_addUser 3 = .ok (.iload_n 1, 1) := by decide +kernel
theorem dL_addUser_4 : decode cL_addUser 4 = .ok (.iload_n 2, 1) := by decide +kernel
theorem dL_addUser_5 : decode cL_addUser 5 = .ok (.invokevirtual 30, 3) := by decide +kernel
theorem dL_addUser_8 : decode cL_addUser 8 = .ok (.i2l, 1) := by decide +kernel
theorem dL_addUser_9 : decode cL_addUser 9 = .ok (.lastore, 1) := by decide +kernel
theorem dL_addUser_10 : decode cL_addUser 10 = .ok (.goto 15, 3) := by decide +kernel
theorem dL_addUser_13 : decode cL_addUser 13 = .ok (.astore 4, 2) := by decide +kernel
theorem dL_addUser_15 : decode cL_addUser 15 = .ok (.iconst 1, 1) := by decide +kernel
theorem dL_addUser_16 : decode cL_addUser 16 = .ok (.ireturn, 1) := by decide +kernel
theorem dL_addUser_17 : decode cL_addUser 17 = .ok (.astore 4, 2) := by decide +kernel
theorem dL_addUser_19 : decode cL_addUser 19 = .ok (.iconst 2, 1) := by decide +kernel
theorem dL_addUser_20 : decode cL_addUser 20 = .ok (.ireturn, 1) := by decide +kernel
theorem dL_addUser_21 : decode cL_addUser 21 = .ok (.astore 4, 2) := by decide +kernel
theorem dL_addUser_23 : decode cL_addUser 23 = .ok (.iconst 3, 1) := by decide +kernel
theorem dL_addUser_24 : decode cL_addUser 24 = .ok (.ireturn, 1) := by decide +kernel
theorem dL_addUser_25 : decode cL_addUser 25 = .ok (.iconst 0, 1) := by decide +kernel
theorem dL_addUser_26 : decode cL_addUser 26 = .ok (.ireturn, 1) := by decide +kernel
theorem dL_setShares_0 : decode cL_setShares 0 = .ok (.aload_n 3, 1) := by decide +kernel
theorem dL_setShares_1 : decode cL_setShares 1 = .ok (.iconst 0, 1) := by decide +kernel
theorem dL_setShares_2 : decode cL_setShares 2 = .ok (.aload_n 0, 1) := by decide +kernel
theorem dL_setShares_3 : decode cL_setShares 3 = .ok (.iload_n 1, 1) := by decide +kernel
theorem dL_setShares_4 : decode cL_setShares 4 = .ok (.iload_n 2, 1) := by decide +kernel
theorem dL_setShares_5 : decode cL_setShares 5 = .ok (.invokevirtual 33, 3) := by decide +kernel
theorem dL_setShares_8 : decode cL_setShares 8 = .ok (.i2l, 1) := by decide +kernel
theorem dL_setShares_9 : decode cL_setShares 9 = .ok (.lastore, 1) := by decide +kernel
theorem dL_setShares_10 : decode cL_setShares 10 = .ok (.goto 11, 3) := by decide +kernel
theorem dL_setShares_13 : decode cL_setShares 13 = .ok (.astore 4, 2) := by decide +kernel
theorem dL_setShares_15 : decode cL_setShares 15 = .ok (.iconst 1, 1) := by decide +kernel
theorem dL_setShares_16 : decode cL_setShares 16 = .ok (.ireturn, 1) := by decide +kernel
theorem dL_setShares_17 : decode cL_setShares 17 = .ok (.astore 4, 2) := by decide +kernel
theorem dL_setShares_19 : decode cL_setShares 19 = .ok (.iconst 2, 1) := by decide +kernel
theorem dL_setShares_20 : decode cL_setShares 20 = .ok (.ireturn, 1) := by decide +kernel
theorem dL_setShares_21 : decode cL_setShares 21 = .ok (.iconst 0, 1) := by decide +kernel
theorem dL_setShares_22 : decode cL_setShares 22 = .ok (.ireturn, 1) := by decide +kernel
theorem dL_lend_0 : decode cL_lend 0 = .ok (.aload 5, 2) := by decide +kernel
theorem dL_lend_2 : decode cL_lend 2 = .ok (.iconst 0, 1) := by decide +kernel
theorem dL_lend_3 : decode cL_lend 3 = .ok (.aload_n 0, 1) := by decide +kernel
theorem dL_lend_4 : decode cL_lend 4 = .ok (.iload_n 1, 1) := by decide +kernel
theorem dL_lend_5 : decode cL_lend 5 = .ok (.iload_n 2, 1) := by decide +kernel
theorem dL_lend_6 : decode cL_lend 6 = .ok (.iload_n 3, 1) := by decide +kernel
theorem dL_lend_7 : decode cL_lend 7 = .ok (.iload 4, 2) := by decide +kernel
theorem dL_lend_9 : decode cL_lend 9 = .ok (.invokevirtual 36, 3) := by decide +kernel
theorem dL_lend_12 : decode cL_lend 12 = .ok (.i2l, 1) := by decide +kernel
theorem dL_lend_13 : decode cL_lend 13 = .ok (.lastore, 1) := by decide +kernel
theorem dL_lend_14 : decode cL_lend 14 = .ok (.goto 15, 3) := by decide +kernel
theorem dL_lend_17 : decode cL_lend 17 = .ok (.astore 6, 2) := by decide +kernel
theorem dL_lend_19 : decode cL_lend 19 = .ok (.iconst 1, 1) := by decide +kernel
theorem dL_lend_20 : decode cL_lend 20 = .ok (.ireturn, 1) := by decide +kernel
theorem dL_lend_21 : decode cL_lend 21 = .ok (.astore 6, 2) := by decide +kernel
theorem dL_lend_23 : decode cL_lend 23 = .ok (.iconst 2, 1) := by decide +kernel
theorem dL_lend_24 : decode cL_lend 24 = .ok (.ireturn, 1) := by decide +kernel
theorem dL_lend_25 : decode cL_lend 25 = .ok (.astore 6, 2) := by decide +kernel
theorem dL_lend_27 : decode cL_lend 27 = .ok (.iconst 3, 1) := by decide +kernel
theorem dL_lend_28 : decode cL_lend 28 = .ok (.ireturn, 1) := by decide +kernel
theorem dL_lend_29 : decode cL_lend 29 = .ok (.iconst 0, 1) := by decide +kernel
theorem dL_lend_30 : decode cL_lend 30 = .ok (.ireturn, 1) := by decide +kernel
theorem dL_loan_0 : decode cL_loan 0 = .ok (.aload_n 3, 1) := by decide +kernel
theorem dL_loan_1 : decode cL_loan 1 = .ok (.iconst 0, 1) := by decide +kernel
theorem dL_loan_2 : decode cL_loan 2 = .ok (.aload_n 0, 1) := by decide +kernel
theorem dL_loan_3 : decode cL_loan 3 = .ok (.iload_n 1, 1) := by decide +kernel
theorem dL_loan_4 : decode cL_loan 4 = .ok (.iload_n 2, 1) := by decide +kernel
theorem dL_loan_5 : decode cL_loan 5 = .ok (.invokevirtual 40, 3) := by decide +kernel
theorem dL_loan_8 : decode cL_loan 8 = .ok (.i2l, 1) := by decide +kernel
theorem dL_loan_9 : decode cL_loan 9 = .ok (.lastore, 1) := by decide +kernel
theorem dL_loan_10 : decode cL_loan 10 = .ok (.goto 11, 3) := by decide +kernel
theorem dL_loan_13 : decode cL_loan 13 = .ok (.astore 4, 2) := by decide +kernel
theorem dL_loan_15 : decode cL_loan 15 = .ok (.iconst 1, 1) := by decide +kernel
theorem dL_loan_16 : decode cL_loan 16 = .ok (.ireturn, 1) := by decide +kernel
theorem dL_loan_17 : decode cL_loan 17 = .ok (.astore 4, 2) := by decide +kernel
theorem dL_loan_19 : decode cL_loan 19 = .ok (.iconst 2, 1) := by decide +kernel
theorem dL_loan_20 : decode cL_loan 20 = .ok (.ireturn, 1) := by decide +kernel
theorem dL_loan_21 : decode cL_loan 21 = .ok (.iconst 0, 1) := by decide +kernel
theorem dL_loan_22 : decode cL_loan 22 = .ok (.ireturn, 1) := by decide +kernel
theorem dL_balance_0 : decode cL_balance 0 = .ok (.aload_n 2, 1) := by decide +kernel
theorem dL_balance_1 : decode cL_balance 1 = .ok (.iconst 0, 1) := by decide +kernel
theorem dL_balance_2 : decode cL_balance 2 = .ok (.aload_n 0, 1) := by decide +kernel
theorem dL_balance_3 : decode cL_balance 3 = .ok (.iload_n 1, 1) := by decide +kernel
theorem dL_balance_4 : decode cL_balance 4 = .ok (.invokevirtual 43, 3) := by decide +kernel
theorem dL_balance_7 : decode cL_balance 7 = .ok (.i2l, 1) := by decide +kernel
theorem dL_balance_8 : decode cL_balance 8 = .ok (.lastore, 1) := by decide +kernel
theorem dL_balance_9 : decode cL_balance 9 = .ok (.goto 6, 3) := by decide +kernel
theorem dL_balance_12 : decode cL_balance 12 = .ok (.astore_n 3, 1) := by decide +kernel
theorem dL_balance_13 : decode cL_balance 13 = .ok (.iconst 1, 1) := by decide +kernel
theorem dL_balance_14 : decode cL_balance 14 = .ok (.ireturn, 1) := by decide +kernel
theorem dL_balance_15 : decode cL_balance 15 = .ok (.iconst 0, 1) := by decide +kernel
theorem dL_balance_16 : decode cL_balance 16 = .ok (.ireturn, 1) := by decide +kernel
theorem dL_ranked_0 : decode cL_ranked 0 = .ok (.aload_n 2, 1) := by decide +kernel
theorem dL_ranked_1 : decode cL_ranked 1 = .ok (.iconst 0, 1) := by decide +kernel
theorem dL_ranked_2 : decode cL_ranked 2 = .ok (.aload_n 0, 1) := by decide +kernel
theorem dL_ranked_3 : decode cL_ranked 3 = .ok (.iload_n 1, 1) := by decide +kernel
theorem dL_ranked_4 : decode cL_ranked 4 = .ok (.invokevirtual 46, 3) := by decide +kernel
theorem dL_ranked_7 : decode cL_ranked 7 = .ok (.i2l, 1) := by decide +kernel
theorem dL_ranked_8 : decode cL_ranked 8 = .ok (.lastore, 1) := by decide +kernel
theorem dL_ranked_9 : decode cL_ranked 9 = .ok (.goto 6, 3) := by decide +kernel
theorem dL_ranked_12 : decode cL_ranked 12 = .ok (.astore_n 3, 1) := by decide +kernel
theorem dL_ranked_13 : decode cL_ranked 13 = .ok (.iconst 1, 1) := by decide +kernel
theorem dL_ranked_14 : decode cL_ranked 14 = .ok (.ireturn, 1) := by decide +kernel
theorem dL_ranked_15 : decode cL_ranked 15 = .ok (.iconst 0, 1) := by decide +kernel
theorem dL_ranked_16 : decode cL_ranked 16 = .ok (.ireturn, 1) := by decide +kernel
theorem dL_worth_0 : decode cL_worth 0 = .ok (.aload_n 3, 1) := by decide +kernel
theorem dL_worth_1 : decode cL_worth 1 = .ok (.iconst 0, 1) := by decide +kernel
theorem dL_worth_2 : decode cL_worth 2 = .ok (.aload_n 0, 1) := by decide +kernel
theorem dL_worth_3 : decode cL_worth 3 = .ok (.iload_n 1, 1) := by decide +kernel
theorem dL_worth_4 : decode cL_worth 4 = .ok (.iload_n 2, 1) := by decide +kernel
theorem dL_worth_5 : decode cL_worth 5 = .ok (.invokevirtual 49, 3) := by decide +kernel
theorem dL_worth_8 : decode cL_worth 8 = .ok (.lastore, 1) := by decide +kernel
theorem dL_worth_9 : decode cL_worth 9 = .ok (.goto 15, 3) := by decide +kernel
theorem dL_worth_12 : decode cL_worth 12 = .ok (.astore 4, 2) := by decide +kernel
theorem dL_worth_14 : decode cL_worth 14 = .ok (.iconst 1, 1) := by decide +kernel
theorem dL_worth_15 : decode cL_worth 15 = .ok (.ireturn, 1) := by decide +kernel
theorem dL_worth_16 : decode cL_worth 16 = .ok (.astore 4, 2) := by decide +kernel
theorem dL_worth_18 : decode cL_worth 18 = .ok (.iconst 2, 1) := by decide +kernel
theorem dL_worth_19 : decode cL_worth 19 = .ok (.ireturn, 1) := by decide +kernel
theorem dL_worth_20 : decode cL_worth 20 = .ok (.astore 4, 2) := by decide +kernel
theorem dL_worth_22 : decode cL_worth 22 = .ok (.iconst 3, 1) := by decide +kernel
theorem dL_worth_23 : decode cL_worth 23 = .ok (.ireturn, 1) := by decide +kernel
theorem dL_worth_24 : decode cL_worth 24 = .ok (.iconst 0, 1) := by decide +kernel
theorem dL_worth_25 : decode cL_worth 25 = .ok (.ireturn, 1) := by decide +kernel
theorem dL_machine_0 : decode cL_machine 0 = .ok (.aload_n 3, 1) := by decide +kernel
theorem dL_machine_1 : decode cL_machine 1 = .ok (.iconst 0, 1) := by decide +kernel
theorem dL_machine_2 : decode cL_machine 2 = .ok (.aload_n 0, 1) := by decide +kernel
theorem dL_machine_3 : decode cL_machine 3 = .ok (.iload_n 1, 1) := by decide +kernel
theorem dL_machine_4 : decode cL_machine 4 = .ok (.iload_n 2, 1) := by decide +kernel
theorem dL_machine_5 : decode cL_machine 5 = .ok (.invokevirtual 53, 3) := by decide +kernel
theorem dL_machine_8 : decode cL_machine 8 = .ok (.i2l, 1) := by decide +kernel
theorem dL_machine_9 : decode cL_machine 9 = .ok (.lastore, 1) := by decide +kernel
theorem dL_machine_10 : decode cL_machine 10 = .ok (.goto 11, 3) := by decide +kernel
theorem dL_machine_13 : decode cL_machine 13 = .ok (.astore 4, 2) := by decide +kernel
theorem dL_machine_15 : decode cL_machine 15 = .ok (.iconst 1, 1) := by decide +kernel
theorem dL_machine_16 : decode cL_machine 16 = .ok (.ireturn, 1) := by decide +kernel
theorem dL_machine_17 : decode cL_machine 17 = .ok (.astore 4, 2) := by decide +kernel
theorem dL_machine_19 : decode cL_machine 19 = .ok (.iconst 2, 1) := by decide +kernel
theorem dL_machine_20 : decode cL_machine 20 = .ok (.ireturn, 1) := by decide +kernel
theorem dL_machine_21 : decode cL_machine 21 = .ok (.iconst 0, 1) := by decide +kernel
theorem dL_machine_22 : decode cL_machine 22 = .ok (.ireturn, 1) := by decide +kernel
theorem dL_job_0 : decode cL_job 0 = .ok (.aload_n 3, 1) := by decide +kernel
theorem dL_job_1 : decode cL_job 1 = .ok (.iconst 0, 1) := by decide +kernel
theorem dL_job_2 : decode cL_job 2 = .ok (.aload_n 0, 1) := by decide +kernel
theorem dL_job_3 : decode cL_job 3 = .ok (.iload_n 1, 1) := by decide +kernel
theorem dL_job_4 : decode cL_job 4 = .ok (.iload_n 2, 1) := by decide +kernel
theorem dL_job_5 : decode cL_job 5 = .ok (.invokevirtual 56, 3) := by decide +kernel
theorem dL_job_8 : decode cL_job 8 = .ok (.i2l, 1) := by decide +kernel
theorem dL_job_9 : decode cL_job 9 = .ok (.lastore, 1) := by decide +kernel
theorem dL_job_10 : decode cL_job 10 = .ok (.goto 11, 3) := by decide +kernel
theorem dL_job_13 : decode cL_job 13 = .ok (.astore 4, 2) := by decide +kernel
theorem dL_job_15 : decode cL_job 15 = .ok (.iconst 1, 1) := by decide +kernel
theorem dL_job_16 : decode cL_job 16 = .ok (.ireturn, 1) := by decide +kernel
theorem dL_job_17 : decode cL_job 17 = .ok (.astore 4, 2) := by decide +kernel
theorem dL_job_19 : decode cL_job 19 = .ok (.iconst 2, 1) := by decide +kernel
theorem dL_job_20 : decode cL_job 20 = .ok (.ireturn, 1) := by decide +kernel
theorem dL_job_21 : decode cL_job 21 = .ok (.iconst 0, 1) := by decide +kernel
theorem dL_job_22 : decode cL_job 22 = .ok (.ireturn, 1) := by decide +kernel
theorem dL_first_0 : decode cL_first 0 = .ok (.aload_n 1, 1) := by decide +kernel
theorem dL_first_1 : decode cL_first 1 = .ok (.iconst 0, 1) := by decide +kernel
theorem dL_first_2 : decode cL_first 2 = .ok (.aload_n 0, 1) := by decide +kernel
theorem dL_first_3 : decode cL_first 3 = .ok (.invokevirtual 59, 3) := by decide +kernel
theorem dL_first_6 : decode cL_first 6 = .ok (.i2l, 1) := by decide +kernel
theorem dL_first_7 : decode cL_first 7 = .ok (.lastore, 1) := by decide +kernel
theorem dL_first_8 : decode cL_first 8 = .ok (.goto 6, 3) := by decide +kernel
theorem dL_first_11 : decode cL_first 11 = .ok (.astore_n 2, 1) := by decide +kernel
theorem dL_first_12 : decode cL_first 12 = .ok (.iconst 1, 1) := by decide +kernel
theorem dL_first_13 : decode cL_first 13 = .ok (.ireturn, 1) := by decide +kernel
theorem dL_first_14 : decode cL_first 14 = .ok (.iconst 0, 1) := by decide +kernel
theorem dL_first_15 : decode cL_first 15 = .ok (.ireturn, 1) := by decide +kernel
theorem dL_submit_0 : decode cL_submit 0 = .ok (.aload_n 3, 1) := by decide +kernel
theorem dL_submit_1 : decode cL_submit 1 = .ok (.iconst 0, 1) := by decide +kernel
theorem dL_submit_2 : decode cL_submit 2 = .ok (.aload_n 0, 1) := by decide +kernel
theorem dL_submit_3 : decode cL_submit 3 = .ok (.iload_n 1, 1) := by decide +kernel
theorem dL_submit_4 : decode cL_submit 4 = .ok (.iload_n 2, 1) := by decide +kernel
theorem dL_submit_5 : decode cL_submit 5 = .ok (.invokevirtual 65, 3) := by decide +kernel
theorem dL_submit_8 : decode cL_submit 8 = .ok (.i2l, 1) := by decide +kernel
theorem dL_submit_9 : decode cL_submit 9 = .ok (.lastore, 1) := by decide +kernel
theorem dL_submit_10 : decode cL_submit 10 = .ok (.goto 15, 3) := by decide +kernel
theorem dL_submit_13 : decode cL_submit 13 = .ok (.astore 4, 2) := by decide +kernel
theorem dL_submit_15 : decode cL_submit 15 = .ok (.iconst 1, 1) := by decide +kernel
theorem dL_submit_16 : decode cL_submit 16 = .ok (.ireturn, 1) := by decide +kernel
theorem dL_submit_17 : decode cL_submit 17 = .ok (.astore 4, 2) := by decide +kernel
theorem dL_submit_19 : decode cL_submit 19 = .ok (.iconst 2, 1) := by decide +kernel
theorem dL_submit_20 : decode cL_submit 20 = .ok (.ireturn, 1) := by decide +kernel
theorem dL_submit_21 : decode cL_submit 21 = .ok (.astore 4, 2) := by decide +kernel
theorem dL_submit_23 : decode cL_submit 23 = .ok (.iconst 3, 1) := by decide +kernel
theorem dL_submit_24 : decode cL_submit 24 = .ok (.ireturn, 1) := by decide +kernel
theorem dL_submit_25 : decode cL_submit 25 = .ok (.iconst 0, 1) := by decide +kernel
theorem dL_submit_26 : decode cL_submit 26 = .ok (.ireturn, 1) := by decide +kernel
theorem dL_cancel_0 : decode cL_cancel 0 = .ok (.aload_n 2, 1) := by decide +kernel
theorem dL_cancel_1 : decode cL_cancel 1 = .ok (.iconst 0, 1) := by decide +kernel
theorem dL_cancel_2 : decode cL_cancel 2 = .ok (.aload_n 0, 1) := by decide +kernel
theorem dL_cancel_3 : decode cL_cancel 3 = .ok (.iload_n 1, 1) := by decide +kernel
theorem dL_cancel_4 : decode cL_cancel 4 = .ok (.invokevirtual 68, 3) := by decide +kernel
theorem dL_cancel_7 : decode cL_cancel 7 = .ok (.i2l, 1) := by decide +kernel
theorem dL_cancel_8 : decode cL_cancel 8 = .ok (.lastore, 1) := by decide +kernel
theorem dL_cancel_9 : decode cL_cancel 9 = .ok (.goto 9, 3) := by decide +kernel
theorem dL_cancel_12 : decode cL_cancel 12 = .ok (.astore_n 3, 1) := by decide +kernel
theorem dL_cancel_13 : decode cL_cancel 13 = .ok (.iconst 1, 1) := by decide +kernel
theorem dL_cancel_14 : decode cL_cancel 14 = .ok (.ireturn, 1) := by decide +kernel
theorem dL_cancel_15 : decode cL_cancel 15 = .ok (.astore_n 3, 1) := by decide +kernel
theorem dL_cancel_16 : decode cL_cancel 16 = .ok (.iconst 2, 1) := by decide +kernel
theorem dL_cancel_17 : decode cL_cancel 17 = .ok (.ireturn, 1) := by decide +kernel
theorem dL_cancel_18 : decode cL_cancel 18 = .ok (.iconst 0, 1) := by decide +kernel
theorem dL_cancel_19 : decode cL_cancel 19 = .ok (.ireturn, 1) := by decide +kernel
theorem dL_setUp_0 : decode cL_setUp 0 = .ok (.aload_n 3, 1) := by decide +kernel
theorem dL_setUp_1 : decode cL_setUp 1 = .ok (.iconst 0, 1) := by decide +kernel
theorem dL_setUp_2 : decode cL_setUp 2 = .ok (.aload_n 0, 1) := by decide +kernel
theorem dL_setUp_3 : decode cL_setUp 3 = .ok (.iload_n 1, 1) := by decide +kernel
theorem dL_setUp_4 : decode cL_setUp 4 = .ok (.iload_n 2, 1) := by decide +kernel
theorem dL_setUp_5 : decode cL_setUp 5 = .ok (.invokevirtual 71, 3) := by decide +kernel
theorem dL_setUp_8 : decode cL_setUp 8 = .ok (.i2l, 1) := by decide +kernel
theorem dL_setUp_9 : decode cL_setUp 9 = .ok (.lastore, 1) := by decide +kernel
theorem dL_setUp_10 : decode cL_setUp 10 = .ok (.goto 7, 3) := by decide +kernel
theorem dL_setUp_13 : decode cL_setUp 13 = .ok (.astore 4, 2) := by decide +kernel
theorem dL_setUp_15 : decode cL_setUp 15 = .ok (.iconst 1, 1) := by decide +kernel
theorem dL_setUp_16 : decode cL_setUp 16 = .ok (.ireturn, 1) := by decide +kernel
theorem dL_setUp_17 : decode cL_setUp 17 = .ok (.iconst 0, 1) := by decide +kernel
theorem dL_setUp_18 : decode cL_setUp 18 = .ok (.ireturn, 1) := by decide +kernel
theorem dL_set_0 : decode cL_set 0 = .ok (.aload_n 3, 1) := by decide +kernel
theorem dL_set_1 : decode cL_set 1 = .ok (.iconst 0, 1) := by decide +kernel
theorem dL_set_2 : decode cL_set 2 = .ok (.aload_n 0, 1) := by decide +kernel
theorem dL_set_3 : decode cL_set 3 = .ok (.iload_n 1, 1) := by decide +kernel
theorem dL_set_4 : decode cL_set 4 = .ok (.iload_n 2, 1) := by decide +kernel
theorem dL_set_5 : decode cL_set 5 = .ok (.invokevirtual 75, 3) := by decide +kernel
theorem dL_set_8 : decode cL_set 8 = .ok (.i2l, 1) := by decide +kernel
theorem dL_set_9 : decode cL_set 9 = .ok (.lastore, 1) := by decide +kernel
theorem dL_set_10 : decode cL_set 10 = .ok (.goto 7, 3) := by decide +kernel
theorem dL_set_13 : decode cL_set 13 = .ok (.astore 4, 2) := by decide +kernel
theorem dL_set_15 : decode cL_set 15 = .ok (.iconst 1, 1) := by decide +kernel
theorem dL_set_16 : decode cL_set 16 = .ok (.ireturn, 1) := by decide +kernel
theorem dL_set_17 : decode cL_set 17 = .ok (.iconst 0, 1) := by decide +kernel
theorem dL_set_18 : decode cL_set 18 = .ok (.ireturn, 1) := by decide +kernel
theorem dL_tick_0 : decode cL_tick 0 = .ok (.aload_n 2, 1) := by decide +kernel
theorem dL_tick_1 : decode cL_tick 1 = .ok (.iconst 0, 1) := by decide +kernel
theorem dL_tick_2 : decode cL_tick 2 = .ok (.aload_n 0, 1) := by decide +kernel
theorem dL_tick_3 : decode cL_tick 3 = .ok (.iload_n 1, 1) := by decide +kernel
theorem dL_tick_4 : decode cL_tick 4 = .ok (.invokevirtual 78, 3) := by decide +kernel
theorem dL_tick_7 : decode cL_tick 7 = .ok (.i2l, 1) := by decide +kernel
theorem dL_tick_8 : decode cL_tick 8 = .ok (.lastore, 1) := by decide +kernel
theorem dL_tick_9 : decode cL_tick 9 = .ok (.goto 9, 3) := by decide +kernel
theorem dL_tick_12 : decode cL_tick 12 = .ok (.astore_n 3, 1) := by decide +kernel
theorem dL_tick_13 : decode cL_tick 13 = .ok (.iconst 1, 1) := by decide +kernel
theorem dL_tick_14 : decode cL_tick 14 = .ok (.ireturn, 1) := by decide +kernel
theorem dL_tick_15 : decode cL_tick 15 = .ok (.astore_n 3, 1) := by decide +kernel
theorem dL_tick_16 : decode cL_tick 16 = .ok (.iconst 2, 1) := by decide +kernel
theorem dL_tick_17 : decode cL_tick 17 = .ok (.ireturn, 1) := by decide +kernel
theorem dL_tick_18 : decode cL_tick 18 = .ok (.iconst 0, 1) := by decide +kernel
theorem dL_tick_19 : decode cL_tick 19 = .ok (.ireturn, 1) := by decide +kernel
theorem dL_finishedIn_0 : decode cL_finishedIn 0 = .ok (.aload_n 2, 1) := by decide +kernel
theorem dL_finishedIn_1 : decode cL_finishedIn 1 = .ok (.iconst 0, 1) := by decide +kernel
theorem dL_finishedIn_2 : decode cL_finishedIn 2 = .ok (.aload_n 0, 1) := by decide +kernel
theorem dL_finishedIn_3 : decode cL_finishedIn 3 = .ok (.iload_n 1, 1) := by decide +kernel
theorem dL_finishedIn_4 : decode cL_finishedIn 4 = .ok (.invokevirtual 81, 3) := by decide +kernel
theorem dL_finishedIn_7 : decode cL_finishedIn 7 = .ok (.i2l, 1) := by decide +kernel
theorem dL_finishedIn_8 : decode cL_finishedIn 8 = .ok (.lastore, 1) := by decide +kernel
theorem dL_finishedIn_9 : decode cL_finishedIn 9 = .ok (.goto 9, 3) := by decide +kernel
theorem dL_finishedIn_12 : decode cL_finishedIn 12 = .ok (.astore_n 3, 1) := by decide +kernel
theorem dL_finishedIn_13 : decode cL_finishedIn 13 = .ok (.iconst 1, 1) := by decide +kernel
theorem dL_finishedIn_14 : decode cL_finishedIn 14 = .ok (.ireturn, 1) := by decide +kernel
theorem dL_finishedIn_15 : decode cL_finishedIn 15 = .ok (.astore_n 3, 1) := by decide +kernel
theorem dL_finishedIn_16 : decode cL_finishedIn 16 = .ok (.iconst 2, 1) := by decide +kernel
theorem dL_finishedIn_17 : decode cL_finishedIn 17 = .ok (.ireturn, 1) := by decide +kernel
theorem dL_finishedIn_18 : decode cL_finishedIn 18 = .ok (.iconst 0, 1) := by decide +kernel
theorem dL_finishedIn_19 : decode cL_finishedIn 19 = .ok (.ireturn, 1) := by decide +kernel
theorem dL_ahead_0 : decode cL_ahead 0 = .ok (.aload_n 3, 1) := by decide +kernel
theorem dL_ahead_1 : decode cL_ahead 1 = .ok (.iconst 0, 1) := by decide +kernel
theorem dL_ahead_2 : decode cL_ahead 2 = .ok (.aload_n 0, 1) := by decide +kernel
theorem dL_ahead_3 : decode cL_ahead 3 = .ok (.iload_n 1, 1) := by decide +kernel
theorem dL_ahead_4 : decode cL_ahead 4 = .ok (.iload_n 2, 1) := by decide +kernel
theorem dL_ahead_5 : decode cL_ahead 5 = .ok (.invokevirtual 84, 3) := by decide +kernel
theorem dL_ahead_8 : decode cL_ahead 8 = .ok (.i2l, 1) := by decide +kernel
theorem dL_ahead_9 : decode cL_ahead 9 = .ok (.lastore, 1) := by decide +kernel
theorem dL_ahead_10 : decode cL_ahead 10 = .ok (.goto 7, 3) := by decide +kernel
theorem dL_ahead_13 : decode cL_ahead 13 = .ok (.astore 4, 2) := by decide +kernel
theorem dL_ahead_15 : decode cL_ahead 15 = .ok (.iconst 1, 1) := by decide +kernel
theorem dL_ahead_16 : decode cL_ahead 16 = .ok (.ireturn, 1) := by decide +kernel
theorem dL_ahead_17 : decode cL_ahead 17 = .ok (.iconst 0, 1) := by decide +kernel
theorem dL_ahead_18 : decode cL_ahead 18 = .ok (.ireturn, 1) := by decide +kernel
theorem dL_part_0 : decode cL_part 0 = .ok (.aload_n 2, 1) := by decide +kernel
theorem dL_part_1 : decode cL_part 1 = .ok (.iconst 0, 1) := by decide +kernel
theorem dL_part_2 : decode cL_part 2 = .ok (.aload_n 0, 1) := by decide +kernel
theorem dL_part_3 : decode cL_part 3 = .ok (.iload_n 1, 1) := by decide +kernel
theorem dL_part_4 : decode cL_part 4 = .ok (.invokevirtual 87, 3) := by decide +kernel
theorem dL_part_7 : decode cL_part 7 = .ok (.f2d, 1) := by decide +kernel
theorem dL_part_8 : decode cL_part 8 = .ok (.dastore, 1) := by decide +kernel
theorem dL_part_9 : decode cL_part 9 = .ok (.goto 9, 3) := by decide +kernel
theorem dL_part_12 : decode cL_part 12 = .ok (.astore_n 3, 1) := by decide +kernel
theorem dL_part_13 : decode cL_part 13 = .ok (.iconst 1, 1) := by decide +kernel
theorem dL_part_14 : decode cL_part 14 = .ok (.ireturn, 1) := by decide +kernel
theorem dL_part_15 : decode cL_part 15 = .ok (.astore_n 3, 1) := by decide +kernel
theorem dL_part_16 : decode cL_part 16 = .ok (.iconst 2, 1) := by decide +kernel
theorem dL_part_17 : decode cL_part 17 = .ok (.ireturn, 1) := by decide +kernel
theorem dL_part_18 : decode cL_part 18 = .ok (.iconst 0, 1) := by decide +kernel
theorem dL_part_19 : decode cL_part 19 = .ok (.ireturn, 1) := by decide +kernel
theorem dL_writtenByte_0 : decode cL_writtenByte 0 = .ok (.aload_n 2, 1) := by decide +kernel
theorem dL_writtenByte_1 : decode cL_writtenByte 1 = .ok (.iconst 0, 1) := by decide +kernel
theorem dL_writtenByte_2 : decode cL_writtenByte 2 = .ok (.aload_n 0, 1) := by decide +kernel
theorem dL_writtenByte_3 : decode cL_writtenByte 3 = .ok (.iload_n 1, 1) := by decide +kernel
theorem dL_writtenByte_4 : decode cL_writtenByte 4 = .ok (.invokevirtual 91, 3) := by decide +kernel
theorem dL_writtenByte_7 : decode cL_writtenByte 7 = .ok (.i2l, 1) := by decide +kernel
theorem dL_writtenByte_8 : decode cL_writtenByte 8 = .ok (.lastore, 1) := by decide +kernel
theorem dL_writtenByte_9 : decode cL_writtenByte 9 = .ok (.goto 6, 3) := by decide +kernel
theorem dL_writtenByte_12 : decode cL_writtenByte 12 = .ok (.astore_n 3, 1) := by decide +kernel
theorem dL_writtenByte_13 : decode cL_writtenByte 13 = .ok (.iconst 1, 1) := by decide +kernel
theorem dL_writtenByte_14 : decode cL_writtenByte 14 = .ok (.ireturn, 1) := by decide +kernel
theorem dL_writtenByte_15 : decode cL_writtenByte 15 = .ok (.iconst 0, 1) := by decide +kernel
theorem dL_writtenByte_16 : decode cL_writtenByte 16 = .ok (.ireturn, 1) := by decide +kernel
theorem dL_undo_0 : decode cL_undo 0 = .ok (.aload_n 1, 1) := by decide +kernel
theorem dL_undo_1 : decode cL_undo 1 = .ok (.iconst 0, 1) := by decide +kernel
theorem dL_undo_2 : decode cL_undo 2 = .ok (.aload_n 0, 1) := by decide +kernel
theorem dL_undo_3 : decode cL_undo 3 = .ok (.invokevirtual 94, 3) := by decide +kernel
theorem dL_undo_6 : decode cL_undo 6 = .ok (.i2l, 1) := by decide +kernel
theorem dL_undo_7 : decode cL_undo 7 = .ok (.lastore, 1) := by decide +kernel
theorem dL_undo_8 : decode cL_undo 8 = .ok (.goto 6, 3) := by decide +kernel
theorem dL_undo_11 : decode cL_undo 11 = .ok (.astore_n 2, 1) := by decide +kernel
theorem dL_undo_12 : decode cL_undo 12 = .ok (.iconst 1, 1) := by decide +kernel
theorem dL_undo_13 : decode cL_undo 13 = .ok (.ireturn, 1) := by decide +kernel
theorem dL_undo_14 : decode cL_undo 14 = .ok (.iconst 0, 1) := by decide +kernel
theorem dL_undo_15 : decode cL_undo 15 = .ok (.ireturn, 1) := by decide +kernel
theorem dL_law_0 : decode cL_law 0 = .ok (.new 8, 3) := by decide +kernel
theorem dL_law_3 : decode cL_law 3 = .ok (.dup, 1) := by decide +kernel
theorem dL_law_4 : decode cL_law 4 = .ok (.invokespecial 97, 3) := by decide +kernel
theorem dL_law_7 : decode cL_law 7 = .ok (.astore_n 1, 1) := by decide +kernel
theorem dL_law_8 : decode cL_law 8 = .ok (.new 98, 3) := by decide +kernel
theorem dL_law_11 : decode cL_law 11 = .ok (.dup, 1) := by decide +kernel
theorem dL_law_12 : decode cL_law 12 = .ok (.invokespecial 100, 3) := by decide +kernel
theorem dL_law_15 : decode cL_law 15 = .ok (.astore_n 2, 1) := by decide +kernel
theorem dL_law_16 : decode cL_law 16 = .ok (.iconst 1, 1) := by decide +kernel
theorem dL_law_17 : decode cL_law 17 = .ok (.newarray .long, 2) := by decide +kernel
theorem dL_law_19 : decode cL_law 19 = .ok (.astore_n 3, 1) := by decide +kernel
theorem dL_law_20 : decode cL_law 20 = .ok (.iconst 1, 1) := by decide +kernel
theorem dL_law_21 : decode cL_law 21 = .ok (.newarray .double, 2) := by decide +kernel
theorem dL_law_23 : decode cL_law 23 = .ok (.astore 4, 2) := by decide +kernel
theorem dL_law_25 : decode cL_law 25 = .ok (.iconst 0, 1) := by decide +kernel
theorem dL_law_26 : decode cL_law 26 = .ok (.istore 5, 2) := by decide +kernel
theorem dL_law_28 : decode cL_law 28 = .ok (.iload 5, 2) := by decide +kernel
theorem dL_law_30 : decode cL_law 30 = .ok (.aload_n 0, 1) := by decide +kernel
theorem dL_law_31 : decode cL_law 31 = .ok (.arraylength, 1) := by decide +kernel
theorem dL_law_32 : decode cL_law 32 = .ok (.bipush 6, 2) := by decide +kernel
theorem dL_law_34 : decode cL_law 34 = .ok (.isub, 1) := by decide +kernel
theorem dL_law_35 : decode cL_law 35 = .ok (.if_icmp .gt 1768, 3) := by decide +kernel
theorem dL_law_38 : decode cL_law 38 = .ok (.aload_n 0, 1) := by decide +kernel
theorem dL_law_39 : decode cL_law 39 = .ok (.iload 5, 2) := by decide +kernel
theorem dL_law_41 : decode cL_law 41 = .ok (.iaload, 1) := by decide +kernel
theorem dL_law_42 : decode cL_law 42 = .ok (.bipush 31, 2) := by decide +kernel
theorem dL_law_44 : decode cL_law 44 = .ok (.iand, 1) := by decide +kernel
theorem dL_law_45 : decode cL_law 45 = .ok (.tableswitch 1752 0 27 #[127, 231, 287, 300, 356, 424, 492, 560, 652, 720, 776, 832, 899, 967, 1035, 1079, 1147, 1203, 1287, 1355, 1411, 1467, 1535, 1548, 1626, 1639, 1652, 1708], 127) := by decide +kernel
theorem dL_law_172 : decode cL_law 172 = .ok (.aload_n 1, 1) := by decide +kernel
theorem dL_law_173 : decode cL_law 173 = .ok (.aload_n 0, 1) := by decide +kernel
theorem dL_law_174 : decode cL_law 174 = .ok (.iload 5, 2) := by decide +kernel
theorem dL_law_176 : decode cL_law 176 = .ok (.iconst 1, 1) := by decide +kernel
theorem dL_law_177 : decode cL_law 177 = .ok (.iadd, 1) := by decide +kernel
theorem dL_law_178 : decode cL_law 178 = .ok (.iaload, 1) := by decide +kernel
theorem dL_law_179 : decode cL_law 179 = .ok (.aload_n 0, 1) := by decide +kernel
theorem dL_law_180 : decode cL_law 180 = .ok (.iload 5, 2) := by decide +kernel
theorem dL_law_182 : decode cL_law 182 = .ok (.iconst 2, 1) := by decide +kernel
theorem dL_law_183 : decode cL_law 183 = .ok (.iadd, 1) := by decide +kernel
theorem dL_law_184 : decode cL_law 184 = .ok (.iaload, 1) := by decide +kernel
theorem dL_law_185 : decode cL_law 185 = .ok (.aload_n 0, 1) := by decide +kernel
theorem dL_law_186 : decode cL_law 186 = .ok (.iload 5, 2) := by decide +kernel
theorem dL_law_188 : decode cL_law 188 = .ok (.iconst 3, 1) := by decide +kernel
theorem dL_law_189 : decode cL_law 189 = .ok (.iadd, 1) := by decide +kernel
theorem dL_law_190 : decode cL_law 190 = .ok (.iaload, 1) := by decide +kernel
theorem dL_law_191 : decode cL_law 191 = .ok (.aload_n 0, 1) := by decide +kernel
theorem dL_law_192 : decode cL_law 192 = .ok (.iload 5, 2) := by decide +kernel
theorem dL_law_194 : decode cL_law 194 = .ok (.iconst 4, 1) := by decide +kernel
theorem dL_law_195 : decode cL_law 195 = .ok (.iadd, 1) := by decide +kernel
theorem dL_law_196 : decode cL_law 196 = .ok (.iaload, 1) := by decide +kernel
theorem dL_law_197 : decode cL_law 197 = .ok (.aload_n 0, 1) := by decide +kernel
theorem dL_law_198 : decode cL_law 198 = .ok (.iload 5, 2) := by decide +kernel
theorem dL_law_200 : decode cL_law 200 = .ok (.iconst 5, 1) := by decide +kernel
theorem dL_law_201 : decode cL_law 201 = .ok (.iadd, 1) := by decide +kernel
theorem dL_law_202 : decode cL_law 202 = .ok (.iaload, 1) := by decide +kernel
theorem dL_law_203 : decode cL_law 203 = .ok (.aload_n 3, 1) := by decide +kernel
theorem dL_law_204 : decode cL_law 204 = .ok (.invokestatic 101, 3) := by decide +kernel
theorem dL_law_207 : decode cL_law 207 = .ok (.istore 6, 2) := by decide +kernel
theorem dL_law_209 : decode cL_law 209 = .ok (.aload_n 2, 1) := by decide +kernel
theorem dL_law_210 : decode cL_law 210 = .ok (.aload_n 0, 1) := by decide +kernel
theorem dL_law_211 : decode cL_law 211 = .ok (.iload 5, 2) := by decide +kernel
theorem dL_law_213 : decode cL_law 213 = .ok (.iconst 1, 1) := by decide +kernel
theorem dL_law_214 : decode cL_law 214 = .ok (.iadd, 1) := by decide +kernel
theorem dL_law_215 : decode cL_law 215 = .ok (.iaload, 1) := by decide +kernel
theorem dL_law_216 : decode cL_law 216 = .ok (.aload_n 0, 1) := by decide +kernel
theorem dL_law_217 : decode cL_law 217 = .ok (.iload 5, 2) := by decide +kernel
theorem dL_law_219 : decode cL_law 219 = .ok (.iconst 2, 1) := by decide +kernel
theorem dL_law_220 : decode cL_law 220 = .ok (.iadd, 1) := by decide +kernel
theorem dL_law_221 : decode cL_law 221 = .ok (.iaload, 1) := by decide +kernel
theorem dL_law_222 : decode cL_law 222 = .ok (.aload_n 0, 1) := by decide +kernel
theorem dL_law_223 : decode cL_law 223 = .ok (.iload 5, 2) := by decide +kernel
theorem dL_law_225 : decode cL_law 225 = .ok (.iconst 3, 1) := by decide +kernel
theorem dL_law_226 : decode cL_law 226 = .ok (.iadd, 1) := by decide +kernel
theorem dL_law_227 : decode cL_law 227 = .ok (.iaload, 1) := by decide +kernel
theorem dL_law_228 : decode cL_law 228 = .ok (.aload_n 0, 1) := by decide +kernel
theorem dL_law_229 : decode cL_law 229 = .ok (.iload 5, 2) := by decide +kernel
theorem dL_law_231 : decode cL_law 231 = .ok (.iconst 4, 1) := by decide +kernel
theorem dL_law_232 : decode cL_law 232 = .ok (.iadd, 1) := by decide +kernel
theorem dL_law_233 : decode cL_law 233 = .ok (.iaload, 1) := by decide +kernel
theorem dL_law_234 : decode cL_law 234 = .ok (.aload_n 0, 1) := by decide +kernel
theorem dL_law_235 : decode cL_law 235 = .ok (.iload 5, 2) := by decide +kernel
theorem dL_law_237 : decode cL_law 237 = .ok (.iconst 5, 1) := by decide +kernel
theorem dL_law_238 : decode cL_law 238 = .ok (.iadd, 1) := by decide +kernel
theorem dL_law_239 : decode cL_law 239 = .ok (.iaload, 1) := by decide +kernel
theorem dL_law_240 : decode cL_law 240 = .ok (.invokevirtual 106, 3) := by decide +kernel
theorem dL_law_243 : decode cL_law 243 = .ok (.istore 7, 2) := by decide +kernel
theorem dL_law_245 : decode cL_law 245 = .ok (.aload_n 2, 1) := by decide +kernel
theorem dL_law_246 : decode cL_law 246 = .ok (.invokevirtual 107, 3) := by decide +kernel
theorem dL_law_249 : decode cL_law 249 = .ok (.iload 6, 2) := by decide +kernel
theorem dL_law_251 : decode cL_law 251 = .ok (.if_icmp .eq 5, 3) := by decide +kernel
theorem dL_law_254 : decode cL_law 254 = .ok (.iconst 0, 1) := by decide +kernel
theorem dL_law_255 : decode cL_law 255 = .ok (.ireturn, 1) := by decide +kernel
theorem dL_law_256 : decode cL_law 256 = .ok (.iload 6, 2) := by decide +kernel
theorem dL_law_258 : decode cL_law 258 = .ok (.ifCond .ne 15, 3) := by decide +kernel
theorem dL_law_261 : decode cL_law 261 = .ok (.aload_n 3, 1) := by decide +kernel
theorem dL_law_262 : decode cL_law 262 = .ok (.iconst 0, 1) := by decide +kernel
theorem dL_law_263 : decode cL_law 263 = .ok (.laload, 1) := by decide +kernel
theorem dL_law_264 : decode cL_law 264 = .ok (.iload 7, 2) := by decide +kernel
theorem dL_law_266 : decode cL_law 266 = .ok (.i2l, 1) := by decide +kernel
theorem dL_law_267 : decode cL_law 267 = .ok (.lcmp, 1) := by decide +kernel
theorem dL_law_268 : decode cL_law 268 = .ok (.ifCond .eq 5, 3) := by decide +kernel
theorem dL_law_271 : decode cL_law 271 = .ok (.iconst 0, 1) := by decide +kernel
theorem dL_law_272 : decode cL_law 272 = .ok (.ireturn, 1) := by decide +kernel
theorem dL_law_273 : decode cL_law 273 = .ok (.goto 1524, 3) := by decide +kernel
theorem dL_law_276 : decode cL_law 276 = .ok (.aload_n 1, 1) := by decide +kernel
theorem dL_law_277 : decode cL_law 277 = .ok (.aload_n 0, 1) := by decide +kernel
theorem dL_law_278 : decode cL_law 278 = .ok (.iload 5, 2) := by decide +kernel
theorem dL_law_280 : decode cL_law 280 = .ok (.iconst 1, 1) := by decide +kernel
theorem dL_law_281 : decode cL_law 281 = .ok (.iadd, 1) := by decide +kernel
theorem dL_law_282 : decode cL_law 282 = .ok (.iaload, 1) := by decide +kernel
theorem dL_law_283 : decode cL_law 283 = .ok (.aload_n 3, 1) := by decide +kernel
theorem dL_law_284 : decode cL_law 284 = .ok (.invokestatic 110, 3) := by decide +kernel
theorem dL_law_287 : decode cL_law 287 = .ok (.istore 6, 2) := by decide +kernel
theorem dL_law_289 : decode cL_law 289 = .ok (.aload_n 2, 1) := by decide +kernel
theorem dL_law_290 : decode cL_law 290 = .ok (.aload_n 0, 1) := by decide +kernel
theorem dL_law_291 : decode cL_law 291 = .ok (.iload 5, 2) := by decide +kernel
theorem dL_law_293 : decode cL_law 293 = .ok (.iconst 1, 1) := by decide +kernel
theorem dL_law_294 : decode cL_law 294 = .ok (.iadd, 1) := by decide +kernel
theorem dL_law_295 : decode cL_law 295 = .ok (.iaload, 1) := by decide +kernel
theorem dL_law_296 : decode cL_law 296 = .ok (.invokevirtual 113, 3) := by decide +kernel
theorem dL_law_299 : decode cL_law 299 = .ok (.istore 7, 2) := by decide +kernel
theorem dL_law_301 : decode cL_law 301 = .ok (.aload_n 2, 1) := by decide +kernel
theorem dL_law_302 : decode cL_law 302 = .ok (.invokevirtual 107, 3) := by decide +kernel
theorem dL_law_305 : decode cL_law 305 = .ok (.iload 6, 2) := by decide +kernel
theorem dL_law_307 : decode cL_law 307 = .ok (.if_icmp .eq 5, 3) := by decide +kernel
theorem dL_law_310 : decode cL_law 310 = .ok (.iconst 0, 1) := by decide +kernel
theorem dL_law_311 : decode cL_law 311 = .ok (.ireturn, 1) := by decide +kernel
theorem dL_law_312 : decode cL_law 312 = .ok (.iload 6, 2) := by decide +kernel
theorem dL_law_314 : decode cL_law 314 = .ok (.ifCond .ne 15, 3) := by decide +kernel
theorem dL_law_317 : decode cL_law 317 = .ok (.aload_n 3, 1) := by decide +kernel
theorem dL_law_318 : decode cL_law 318 = .ok (.iconst 0, 1) := by decide +kernel
theorem dL_law_319 : decode cL_law 319 = .ok (.laload, 1) := by decide +kernel
theorem dL_law_320 : decode cL_law 320 = .ok (.iload 7, 2) := by decide +kernel
theorem dL_law_322 : decode cL_law 322 = .ok (.i2l, 1) := by decide +kernel
theorem dL_law_323 : decode cL_law 323 = .ok (.lcmp, 1) := by decide +kernel
theorem dL_law_324 : decode cL_law 324 = .ok (.ifCond .eq 5, 3) := by decide +kernel
theorem dL_law_327 : decode cL_law 327 = .ok (.iconst 0, 1) := by decide +kernel
theorem dL_law_328 : decode cL_law 328 = .ok (.ireturn, 1) := by decide +kernel
theorem dL_law_329 : decode cL_law 329 = .ok (.goto 1468, 3) := by decide +kernel
theorem dL_law_332 : decode cL_law 332 = .ok (.aload_n 1, 1) := by decide +kernel
theorem dL_law_333 : decode cL_law 333 = .ok (.invokevirtual 114, 3) := by decide +kernel
theorem dL_law_336 : decode cL_law 336 = .ok (.aload_n 2, 1) := by decide +kernel
theorem dL_law_337 : decode cL_law 337 = .ok (.invokevirtual 117, 3) := by decide +kernel
theorem dL_law_340 : decode cL_law 340 = .ok (.if_icmp .eq 1457, 3) := by decide +kernel
theorem dL_law_343 : decode cL_law 343 = .ok (.iconst 0, 1) := by decide +kernel
theorem dL_law_344 : decode cL_law 344 = .ok (.ireturn, 1) := by decide +kernel
theorem dL_law_345 : decode cL_law 345 = .ok (.aload_n 1, 1) := by decide +kernel
theorem dL_law_346 : decode cL_law 346 = .ok (.aload_n 0, 1) := by decide +kernel
theorem dL_law_347 : decode cL_law 347 = .ok (.iload 5, 2) := by decide +kernel
theorem dL_law_349 : decode cL_law 349 = .ok (.iconst 1, 1) := by decide +kernel
theorem dL_law_350 : decode cL_law 350 = .ok (.iadd, 1) := by decide +kernel
theorem dL_law_351 : decode cL_law 351 = .ok (.iaload, 1) := by decide +kernel
theorem dL_law_352 : decode cL_law 352 = .ok (.aload_n 3, 1) := by decide +kernel
theorem dL_law_353 : decode cL_law 353 = .ok (.invokestatic 118, 3) := by decide +kernel
theorem dL_law_356 : decode cL_law 356 = .ok (.istore 6, 2) := by decide +kernel
theorem dL_law_358 : decode cL_law 358 = .ok (.aload_n 2, 1) := by decide +kernel
theorem dL_law_359 : decode cL_law 359 = .ok (.aload_n 0, 1) := by decide +kernel
theorem dL_law_360 : decode cL_law 360 = .ok (.iload 5, 2) := by decide +kernel
theorem dL_law_362 : decode cL_law 362 = .ok (.iconst 1, 1) := by decide +kernel
theorem dL_law_363 : decode cL_law 363 = .ok (.iadd, 1) := by decide +kernel
theorem dL_law_364 : decode cL_law 364 = .ok (.iaload, 1) := by decide +kernel
theorem dL_law_365 : decode cL_law 365 = .ok (.invokevirtual 120, 3) := by decide +kernel
theorem dL_law_368 : decode cL_law 368 = .ok (.istore 7, 2) := by decide +kernel
theorem dL_law_370 : decode cL_law 370 = .ok (.aload_n 2, 1) := by decide +kernel
theorem dL_law_371 : decode cL_law 371 = .ok (.invokevirtual 107, 3) := by decide +kernel
theorem dL_law_374 : decode cL_law 374 = .ok (.iload 6, 2) := by decide +kernel
theorem dL_law_376 : decode cL_law 376 = .ok (.if_icmp .eq 5, 3) := by decide +kernel
theorem dL_law_379 : decode cL_law 379 = .ok (.iconst 0, 1) := by decide +kernel
theorem dL_law_380 : decode cL_law 380 = .ok (.ireturn, 1) := by decide +kernel
theorem dL_law_381 : decode cL_law 381 = .ok (.iload 6, 2) := by decide +kernel
theorem dL_law_383 : decode cL_law 383 = .ok (.ifCond .ne 15, 3) := by decide +kernel
theorem dL_law_386 : decode cL_law 386 = .ok (.aload_n 3, 1) := by decide +kernel
theorem dL_law_387 : decode cL_law 387 = .ok (.iconst 0, 1) := by decide +kernel
theorem dL_law_388 : decode cL_law 388 = .ok (.laload, 1) := by decide +kernel
theorem dL_law_389 : decode cL_law 389 = .ok (.iload 7, 2) := by decide +kernel
theorem dL_law_391 : decode cL_law 391 = .ok (.i2l, 1) := by decide +kernel
theorem dL_law_392 : decode cL_law 392 = .ok (.lcmp, 1) := by decide +kernel
theorem dL_law_393 : decode cL_law 393 = .ok (.ifCond .eq 5, 3) := by decide +kernel
theorem dL_law_396 : decode cL_law 396 = .ok (.iconst 0, 1) := by decide +kernel
theorem dL_law_397 : decode cL_law 397 = .ok (.ireturn, 1) := by decide +kernel
theorem dL_law_398 : decode cL_law 398 = .ok (.goto 1399, 3) := by decide +kernel
theorem dL_law_401 : decode cL_law 401 = .ok (.aload_n 1, 1) := by decide +kernel
theorem dL_law_402 : decode cL_law 402 = .ok (.aload_n 0, 1) := by decide +kernel
theorem dL_law_403 : decode cL_law 403 = .ok (.iload 5, 2) := by decide +kernel
theorem dL_law_405 : decode cL_law 405 = .ok (.iconst 1, 1) := by decide +kernel
theorem dL_law_406 : decode cL_law 406 = .ok (.iadd, 1) := by decide +kernel
theorem dL_law_407 : decode cL_law 407 = .ok (.iaload, 1) := by decide +kernel
theorem dL_law_408 : decode cL_law 408 = .ok (.aload_n 0, 1) := by decide +kernel
theorem dL_law_409 : decode cL_law 409 = .ok (.iload 5, 2) := by decide +kernel
theorem dL_law_411 : decode cL_law 411 = .ok (.iconst 2, 1) := by decide +kernel
theorem dL_law_412 : decode cL_law 412 = .ok (.iadd, 1) := by decide +kernel
theorem dL_law_413 : decode cL_law 413 = .ok (.iaload, 1) := by decide +kernel
theorem dL_law_414 : decode cL_law 414 = .ok (.aload_n 3, 1) := by decide +kernel
theorem dL_law_415 : decode cL_law 415 = .ok (.invokestatic 121, 3) := by decide +kernel
theorem dL_law_418 : decode cL_law 418 = .ok (.istore 6, 2) := by decide +kernel
theorem dL_law_420 : decode cL_law 420 = .ok (.aload_n 2, 1) := by decide +kernel
theorem dL_law_421 : decode cL_law 421 = .ok (.aload_n 0, 1) := by decide +kernel
theorem dL_law_422 : decode cL_law 422 = .ok (.iload 5, 2) := by decide +kernel
theorem dL_law_424 : decode cL_law 424 = .ok (.iconst 1, 1) := by decide +kernel
theorem dL_law_425 : decode cL_law 425 = .ok (.iadd, 1) := by decide +kernel
theorem dL_law_426 : decode cL_law 426 = .ok (.iaload, 1) := by decide +kernel
theorem dL_law_427 : decode cL_law 427 = .ok (.aload_n 0, 1) := by decide +kernel
theorem dL_law_428 : decode cL_law 428 = .ok (.iload 5, 2) := by decide +kernel
theorem dL_law_430 : decode cL_law 430 = .ok (.iconst 2, 1) := by decide +kernel
theorem dL_law_431 : decode cL_law 431 = .ok (.iadd, 1) := by decide +kernel
theorem dL_law_432 : decode cL_law 432 = .ok (.iaload, 1) := by decide +kernel
theorem dL_law_433 : decode cL_law 433 = .ok (.invokevirtual 124, 3) := by decide +kernel
theorem dL_law_436 : decode cL_law 436 = .ok (.istore 7, 2) := by decide +kernel
theorem dL_law_438 : decode cL_law 438 = .ok (.aload_n 2, 1) := by decide +kernel
theorem dL_law_439 : decode cL_law 439 = .ok (.invokevirtual 107, 3) := by decide +kernel
theorem dL_law_442 : decode cL_law 442 = .ok (.iload 6, 2) := by decide +kernel
theorem dL_law_444 : decode cL_law 444 = .ok (.if_icmp .eq 5, 3) := by decide +kernel
theorem dL_law_447 : decode cL_law 447 = .ok (.iconst 0, 1) := by decide +kernel
theorem dL_law_448 : decode cL_law 448 = .ok (.ireturn, 1) := by decide +kernel
theorem dL_law_449 : decode cL_law 449 = .ok (.iload 6, 2) := by decide +kernel
theorem dL_law_451 : decode cL_law 451 = .ok (.ifCond .ne 15, 3) := by decide +kernel
theorem dL_law_454 : decode cL_law 454 = .ok (.aload_n 3, 1) := by decide +kernel
theorem dL_law_455 : decode cL_law 455 = .ok (.iconst 0, 1) := by decide +kernel
theorem dL_law_456 : decode cL_law 456 = .ok (.laload, 1) := by decide +kernel
theorem dL_law_457 : decode cL_law 457 = .ok (.iload 7, 2) := by decide +kernel
theorem dL_law_459 : decode cL_law 459 = .ok (.i2l, 1) := by decide +kernel
theorem dL_law_460 : decode cL_law 460 = .ok (.lcmp, 1) := by decide +kernel
theorem dL_law_461 : decode cL_law 461 = .ok (.ifCond .eq 5, 3) := by decide +kernel
theorem dL_law_464 : decode cL_law 464 = .ok (.iconst 0, 1) := by decide +kernel
theorem dL_law_465 : decode cL_law 465 = .ok (.ireturn, 1) := by decide +kernel
theorem dL_law_466 : decode cL_law 466 = .ok (.goto 1331, 3) := by decide +kernel
theorem dL_law_469 : decode cL_law 469 = .ok (.aload_n 1, 1) := by decide +kernel
theorem dL_law_470 : decode cL_law 470 = .ok (.aload_n 0, 1) := by decide +kernel
theorem dL_law_471 : decode cL_law 471 = .ok (.iload 5, 2) := by decide +kernel
theorem dL_law_473 : decode cL_law 473 = .ok (.iconst 1, 1) := by decide +kernel
theorem dL_law_474 : decode cL_law 474 = .ok (.iadd, 1) := by decide +kernel
theorem dL_law_475 : decode cL_law 475 = .ok (.iaload, 1) := by decide +kernel
theorem dL_law_476 : decode cL_law 476 = .ok (.aload_n 0, 1) := by decide +kernel
theorem dL_law_477 : decode cL_law 477 = .ok (.iload 5, 2) := by decide +kernel
theorem dL_law_479 : decode cL_law 479 = .ok (.iconst 2, 1) := by decide +kernel
theorem dL_law_480 : decode cL_law 480 = .ok (.iadd, 1) := by decide +kernel
theorem dL_law_481 : decode cL_law 481 = .ok (.iaload, 1) := by decide +kernel
theorem dL_law_482 : decode cL_law 482 = .ok (.aload_n 3, 1) := by decide +kernel
theorem dL_law_483 : decode cL_law 483 = .ok (.invokestatic 125, 3) := by decide +kernel
theorem dL_law_486 : decode cL_law 486 = .ok (.istore 6, 2) := by decide +kernel
theorem dL_law_488 : decode cL_law 488 = .ok (.aload_n 2, 1) := by decide +kernel
theorem dL_law_489 : decode cL_law 489 = .ok (.aload_n 0, 1) := by decide +kernel
theorem dL_law_490 : decode cL_law 490 = .ok (.iload 5, 2) := by decide +kernel
theorem dL_law_492 : decode cL_law 492 = .ok (.iconst 1, 1) := by decide +kernel
theorem dL_law_493 : decode cL_law 493 = .ok (.iadd, 1) := by decide +kernel
theorem dL_law_494 : decode cL_law 494 = .ok (.iaload, 1) := by decide +kernel
theorem dL_law_495 : decode cL_law 495 = .ok (.aload_n 0, 1) := by decide +kernel
theorem dL_law_496 : decode cL_law 496 = .ok (.iload 5, 2) := by decide +kernel
theorem dL_law_498 : decode cL_law 498 = .ok (.iconst 2, 1) := by decide +kernel
theorem dL_law_499 : decode cL_law 499 = .ok (.iadd, 1) := by decide +kernel
theorem dL_law_500 : decode cL_law 500 = .ok (.iaload, 1) := by decide +kernel
theorem dL_law_501 : decode cL_law 501 = .ok (.invokevirtual 127, 3) := by decide +kernel
theorem dL_law_504 : decode cL_law 504 = .ok (.istore 7, 2) := by decide +kernel
theorem dL_law_506 : decode cL_law 506 = .ok (.aload_n 2, 1) := by decide +kernel
theorem dL_law_507 : decode cL_law 507 = .ok (.invokevirtual 107, 3) := by decide +kernel
theorem dL_law_510 : decode cL_law 510 = .ok (.iload 6, 2) := by decide +kernel
theorem dL_law_512 : decode cL_law 512 = .ok (.if_icmp .eq 5, 3) := by decide +kernel
theorem dL_law_515 : decode cL_law 515 = .ok (.iconst 0, 1) := by decide +kernel
theorem dL_law_516 : decode cL_law 516 = .ok (.ireturn, 1) := by decide +kernel
theorem dL_law_517 : decode cL_law 517 = .ok (.iload 6, 2) := by decide +kernel
theorem dL_law_519 : decode cL_law 519 = .ok (.ifCond .ne 15, 3) := by decide +kernel
theorem dL_law_522 : decode cL_law 522 = .ok (.aload_n 3, 1) := by decide +kernel
theorem dL_law_523 : decode cL_law 523 = .ok (.iconst 0, 1) := by decide +kernel
theorem dL_law_524 : decode cL_law 524 = .ok (.laload, 1) := by decide +kernel
theorem dL_law_525 : decode cL_law 525 = .ok (.iload 7, 2) := by decide +kernel
theorem dL_law_527 : decode cL_law 527 = .ok (.i2l, 1) := by decide +kernel
theorem dL_law_528 : decode cL_law 528 = .ok (.lcmp, 1) := by decide +kernel
theorem dL_law_529 : decode cL_law 529 = .ok (.ifCond .eq 5, 3) := by decide +kernel
theorem dL_law_532 : decode cL_law 532 = .ok (.iconst 0, 1) := by decide +kernel
theorem dL_law_533 : decode cL_law 533 = .ok (.ireturn, 1) := by decide +kernel
theorem dL_law_534 : decode cL_law 534 = .ok (.goto 1263, 3) := by decide +kernel
theorem dL_law_537 : decode cL_law 537 = .ok (.aload_n 1, 1) := by decide +kernel
theorem dL_law_538 : decode cL_law 538 = .ok (.aload_n 0, 1) := by decide +kernel
theorem dL_law_539 : decode cL_law 539 = .ok (.iload 5, 2) := by decide +kernel
theorem dL_law_541 : decode cL_law 541 = .ok (.iconst 1, 1) := by decide +kernel
theorem dL_law_542 : decode cL_law 542 = .ok (.iadd, 1) := by decide +kernel
theorem dL_law_543 : decode cL_law 543 = .ok (.iaload, 1) := by decide +kernel
theorem dL_law_544 : decode cL_law 544 = .ok (.aload_n 0, 1) := by decide +kernel
theorem dL_law_545 : decode cL_law 545 = .ok (.iload 5, 2) := by decide +kernel
theorem dL_law_547 : decode cL_law 547 = .ok (.iconst 2, 1) := by decide +kernel
theorem dL_law_548 : decode cL_law 548 = .ok (.iadd, 1) := by decide +kernel
theorem dL_law_549 : decode cL_law 549 = .ok (.iaload, 1) := by decide +kernel
theorem dL_law_550 : decode cL_law 550 = .ok (.aload_n 3, 1) := by decide +kernel
theorem dL_law_551 : decode cL_law 551 = .ok (.invokestatic 128, 3) := by decide +kernel
theorem dL_law_554 : decode cL_law 554 = .ok (.istore 6, 2) := by decide +kernel
theorem dL_law_556 : decode cL_law 556 = .ok (.aload_n 2, 1) := by decide +kernel
theorem dL_law_557 : decode cL_law 557 = .ok (.aload_n 0, 1) := by decide +kernel
theorem dL_law_558 : decode cL_law 558 = .ok (.iload 5, 2) := by decide +kernel
theorem dL_law_560 : decode cL_law 560 = .ok (.iconst 1, 1) := by decide +kernel
theorem dL_law_561 : decode cL_law 561 = .ok (.iadd, 1) := by decide +kernel
theorem dL_law_562 : decode cL_law 562 = .ok (.iaload, 1) := by decide +kernel
theorem dL_law_563 : decode cL_law 563 = .ok (.aload_n 0, 1) := by decide +kernel
theorem dL_law_564 : decode cL_law 564 = .ok (.iload 5, 2) := by decide +kernel
theorem dL_law_566 : decode cL_law 566 = .ok (.iconst 2, 1) := by decide +kernel
theorem dL_law_567 : decode cL_law 567 = .ok (.iadd, 1) := by decide +kernel
theorem dL_law_568 : decode cL_law 568 = .ok (.iaload, 1) := by decide +kernel
theorem dL_law_569 : decode cL_law 569 = .ok (.invokevirtual 130, 3) := by decide +kernel
theorem dL_law_572 : decode cL_law 572 = .ok (.istore 7, 2) := by decide +kernel
theorem dL_law_574 : decode cL_law 574 = .ok (.aload_n 2, 1) := by decide +kernel
theorem dL_law_575 : decode cL_law 575 = .ok (.invokevirtual 107, 3) := by decide +kernel
theorem dL_law_578 : decode cL_law 578 = .ok (.iload 6, 2) := by decide +kernel
theorem dL_law_580 : decode cL_law 580 = .ok (.if_icmp .eq 5, 3) := by decide +kernel
theorem dL_law_583 : decode cL_law 583 = .ok (.iconst 0, 1) := by decide +kernel
theorem dL_law_584 : decode cL_law 584 = .ok (.ireturn, 1) := by decide +kernel
theorem dL_law_585 : decode cL_law 585 = .ok (.iload 6, 2) := by decide +kernel
theorem dL_law_587 : decode cL_law 587 = .ok (.ifCond .ne 15, 3) := by decide +kernel
theorem dL_law_590 : decode cL_law 590 = .ok (.aload_n 3, 1) := by decide +kernel
theorem dL_law_591 : decode cL_law 591 = .ok (.iconst 0, 1) := by decide +kernel
theorem dL_law_592 : decode cL_law 592 = .ok (.laload, 1) := by decide +kernel
theorem dL_law_593 : decode cL_law 593 = .ok (.iload 7, 2) := by decide +kernel
theorem dL_law_595 : decode cL_law 595 = .ok (.i2l, 1) := by decide +kernel
theorem dL_law_596 : decode cL_law 596 = .ok (.lcmp, 1) := by decide +kernel
theorem dL_law_597 : decode cL_law 597 = .ok (.ifCond .eq 5, 3) := by decide +kernel
theorem dL_law_600 : decode cL_law 600 = .ok (.iconst 0, 1) := by decide +kernel
theorem dL_law_601 : decode cL_law 601 = .ok (.ireturn, 1) := by decide +kernel
theorem dL_law_602 : decode cL_law 602 = .ok (.goto 1195, 3) := by decide +kernel
theorem dL_law_605 : decode cL_law 605 = .ok (.aload_n 1, 1) := by decide +kernel
theorem dL_law_606 : decode cL_law 606 = .ok (.aload_n 0, 1) := by decide +kernel
theorem dL_law_607 : decode cL_law 607 = .ok (.iload 5, 2) := by decide +kernel
theorem dL_law_609 : decode cL_law 609 = .ok (.iconst 1, 1) := by decide +kernel
theorem dL_law_610 : decode cL_law 610 = .ok (.iadd, 1) := by decide +kernel
theorem dL_law_611 : decode cL_law 611 = .ok (.iaload, 1) := by decide +kernel
theorem dL_law_612 : decode cL_law 612 = .ok (.aload_n 0, 1) := by decide +kernel
theorem dL_law_613 : decode cL_law 613 = .ok (.iload 5, 2) := by decide +kernel
theorem dL_law_615 : decode cL_law 615 = .ok (.iconst 2, 1) := by decide +kernel
theorem dL_law_616 : decode cL_law 616 = .ok (.iadd, 1) := by decide +kernel
theorem dL_law_617 : decode cL_law 617 = .ok (.iaload, 1) := by decide +kernel
theorem dL_law_618 : decode cL_law 618 = .ok (.aload_n 0, 1) := by decide +kernel
theorem dL_law_619 : decode cL_law 619 = .ok (.iload 5, 2) := by decide +kernel
theorem dL_law_621 : decode cL_law 621 = .ok (.iconst 3, 1) := by decide +kernel
theorem dL_law_622 : decode cL_law 622 = .ok (.iadd, 1) := by decide +kernel
theorem dL_law_623 : decode cL_law 623 = .ok (.iaload, 1) := by decide +kernel
theorem dL_law_624 : decode cL_law 624 = .ok (.aload_n 0, 1) := by decide +kernel
theorem dL_law_625 : decode cL_law 625 = .ok (.iload 5, 2) := by decide +kernel
theorem dL_law_627 : decode cL_law 627 = .ok (.iconst 4, 1) := by decide +kernel
theorem dL_law_628 : decode cL_law 628 = .ok (.iadd, 1) := by decide +kernel
theorem dL_law_629 : decode cL_law 629 = .ok (.iaload, 1) := by decide +kernel
theorem dL_law_630 : decode cL_law 630 = .ok (.aload_n 3, 1) := by decide +kernel
theorem dL_law_631 : decode cL_law 631 = .ok (.invokestatic 131, 3) := by decide +kernel
theorem dL_law_634 : decode cL_law 634 = .ok (.istore 6, 2) := by decide +kernel
theorem dL_law_636 : decode cL_law 636 = .ok (.aload_n 2, 1) := by decide +kernel
theorem dL_law_637 : decode cL_law 637 = .ok (.aload_n 0, 1) := by decide +kernel
theorem dL_law_638 : decode cL_law 638 = .ok (.iload 5, 2) := by decide +kernel
theorem dL_law_640 : decode cL_law 640 = .ok (.iconst 1, 1) := by decide +kernel
theorem dL_law_641 : decode cL_law 641 = .ok (.iadd, 1) := by decide +kernel
theorem dL_law_642 : decode cL_law 642 = .ok (.iaload, 1) := by decide +kernel
theorem dL_law_643 : decode cL_law 643 = .ok (.aload_n 0, 1) := by decide +kernel
theorem dL_law_644 : decode cL_law 644 = .ok (.iload 5, 2) := by decide +kernel
theorem dL_law_646 : decode cL_law 646 = .ok (.iconst 2, 1) := by decide +kernel
theorem dL_law_647 : decode cL_law 647 = .ok (.iadd, 1) := by decide +kernel
theorem dL_law_648 : decode cL_law 648 = .ok (.iaload, 1) := by decide +kernel
theorem dL_law_649 : decode cL_law 649 = .ok (.aload_n 0, 1) := by decide +kernel
theorem dL_law_650 : decode cL_law 650 = .ok (.iload 5, 2) := by decide +kernel
theorem dL_law_652 : decode cL_law 652 = .ok (.iconst 3, 1) := by decide +kernel
theorem dL_law_653 : decode cL_law 653 = .ok (.iadd, 1) := by decide +kernel
theorem dL_law_654 : decode cL_law 654 = .ok (.iaload, 1) := by decide +kernel
theorem dL_law_655 : decode cL_law 655 = .ok (.aload_n 0, 1) := by decide +kernel
theorem dL_law_656 : decode cL_law 656 = .ok (.iload 5, 2) := by decide +kernel
theorem dL_law_658 : decode cL_law 658 = .ok (.iconst 4, 1) := by decide +kernel
theorem dL_law_659 : decode cL_law 659 = .ok (.iadd, 1) := by decide +kernel
theorem dL_law_660 : decode cL_law 660 = .ok (.iaload, 1) := by decide +kernel
theorem dL_law_661 : decode cL_law 661 = .ok (.invokevirtual 134, 3) := by decide +kernel
theorem dL_law_664 : decode cL_law 664 = .ok (.istore 7, 2) := by decide +kernel
theorem dL_law_666 : decode cL_law 666 = .ok (.aload_n 2, 1) := by decide +kernel
theorem dL_law_667 : decode cL_law 667 = .ok (.invokevirtual 107, 3) := by decide +kernel
theorem dL_law_670 : decode cL_law 670 = .ok (.iload 6, 2) := by decide +kernel
theorem dL_law_672 : decode cL_law 672 = .ok (.if_icmp .eq 5, 3) := by decide +kernel
theorem dL_law_675 : decode cL_law 675 = .ok (.iconst 0, 1) := by decide +kernel
theorem dL_law_676 : decode cL_law 676 = .ok (.ireturn, 1) := by decide +kernel
theorem dL_law_677 : decode cL_law 677 = .ok (.iload 6, 2) := by decide +kernel
theorem dL_law_679 : decode cL_law 679 = .ok (.ifCond .ne 15, 3) := by decide +kernel
theorem dL_law_682 : decode cL_law 682 = .ok (.aload_n 3, 1) := by decide +kernel
theorem dL_law_683 : decode cL_law 683 = .ok (.iconst 0, 1) := by decide +kernel
theorem dL_law_684 : decode cL_law 684 = .ok (.laload, 1) := by decide +kernel
theorem dL_law_685 : decode cL_law 685 = .ok (.iload 7, 2) := by decide +kernel
theorem dL_law_687 : decode cL_law 687 = .ok (.i2l, 1) := by decide +kernel
theorem dL_law_688 : decode cL_law 688 = .ok (.lcmp, 1) := by decide +kernel
theorem dL_law_689 : decode cL_law 689 = .ok (.ifCond .eq 5, 3) := by decide +kernel
theorem dL_law_692 : decode cL_law 692 = .ok (.iconst 0, 1) := by decide +kernel
theorem dL_law_693 : decode cL_law 693 = .ok (.ireturn, 1) := by decide +kernel
theorem dL_law_694 : decode cL_law 694 = .ok (.goto 1103, 3) := by decide +kernel
theorem dL_law_697 : decode cL_law 697 = .ok (.aload_n 1, 1) := by decide +kernel
theorem dL_law_698 : decode cL_law 698 = .ok (.aload_n 0, 1) := by decide +kernel
theorem dL_law_699 : decode cL_law 699 = .ok (.iload 5, 2) := by decide +kernel
theorem dL_law_701 : decode cL_law 701 = .ok (.iconst 1, 1) := by decide +kernel
theorem dL_law_702 : decode cL_law 702 = .ok (.iadd, 1) := by decide +kernel
theorem dL_law_703 : decode cL_law 703 = .ok (.iaload, 1) := by decide +kernel
theorem dL_law_704 : decode cL_law 704 = .ok (.aload_n 0, 1) := by decide +kernel
theorem dL_law_705 : decode cL_law 705 = .ok (.iload 5, 2) := by decide +kernel
theorem dL_law_707 : decode cL_law 707 = .ok (.iconst 2, 1) := by decide +kernel
theorem dL_law_708 : decode cL_law 708 = .ok (.iadd, 1) := by decide +kernel
theorem dL_law_709 : decode cL_law 709 = .ok (.iaload, 1) := by decide +kernel
theorem dL_law_710 : decode cL_law 710 = .ok (.aload_n 3, 1) := by decide +kernel
theorem dL_law_711 : decode cL_law 711 = .ok (.invokestatic 135, 3) := by decide +kernel
theorem dL_law_714 : decode cL_law 714 = .ok (.istore 6, 2) := by decide +kernel
theorem dL_law_716 : decode cL_law 716 = .ok (.aload_n 2, 1) := by decide +kernel
theorem dL_law_717 : decode cL_law 717 = .ok (.aload_n 0, 1) := by decide +kernel
theorem dL_law_718 : decode cL_law 718 = .ok (.iload 5, 2) := by decide +kernel
theorem dL_law_720 : decode cL_law 720 = .ok (.iconst 1, 1) := by decide +kernel
theorem dL_law_721 : decode cL_law 721 = .ok (.iadd, 1) := by decide +kernel
theorem dL_law_722 : decode cL_law 722 = .ok (.iaload, 1) := by decide +kernel
theorem dL_law_723 : decode cL_law 723 = .ok (.aload_n 0, 1) := by decide +kernel
theorem dL_law_724 : decode cL_law 724 = .ok (.iload 5, 2) := by decide +kernel
theorem dL_law_726 : decode cL_law 726 = .ok (.iconst 2, 1) := by decide +kernel
theorem dL_law_727 : decode cL_law 727 = .ok (.iadd, 1) := by decide +kernel
theorem dL_law_728 : decode cL_law 728 = .ok (.iaload, 1) := by decide +kernel
theorem dL_law_729 : decode cL_law 729 = .ok (.invokevirtual 137, 3) := by decide +kernel
theorem dL_law_732 : decode cL_law 732 = .ok (.istore 7, 2) := by decide +kernel
theorem dL_law_734 : decode cL_law 734 = .ok (.aload_n 2, 1) := by decide +kernel
theorem dL_law_735 : decode cL_law 735 = .ok (.invokevirtual 107, 3) := by decide +kernel
theorem dL_law_738 : decode cL_law 738 = .ok (.iload 6, 2) := by decide +kernel
theorem dL_law_740 : decode cL_law 740 = .ok (.if_icmp .eq 5, 3) := by decide +kernel
theorem dL_law_743 : decode cL_law 743 = .ok (.iconst 0, 1) := by decide +kernel
theorem dL_law_744 : decode cL_law 744 = .ok (.ireturn, 1) := by decide +kernel
theorem dL_law_745 : decode cL_law 745 = .ok (.iload 6, 2) := by decide +kernel
theorem dL_law_747 : decode cL_law 747 = .ok (.ifCond .ne 15, 3) := by decide +kernel
theorem dL_law_750 : decode cL_law 750 = .ok (.aload_n 3, 1) := by decide +kernel
theorem dL_law_751 : decode cL_law 751 = .ok (.iconst 0, 1) := by decide +kernel
theorem dL_law_752 : decode cL_law 752 = .ok (.laload, 1) := by decide +kernel
theorem dL_law_753 : decode cL_law 753 = .ok (.iload 7, 2) := by decide +kernel
theorem dL_law_755 : decode cL_law 755 = .ok (.i2l, 1) := by decide +kernel
theorem dL_law_756 : decode cL_law 756 = .ok (.lcmp, 1) := by decide +kernel
theorem dL_law_757 : decode cL_law 757 = .ok (.ifCond .eq 5, 3) := by decide +kernel
theorem dL_law_760 : decode cL_law 760 = .ok (.iconst 0, 1) := by decide +kernel
theorem dL_law_761 : decode cL_law 761 = .ok (.ireturn, 1) := by decide +kernel
theorem dL_law_762 : decode cL_law 762 = .ok (.goto 1035, 3) := by decide +kernel
theorem dL_law_765 : decode cL_law 765 = .ok (.aload_n 1, 1) := by decide +kernel
theorem dL_law_766 : decode cL_law 766 = .ok (.aload_n 0, 1) := by decide +kernel
theorem dL_law_767 : decode cL_law 767 = .ok (.iload 5, 2) := by decide +kernel
theorem dL_law_769 : decode cL_law 769 = .ok (.iconst 1, 1) := by decide +kernel
theorem dL_law_770 : decode cL_law 770 = .ok (.iadd, 1) := by decide +kernel
theorem dL_law_771 : decode cL_law 771 = .ok (.iaload, 1) := by decide +kernel
theorem dL_law_772 : decode cL_law 772 = .ok (.aload_n 3, 1) := by decide +kernel
theorem dL_law_773 : decode cL_law 773 = .ok (.invokestatic 138, 3) := by decide +kernel
theorem dL_law_776 : decode cL_law 776 = .ok (.istore 6, 2) := by decide +kernel
theorem dL_law_778 : decode cL_law 778 = .ok (.aload_n 2, 1) := by decide +kernel
theorem dL_law_779 : decode cL_law 779 = .ok (.aload_n 0, 1) := by decide +kernel
theorem dL_law_780 : decode cL_law 780 = .ok (.iload 5, 2) := by decide +kernel
theorem dL_law_782 : decode cL_law 782 = .ok (.iconst 1, 1) := by decide +kernel
theorem dL_law_783 : decode cL_law 783 = .ok (.iadd, 1) := by decide +kernel
theorem dL_law_784 : decode cL_law 784 = .ok (.iaload, 1) := by decide +kernel
theorem dL_law_785 : decode cL_law 785 = .ok (.invokevirtual 140, 3) := by decide +kernel
theorem dL_law_788 : decode cL_law 788 = .ok (.istore 7, 2) := by decide +kernel
theorem dL_law_790 : decode cL_law 790 = .ok (.aload_n 2, 1) := by decide +kernel
theorem dL_law_791 : decode cL_law 791 = .ok (.invokevirtual 107, 3) := by decide +kernel
theorem dL_law_794 : decode cL_law 794 = .ok (.iload 6, 2) := by decide +kernel
theorem dL_law_796 : decode cL_law 796 = .ok (.if_icmp .eq 5, 3) := by decide +kernel
theorem dL_law_799 : decode cL_law 799 = .ok (.iconst 0, 1) := by decide +kernel
theorem dL_law_800 : decode cL_law 800 = .ok (.ireturn, 1) := by decide +kernel
theorem dL_law_801 : decode cL_law 801 = .ok (.iload 6, 2) := by decide +kernel
theorem dL_law_803 : decode cL_law 803 = .ok (.ifCond .ne 15, 3) := by decide +kernel
theorem dL_law_806 : decode cL_law 806 = .ok (.aload_n 3, 1) := by decide +kernel
theorem dL_law_807 : decode cL_law 807 = .ok (.iconst 0, 1) := by decide +kernel
theorem dL_law_808 : decode cL_law 808 = .ok (.laload, 1) := by decide +kernel
theorem dL_law_809 : decode cL_law 809 = .ok (.iload 7, 2) := by decide +kernel
theorem dL_law_811 : decode cL_law 811 = .ok (.i2l, 1) := by decide +kernel
theorem dL_law_812 : decode cL_law 812 = .ok (.lcmp, 1) := by decide +kernel
theorem dL_law_813 : decode cL_law 813 = .ok (.ifCond .eq 5, 3) := by decide +kernel
theorem dL_law_816 : decode cL_law 816 = .ok (.iconst 0, 1) := by decide +kernel
theorem dL_law_817 : decode cL_law 817 = .ok (.ireturn, 1) := by decide +kernel
theorem dL_law_818 : decode cL_law 818 = .ok (.goto 979, 3) := by decide +kernel
theorem dL_law_821 : decode cL_law 821 = .ok (.aload_n 1, 1) := by decide +kernel
theorem dL_law_822 : decode cL_law 822 = .ok (.aload_n 0, 1) := by decide +kernel
theorem dL_law_823 : decode cL_law 823 = .ok (.iload 5, 2) := by decide +kernel
theorem dL_law_825 : decode cL_law 825 = .ok (.iconst 1, 1) := by decide +kernel
theorem dL_law_826 : decode cL_law 826 = .ok (.iadd, 1) := by decide +kernel
theorem dL_law_827 : decode cL_law 827 = .ok (.iaload, 1) := by decide +kernel
theorem dL_law_828 : decode cL_law 828 = .ok (.aload_n 3, 1) := by decide +kernel
theorem dL_law_829 : decode cL_law 829 = .ok (.invokestatic 141, 3) := by decide +kernel
theorem dL_law_832 : decode cL_law 832 = .ok (.istore 6, 2) := by decide +kernel
theorem dL_law_834 : decode cL_law 834 = .ok (.aload_n 2, 1) := by decide +kernel
theorem dL_law_835 : decode cL_law 835 = .ok (.aload_n 0, 1) := by decide +kernel
theorem dL_law_836 : decode cL_law 836 = .ok (.iload 5, 2) := by decide +kernel
theorem dL_law_838 : decode cL_law 838 = .ok (.iconst 1, 1) := by decide +kernel
theorem dL_law_839 : decode cL_law 839 = .ok (.iadd, 1) := by decide +kernel
theorem dL_law_840 : decode cL_law 840 = .ok (.iaload, 1) := by decide +kernel
theorem dL_law_841 : decode cL_law 841 = .ok (.invokevirtual 143, 3) := by decide +kernel
theorem dL_law_844 : decode cL_law 844 = .ok (.istore 7, 2) := by decide +kernel
theorem dL_law_846 : decode cL_law 846 = .ok (.aload_n 2, 1) := by decide +kernel
theorem dL_law_847 : decode cL_law 847 = .ok (.invokevirtual 107, 3) := by decide +kernel
theorem dL_law_850 : decode cL_law 850 = .ok (.iload 6, 2) := by decide +kernel
theorem dL_law_852 : decode cL_law 852 = .ok (.if_icmp .eq 5, 3) := by decide +kernel
theorem dL_law_855 : decode cL_law 855 = .ok (.iconst 0, 1) := by decide +kernel
theorem dL_law_856 : decode cL_law 856 = .ok (.ireturn, 1) := by decide +kernel
theorem dL_law_857 : decode cL_law 857 = .ok (.iload 6, 2) := by decide +kernel
theorem dL_law_859 : decode cL_law 859 = .ok (.ifCond .ne 15, 3) := by decide +kernel
theorem dL_law_862 : decode cL_law 862 = .ok (.aload_n 3, 1) := by decide +kernel
theorem dL_law_863 : decode cL_law 863 = .ok (.iconst 0, 1) := by decide +kernel
theorem dL_law_864 : decode cL_law 864 = .ok (.laload, 1) := by decide +kernel
theorem dL_law_865 : decode cL_law 865 = .ok (.iload 7, 2) := by decide +kernel
theorem dL_law_867 : decode cL_law 867 = .ok (.i2l, 1) := by decide +kernel
theorem dL_law_868 : decode cL_law 868 = .ok (.lcmp, 1) := by decide +kernel
theorem dL_law_869 : decode cL_law 869 = .ok (.ifCond .eq 5, 3) := by decide +kernel
theorem dL_law_872 : decode cL_law 872 = .ok (.iconst 0, 1) := by decide +kernel
theorem dL_law_873 : decode cL_law 873 = .ok (.ireturn, 1) := by decide +kernel
theorem dL_law_874 : decode cL_law 874 = .ok (.goto 923, 3) := by decide +kernel
theorem dL_law_877 : decode cL_law 877 = .ok (.aload_n 1, 1) := by decide +kernel
theorem dL_law_878 : decode cL_law 878 = .ok (.aload_n 0, 1) := by decide +kernel
theorem dL_law_879 : decode cL_law 879 = .ok (.iload 5, 2) := by decide +kernel
theorem dL_law_881 : decode cL_law 881 = .ok (.iconst 1, 1) := by decide +kernel
theorem dL_law_882 : decode cL_law 882 = .ok (.iadd, 1) := by decide +kernel
theorem dL_law_883 : decode cL_law 883 = .ok (.iaload, 1) := by decide +kernel
theorem dL_law_884 : decode cL_law 884 = .ok (.aload_n 0, 1) := by decide +kernel
theorem dL_law_885 : decode cL_law 885 = .ok (.iload 5, 2) := by decide +kernel
theorem dL_law_887 : decode cL_law 887 = .ok (.iconst 2, 1) := by decide +kernel
theorem dL_law_888 : decode cL_law 888 = .ok (.iadd, 1) := by decide +kernel
theorem dL_law_889 : decode cL_law 889 = .ok (.iaload, 1) := by decide +kernel
theorem dL_law_890 : decode cL_law 890 = .ok (.aload_n 3, 1) := by decide +kernel
theorem dL_law_891 : decode cL_law 891 = .ok (.invokestatic 144, 3) := by decide +kernel
theorem dL_law_894 : decode cL_law 894 = .ok (.istore 6, 2) := by decide +kernel
theorem dL_law_896 : decode cL_law 896 = .ok (.aload_n 2, 1) := by decide +kernel
theorem dL_law_897 : decode cL_law 897 = .ok (.aload_n 0, 1) := by decide +kernel
theorem dL_law_898 : decode cL_law 898 = .ok (.iload 5, 2) := by decide +kernel
theorem dL_law_900 : decode cL_law 900 = .ok (.iconst 1, 1) := by decide +kernel
theorem dL_law_901 : decode cL_law 901 = .ok (.iadd, 1) := by decide +kernel
theorem dL_law_902 : decode cL_law 902 = .ok (.iaload, 1) := by decide +kernel
theorem dL_law_903 : decode cL_law 903 = .ok (.aload_n 0, 1) := by decide +kernel
theorem dL_law_904 : decode cL_law 904 = .ok (.iload 5, 2) := by decide +kernel
theorem dL_law_906 : decode cL_law 906 = .ok (.iconst 2, 1) := by decide +kernel
theorem dL_law_907 : decode cL_law 907 = .ok (.iadd, 1) := by decide +kernel
theorem dL_law_908 : decode cL_law 908 = .ok (.iaload, 1) := by decide +kernel
theorem dL_law_909 : decode cL_law 909 = .ok (.invokevirtual 146, 3) := by decide +kernel
theorem dL_law_912 : decode cL_law 912 = .ok (.lstore 7, 2) := by decide +kernel
theorem dL_law_914 : decode cL_law 914 = .ok (.aload_n 2, 1) := by decide +kernel
theorem dL_law_915 : decode cL_law 915 = .ok (.invokevirtual 107, 3) := by decide +kernel
theorem dL_law_918 : decode cL_law 918 = .ok (.iload 6, 2) := by decide +kernel
theorem dL_law_920 : decode cL_law 920 = .ok (.if_icmp .eq 5, 3) := by decide +kernel
theorem dL_law_923 : decode cL_law 923 = .ok (.iconst 0, 1) := by decide +kernel
theorem dL_law_924 : decode cL_law 924 = .ok (.ireturn, 1) := by decide +kernel
theorem dL_law_925 : decode cL_law 925 = .ok (.iload 6, 2) := by decide +kernel
theorem dL_law_927 : decode cL_law 927 = .ok (.ifCond .ne 14, 3) := by decide +kernel
theorem dL_law_930 : decode cL_law 930 = .ok (.aload_n 3, 1) := by decide +kernel
theorem dL_law_931 : decode cL_law 931 = .ok (.iconst 0, 1) := by decide +kernel
theorem dL_law_932 : decode cL_law 932 = .ok (.laload, 1) := by decide +kernel
theorem dL_law_933 : decode cL_law 933 = .ok (.lload 7, 2) := by decide +kernel
theorem dL_law_935 : decode cL_law 935 = .ok (.lcmp, 1) := by decide +kernel
theorem dL_law_936 : decode cL_law 936 = .ok (.ifCond .eq 5, 3) := by decide +kernel
theorem dL_law_939 : decode cL_law 939 = .ok (.iconst 0, 1) := by decide +kernel
theorem dL_law_940 : decode cL_law 940 = .ok (.ireturn, 1) := by decide +kernel
theorem dL_law_941 : decode cL_law 941 = .ok (.goto 856, 3) := by decide +kernel
theorem dL_law_944 : decode cL_law 944 = .ok (.aload_n 1, 1) := by decide +kernel
theorem dL_law_945 : decode cL_law 945 = .ok (.aload_n 0, 1) := by decide +kernel
theorem dL_law_946 : decode cL_law 946 = .ok (.iload 5, 2) := by decide +kernel
theorem dL_law_948 : decode cL_law 948 = .ok (.iconst 1, 1) := by decide +kernel
theorem dL_law_949 : decode cL_law 949 = .ok (.iadd, 1) := by decide +kernel
theorem dL_law_950 : decode cL_law 950 = .ok (.iaload, 1) := by decide +kernel
theorem dL_law_951 : decode cL_law 951 = .ok (.aload_n 0, 1) := by decide +kernel
theorem dL_law_952 : decode cL_law 952 = .ok (.iload 5, 2) := by decide +kernel
theorem dL_law_954 : decode cL_law 954 = .ok (.iconst 2, 1) := by decide +kernel
theorem dL_law_955 : decode cL_law 955 = .ok (.iadd, 1) := by decide +kernel
theorem dL_law_956 : decode cL_law 956 = .ok (.iaload, 1) := by decide +kernel
theorem dL_law_957 : decode cL_law 957 = .ok (.aload_n 3, 1) := by decide +kernel
theorem dL_law_958 : decode cL_law 958 = .ok (.invokestatic 147, 3) := by decide +kernel
theorem dL_law_961 : decode cL_law 961 = .ok (.istore 6, 2) := by decide +kernel
theorem dL_law_963 : decode cL_law 963 = .ok (.aload_n 2, 1) := by decide +kernel
theorem dL_law_964 : decode cL_law 964 = .ok (.aload_n 0, 1) := by decide +kernel
theorem dL_law_965 : decode cL_law 965 = .ok (.iload 5, 2) := by decide +kernel
theorem dL_law_967 : decode cL_law 967 = .ok (.iconst 1, 1) := by decide +kernel
theorem dL_law_968 : decode cL_law 968 = .ok (.iadd, 1) := by decide +kernel
theorem dL_law_969 : decode cL_law 969 = .ok (.iaload, 1) := by decide +kernel
theorem dL_law_970 : decode cL_law 970 = .ok (.aload_n 0, 1) := by decide +kernel
theorem dL_law_971 : decode cL_law 971 = .ok (.iload 5, 2) := by decide +kernel
theorem dL_law_973 : decode cL_law 973 = .ok (.iconst 2, 1) := by decide +kernel
theorem dL_law_974 : decode cL_law 974 = .ok (.iadd, 1) := by decide +kernel
theorem dL_law_975 : decode cL_law 975 = .ok (.iaload, 1) := by decide +kernel
theorem dL_law_976 : decode cL_law 976 = .ok (.invokevirtual 149, 3) := by decide +kernel
theorem dL_law_979 : decode cL_law 979 = .ok (.istore 7, 2) := by decide +kernel
theorem dL_law_981 : decode cL_law 981 = .ok (.aload_n 2, 1) := by decide +kernel
theorem dL_law_982 : decode cL_law 982 = .ok (.invokevirtual 107, 3) := by decide +kernel
theorem dL_law_985 : decode cL_law 985 = .ok (.iload 6, 2) := by decide +kernel
theorem dL_law_987 : decode cL_law 987 = .ok (.if_icmp .eq 5, 3) := by decide +kernel
theorem dL_law_990 : decode cL_law 990 = .ok (.iconst 0, 1) := by decide +kernel
theorem dL_law_991 : decode cL_law 991 = .ok (.ireturn, 1) := by decide +kernel
theorem dL_law_992 : decode cL_law 992 = .ok (.iload 6, 2) := by decide +kernel
theorem dL_law_994 : decode cL_law 994 = .ok (.ifCond .ne 15, 3) := by decide +kernel
theorem dL_law_997 : decode cL_law 997 = .ok (.aload_n 3, 1) := by decide +kernel
theorem dL_law_998 : decode cL_law 998 = .ok (.iconst 0, 1) := by decide +kernel
theorem dL_law_999 : decode cL_law 999 = .ok (.laload, 1) := by decide +kernel
theorem dL_law_1000 : decode cL_law 1000 = .ok (.iload 7, 2) := by decide +kernel
theorem dL_law_1002 : decode cL_law 1002 = .ok (.i2l, 1) := by decide +kernel
theorem dL_law_1003 : decode cL_law 1003 = .ok (.lcmp, 1) := by decide +kernel
theorem dL_law_1004 : decode cL_law 1004 = .ok (.ifCond .eq 5, 3) := by decide +kernel
theorem dL_law_1007 : decode cL_law 1007 = .ok (.iconst 0, 1) := by decide +kernel
theorem dL_law_1008 : decode cL_law 1008 = .ok (.ireturn, 1) := by decide +kernel
theorem dL_law_1009 : decode cL_law 1009 = .ok (.goto 788, 3) := by decide +kernel
theorem dL_law_1012 : decode cL_law 1012 = .ok (.aload_n 1, 1) := by decide +kernel
theorem dL_law_1013 : decode cL_law 1013 = .ok (.aload_n 0, 1) := by decide +kernel
theorem dL_law_1014 : decode cL_law 1014 = .ok (.iload 5, 2) := by decide +kernel
theorem dL_law_1016 : decode cL_law 1016 = .ok (.iconst 1, 1) := by decide +kernel
theorem dL_law_1017 : decode cL_law 1017 = .ok (.iadd, 1) := by decide +kernel
theorem dL_law_1018 : decode cL_law 1018 = .ok (.iaload, 1) := by decide +kernel
theorem dL_law_1019 : decode cL_law 1019 = .ok (.aload_n 0, 1) := by decide +kernel
theorem dL_law_1020 : decode cL_law 1020 = .ok (.iload 5, 2) := by decide +kernel
theorem dL_law_1022 : decode cL_law 1022 = .ok (.iconst 2, 1) := by decide +kernel
theorem dL_law_1023 : decode cL_law 1023 = .ok (.iadd, 1) := by decide +kernel
theorem dL_law_1024 : decode cL_law 1024 = .ok (.iaload, 1) := by decide +kernel
theorem dL_law_1025 : decode cL_law 1025 = .ok (.aload_n 3, 1) := by decide +kernel
theorem dL_law_1026 : decode cL_law 1026 = .ok (.invokestatic 150, 3) := by decide +kernel
theorem dL_law_1029 : decode cL_law 1029 = .ok (.istore 6, 2) := by decide +kernel
theorem dL_law_1031 : decode cL_law 1031 = .ok (.aload_n 2, 1) := by decide +kernel
theorem dL_law_1032 : decode cL_law 1032 = .ok (.aload_n 0, 1) := by decide +kernel
theorem dL_law_1033 : decode cL_law 1033 = .ok (.iload 5, 2) := by decide +kernel
theorem dL_law_1035 : decode cL_law 1035 = .ok (.iconst 1, 1) := by decide +kernel
theorem dL_law_1036 : decode cL_law 1036 = .ok (.iadd, 1) := by decide +kernel
theorem dL_law_1037 : decode cL_law 1037 = .ok (.iaload, 1) := by decide +kernel
theorem dL_law_1038 : decode cL_law 1038 = .ok (.aload_n 0, 1) := by decide +kernel
theorem dL_law_1039 : decode cL_law 1039 = .ok (.iload 5, 2) := by decide +kernel
theorem dL_law_1041 : decode cL_law 1041 = .ok (.iconst 2, 1) := by decide +kernel
theorem dL_law_1042 : decode cL_law 1042 = .ok (.iadd, 1) := by decide +kernel
theorem dL_law_1043 : decode cL_law 1043 = .ok (.iaload, 1) := by decide +kernel
theorem dL_law_1044 : decode cL_law 1044 = .ok (.invokevirtual 152, 3) := by decide +kernel
theorem dL_law_1047 : decode cL_law 1047 = .ok (.istore 7, 2) := by decide +kernel
theorem dL_law_1049 : decode cL_law 1049 = .ok (.aload_n 2, 1) := by decide +kernel
theorem dL_law_1050 : decode cL_law 1050 = .ok (.invokevirtual 107, 3) := by decide +kernel
theorem dL_law_1053 : decode cL_law 1053 = .ok (.iload 6, 2) := by decide +kernel
theorem dL_law_1055 : decode cL_law 1055 = .ok (.if_icmp .eq 5, 3) := by decide +kernel
theorem dL_law_1058 : decode cL_law 1058 = .ok (.iconst 0, 1) := by decide +kernel
theorem dL_law_1059 : decode cL_law 1059 = .ok (.ireturn, 1) := by decide +kernel
theorem dL_law_1060 : decode cL_law 1060 = .ok (.iload 6, 2) := by decide +kernel
theorem dL_law_1062 : decode cL_law 1062 = .ok (.ifCond .ne 15, 3) := by decide +kernel
theorem dL_law_1065 : decode cL_law 1065 = .ok (.aload_n 3, 1) := by decide +kernel
theorem dL_law_1066 : decode cL_law 1066 = .ok (.iconst 0, 1) := by decide +kernel
theorem dL_law_1067 : decode cL_law 1067 = .ok (.laload, 1) := by decide +kernel
theorem dL_law_1068 : decode cL_law 1068 = .ok (.iload 7, 2) := by decide +kernel
theorem dL_law_1070 : decode cL_law 1070 = .ok (.i2l, 1) := by decide +kernel
theorem dL_law_1071 : decode cL_law 1071 = .ok (.lcmp, 1) := by decide +kernel
theorem dL_law_1072 : decode cL_law 1072 = .ok (.ifCond .eq 5, 3) := by decide +kernel
theorem dL_law_1075 : decode cL_law 1075 = .ok (.iconst 0, 1) := by decide +kernel
theorem dL_law_1076 : decode cL_law 1076 = .ok (.ireturn, 1) := by decide +kernel
theorem dL_law_1077 : decode cL_law 1077 = .ok (.goto 720, 3) := by decide +kernel
theorem dL_law_1080 : decode cL_law 1080 = .ok (.aload_n 1, 1) := by decide +kernel
theorem dL_law_1081 : decode cL_law 1081 = .ok (.aload_n 3, 1) := by decide +kernel
theorem dL_law_1082 : decode cL_law 1082 = .ok (.invokestatic 153, 3) := by decide +kernel
theorem dL_law_1085 : decode cL_law 1085 = .ok (.istore 6, 2) := by decide +kernel
theorem dL_law_1087 : decode cL_law 1087 = .ok (.aload_n 2, 1) := by decide +kernel
theorem dL_law_1088 : decode cL_law 1088 = .ok (.invokevirtual 156, 3) := by decide +kernel
theorem dL_law_1091 : decode cL_law 1091 = .ok (.istore 7, 2) := by decide +kernel
theorem dL_law_1093 : decode cL_law 1093 = .ok (.aload_n 2, 1) := by decide +kernel
theorem dL_law_1094 : decode cL_law 1094 = .ok (.invokevirtual 107, 3) := by decide +kernel
theorem dL_law_1097 : decode cL_law 1097 = .ok (.iload 6, 2) := by decide +kernel
theorem dL_law_1099 : decode cL_law 1099 = .ok (.if_icmp .eq 5, 3) := by decide +kernel
theorem dL_law_1102 : decode cL_law 1102 = .ok (.iconst 0, 1) := by decide +kernel
theorem dL_law_1103 : decode cL_law 1103 = .ok (.ireturn, 1) := by decide +kernel
theorem dL_law_1104 : decode cL_law 1104 = .ok (.iload 6, 2) := by decide +kernel
theorem dL_law_1106 : decode cL_law 1106 = .ok (.ifCond .ne 15, 3) := by decide +kernel
theorem dL_law_1109 : decode cL_law 1109 = .ok (.aload_n 3, 1) := by decide +kernel
theorem dL_law_1110 : decode cL_law 1110 = .ok (.iconst 0, 1) := by decide +kernel
theorem dL_law_1111 : decode cL_law 1111 = .ok (.laload, 1) := by decide +kernel
theorem dL_law_1112 : decode cL_law 1112 = .ok (.iload 7, 2) := by decide +kernel
theorem dL_law_1114 : decode cL_law 1114 = .ok (.i2l, 1) := by decide +kernel
theorem dL_law_1115 : decode cL_law 1115 = .ok (.lcmp, 1) := by decide +kernel
theorem dL_law_1116 : decode cL_law 1116 = .ok (.ifCond .eq 5, 3) := by decide +kernel
theorem dL_law_1119 : decode cL_law 1119 = .ok (.iconst 0, 1) := by decide +kernel
theorem dL_law_1120 : decode cL_law 1120 = .ok (.ireturn, 1) := by decide +kernel
theorem dL_law_1121 : decode cL_law 1121 = .ok (.goto 676, 3) := by decide +kernel
theorem dL_law_1124 : decode cL_law 1124 = .ok (.aload_n 1, 1) := by decide +kernel
theorem dL_law_1125 : decode cL_law 1125 = .ok (.aload_n 0, 1) := by decide +kernel
theorem dL_law_1126 : decode cL_law 1126 = .ok (.iload 5, 2) := by decide +kernel
theorem dL_law_1128 : decode cL_law 1128 = .ok (.iconst 1, 1) := by decide +kernel
theorem dL_law_1129 : decode cL_law 1129 = .ok (.iadd, 1) := by decide +kernel
theorem dL_law_1130 : decode cL_law 1130 = .ok (.iaload, 1) := by decide +kernel
theorem dL_law_1131 : decode cL_law 1131 = .ok (.aload_n 0, 1) := by decide +kernel
theorem dL_law_1132 : decode cL_law 1132 = .ok (.iload 5, 2) := by decide +kernel
theorem dL_law_1134 : decode cL_law 1134 = .ok (.iconst 2, 1) := by decide +kernel
theorem dL_law_1135 : decode cL_law 1135 = .ok (.iadd, 1) := by decide +kernel
theorem dL_law_1136 : decode cL_law 1136 = .ok (.iaload, 1) := by decide +kernel
theorem dL_law_1137 : decode cL_law 1137 = .ok (.aload_n 3, 1) := by decide +kernel
theorem dL_law_1138 : decode cL_law 1138 = .ok (.invokestatic 157, 3) := by decide +kernel
theorem dL_law_1141 : decode cL_law 1141 = .ok (.istore 6, 2) := by decide +kernel
theorem dL_law_1143 : decode cL_law 1143 = .ok (.aload_n 2, 1) := by decide +kernel
theorem dL_law_1144 : decode cL_law 1144 = .ok (.aload_n 0, 1) := by decide +kernel
theorem dL_law_1145 : decode cL_law 1145 = .ok (.iload 5, 2) := by decide +kernel
theorem dL_law_1147 : decode cL_law 1147 = .ok (.iconst 1, 1) := by decide +kernel
theorem dL_law_1148 : decode cL_law 1148 = .ok (.iadd, 1) := by decide +kernel
theorem dL_law_1149 : decode cL_law 1149 = .ok (.iaload, 1) := by decide +kernel
theorem dL_law_1150 : decode cL_law 1150 = .ok (.aload_n 0, 1) := by decide +kernel
theorem dL_law_1151 : decode cL_law 1151 = .ok (.iload 5, 2) := by decide +kernel
theorem dL_law_1153 : decode cL_law 1153 = .ok (.iconst 2, 1) := by decide +kernel
theorem dL_law_1154 : decode cL_law 1154 = .ok (.iadd, 1) := by decide +kernel
theorem dL_law_1155 : decode cL_law 1155 = .ok (.iaload, 1) := by decide +kernel
theorem dL_law_1156 : decode cL_law 1156 = .ok (.invokevirtual 159, 3) := by decide +kernel
theorem dL_law_1159 : decode cL_law 1159 = .ok (.istore 7, 2) := by decide +kernel
theorem dL_law_1161 : decode cL_law 1161 = .ok (.aload_n 2, 1) := by decide +kernel
theorem dL_law_1162 : decode cL_law 1162 = .ok (.invokevirtual 107, 3) := by decide +kernel
theorem dL_law_1165 : decode cL_law 1165 = .ok (.iload 6, 2) := by decide +kernel
theorem dL_law_1167 : decode cL_law 1167 = .ok (.if_icmp .eq 5, 3) := by decide +kernel
theorem dL_law_1170 : decode cL_law 1170 = .ok (.iconst 0, 1) := by decide +kernel
theorem dL_law_1171 : decode cL_law 1171 = .ok (.ireturn, 1) := by decide +kernel
theorem dL_law_1172 : decode cL_law 1172 = .ok (.iload 6, 2) := by decide +kernel
theorem dL_law_1174 : decode cL_law 1174 = .ok (.ifCond .ne 15, 3) := by decide +kernel
theorem dL_law_1177 : decode cL_law 1177 = .ok (.aload_n 3, 1) := by decide +kernel
theorem dL_law_1178 : decode cL_law 1178 = .ok (.iconst 0, 1) := by decide +kernel
theorem dL_law_1179 : decode cL_law 1179 = .ok (.laload, 1) := by decide +kernel
theorem dL_law_1180 : decode cL_law 1180 = .ok (.iload 7, 2) := by decide +kernel
theorem dL_law_1182 : decode cL_law 1182 = .ok (.i2l, 1) := by decide +kernel
theorem dL_law_1183 : decode cL_law 1183 = .ok (.lcmp, 1) := by decide +kernel
theorem dL_law_1184 : decode cL_law 1184 = .ok (.ifCond .eq 5, 3) := by decide +kernel
theorem dL_law_1187 : decode cL_law 1187 = .ok (.iconst 0, 1) := by decide +kernel
theorem dL_law_1188 : decode cL_law 1188 = .ok (.ireturn, 1) := by decide +kernel
theorem dL_law_1189 : decode cL_law 1189 = .ok (.goto 608, 3) := by decide +kernel
theorem dL_law_1192 : decode cL_law 1192 = .ok (.aload_n 1, 1) := by decide +kernel
theorem dL_law_1193 : decode cL_law 1193 = .ok (.aload_n 0, 1) := by decide +kernel
theorem dL_law_1194 : decode cL_law 1194 = .ok (.iload 5, 2) := by decide +kernel
theorem dL_law_1196 : decode cL_law 1196 = .ok (.iconst 1, 1) := by decide +kernel
theorem dL_law_1197 : decode cL_law 1197 = .ok (.iadd, 1) := by decide +kernel
theorem dL_law_1198 : decode cL_law 1198 = .ok (.iaload, 1) := by decide +kernel
theorem dL_law_1199 : decode cL_law 1199 = .ok (.aload_n 3, 1) := by decide +kernel
theorem dL_law_1200 : decode cL_law 1200 = .ok (.invokestatic 160, 3) := by decide +kernel
theorem dL_law_1203 : decode cL_law 1203 = .ok (.istore 6, 2) := by decide +kernel
theorem dL_law_1205 : decode cL_law 1205 = .ok (.aload_n 2, 1) := by decide +kernel
theorem dL_law_1206 : decode cL_law 1206 = .ok (.aload_n 0, 1) := by decide +kernel
theorem dL_law_1207 : decode cL_law 1207 = .ok (.iload 5, 2) := by decide +kernel
theorem dL_law_1209 : decode cL_law 1209 = .ok (.iconst 1, 1) := by decide +kernel
theorem dL_law_1210 : decode cL_law 1210 = .ok (.iadd, 1) := by decide +kernel
theorem dL_law_1211 : decode cL_law 1211 = .ok (.iaload, 1) := by decide +kernel
theorem dL_law_1212 : decode cL_law 1212 = .ok (.invokevirtual 162, 3) := by decide +kernel
theorem dL_law_1215 : decode cL_law 1215 = .ok (.istore 7, 2) := by decide +kernel
theorem dL_law_1217 : decode cL_law 1217 = .ok (.aload_n 2, 1) := by decide +kernel
theorem dL_law_1218 : decode cL_law 1218 = .ok (.invokevirtual 107, 3) := by decide +kernel
theorem dL_law_1221 : decode cL_law 1221 = .ok (.iload 6, 2) := by decide +kernel
theorem dL_law_1223 : decode cL_law 1223 = .ok (.if_icmp .eq 5, 3) := by decide +kernel
theorem dL_law_1226 : decode cL_law 1226 = .ok (.iconst 0, 1) := by decide +kernel
theorem dL_law_1227 : decode cL_law 1227 = .ok (.ireturn, 1) := by decide +kernel
theorem dL_law_1228 : decode cL_law 1228 = .ok (.iload 6, 2) := by decide +kernel
theorem dL_law_1230 : decode cL_law 1230 = .ok (.ifCond .ne 15, 3) := by decide +kernel
theorem dL_law_1233 : decode cL_law 1233 = .ok (.aload_n 3, 1) := by decide +kernel
theorem dL_law_1234 : decode cL_law 1234 = .ok (.iconst 0, 1) := by decide +kernel
theorem dL_law_1235 : decode cL_law 1235 = .ok (.laload, 1) := by decide +kernel
theorem dL_law_1236 : decode cL_law 1236 = .ok (.iload 7, 2) := by decide +kernel
theorem dL_law_1238 : decode cL_law 1238 = .ok (.i2l, 1) := by decide +kernel
theorem dL_law_1239 : decode cL_law 1239 = .ok (.lcmp, 1) := by decide +kernel
theorem dL_law_1240 : decode cL_law 1240 = .ok (.ifCond .eq 5, 3) := by decide +kernel
theorem dL_law_1243 : decode cL_law 1243 = .ok (.iconst 0, 1) := by decide +kernel
theorem dL_law_1244 : decode cL_law 1244 = .ok (.ireturn, 1) := by decide +kernel
theorem dL_law_1245 : decode cL_law 1245 = .ok (.goto 552, 3) := by decide +kernel
theorem dL_law_1248 : decode cL_law 1248 = .ok (.aload_n 1, 1) := by decide +kernel
theorem dL_law_1249 : decode cL_law 1249 = .ok (.aload_n 0, 1) := by decide +kernel
theorem dL_law_1250 : decode cL_law 1250 = .ok (.iload 5, 2) := by decide +kernel
theorem dL_law_1252 : decode cL_law 1252 = .ok (.iconst 1, 1) := by decide +kernel
theorem dL_law_1253 : decode cL_law 1253 = .ok (.iadd, 1) := by decide +kernel
theorem dL_law_1254 : decode cL_law 1254 = .ok (.iaload, 1) := by decide +kernel
theorem dL_law_1255 : decode cL_law 1255 = .ok (.aload_n 0, 1) := by decide +kernel
theorem dL_law_1256 : decode cL_law 1256 = .ok (.iload 5, 2) := by decide +kernel
theorem dL_law_1258 : decode cL_law 1258 = .ok (.iconst 2, 1) := by decide +kernel
theorem dL_law_1259 : decode cL_law 1259 = .ok (.iadd, 1) := by decide +kernel
theorem dL_law_1260 : decode cL_law 1260 = .ok (.iaload, 1) := by decide +kernel
theorem dL_law_1261 : decode cL_law 1261 = .ok (.ifCond .eq 7, 3) := by decide +kernel
theorem dL_law_1264 : decode cL_law 1264 = .ok (.iconst 1, 1) := by decide +kernel
theorem dL_law_1265 : decode cL_law 1265 = .ok (.goto 4, 3) := by decide +kernel
theorem dL_law_1268 : decode cL_law 1268 = .ok (.iconst 0, 1) := by decide +kernel
theorem dL_law_1269 : decode cL_law 1269 = .ok (.aload_n 3, 1) := by decide +kernel
theorem dL_law_1270 : decode cL_law 1270 = .ok (.invokestatic 163, 3) := by decide +kernel
theorem dL_law_1273 : decode cL_law 1273 = .ok (.istore 6, 2) := by decide +kernel
theorem dL_law_1275 : decode cL_law 1275 = .ok (.aload_n 2, 1) := by decide +kernel
theorem dL_law_1276 : decode cL_law 1276 = .ok (.aload_n 0, 1) := by decide +kernel
theorem dL_law_1277 : decode cL_law 1277 = .ok (.iload 5, 2) := by decide +kernel
theorem dL_law_1279 : decode cL_law 1279 = .ok (.iconst 1, 1) := by decide +kernel
theorem dL_law_1280 : decode cL_law 1280 = .ok (.iadd, 1) := by decide +kernel
theorem dL_law_1281 : decode cL_law 1281 = .ok (.iaload, 1) := by decide +kernel
theorem dL_law_1282 : decode cL_law 1282 = .ok (.aload_n 0, 1) := by decide +kernel
theorem dL_law_1283 : decode cL_law 1283 = .ok (.iload 5, 2) := by decide +kernel
theorem dL_law_1285 : decode cL_law 1285 = .ok (.iconst 2, 1) := by decide +kernel
theorem dL_law_1286 : decode cL_law 1286 = .ok (.iadd, 1) := by decide +kernel
theorem dL_law_1287 : decode cL_law 1287 = .ok (.iaload, 1) := by decide +kernel
theorem dL_law_1288 : decode cL_law 1288 = .ok (.ifCond .eq 7, 3) := by decide +kernel
theorem dL_law_1291 : decode cL_law 1291 = .ok (.iconst 1, 1) := by decide +kernel
theorem dL_law_1292 : decode cL_law 1292 = .ok (.goto 4, 3) := by decide +kernel
theorem dL_law_1295 : decode cL_law 1295 = .ok (.iconst 0, 1) := by decide +kernel
theorem dL_law_1296 : decode cL_law 1296 = .ok (.invokevirtual 166, 3) := by decide +kernel
theorem dL_law_1299 : decode cL_law 1299 = .ok (.istore 7, 2) := by decide +kernel
theorem dL_law_1301 : decode cL_law 1301 = .ok (.aload_n 2, 1) := by decide +kernel
theorem dL_law_1302 : decode cL_law 1302 = .ok (.invokevirtual 107, 3) := by decide +kernel
theorem dL_law_1305 : decode cL_law 1305 = .ok (.iload 6, 2) := by decide +kernel
theorem dL_law_1307 : decode cL_law 1307 = .ok (.if_icmp .eq 5, 3) := by decide +kernel
theorem dL_law_1310 : decode cL_law 1310 = .ok (.iconst 0, 1) := by decide +kernel
theorem dL_law_1311 : decode cL_law 1311 = .ok (.ireturn, 1) := by decide +kernel
theorem dL_law_1312 : decode cL_law 1312 = .ok (.iload 6, 2) := by decide +kernel
theorem dL_law_1314 : decode cL_law 1314 = .ok (.ifCond .ne 15, 3) := by decide +kernel
theorem dL_law_1317 : decode cL_law 1317 = .ok (.aload_n 3, 1) := by decide +kernel
theorem dL_law_1318 : decode cL_law 1318 = .ok (.iconst 0, 1) := by decide +kernel
theorem dL_law_1319 : decode cL_law 1319 = .ok (.laload, 1) := by decide +kernel
theorem dL_law_1320 : decode cL_law 1320 = .ok (.iload 7, 2) := by decide +kernel
theorem dL_law_1322 : decode cL_law 1322 = .ok (.i2l, 1) := by decide +kernel
theorem dL_law_1323 : decode cL_law 1323 = .ok (.lcmp, 1) := by decide +kernel
theorem dL_law_1324 : decode cL_law 1324 = .ok (.ifCond .eq 5, 3) := by decide +kernel
theorem dL_law_1327 : decode cL_law 1327 = .ok (.iconst 0, 1) := by decide +kernel
theorem dL_law_1328 : decode cL_law 1328 = .ok (.ireturn, 1) := by decide +kernel
theorem dL_law_1329 : decode cL_law 1329 = .ok (.goto 468, 3) := by decide +kernel
theorem dL_law_1332 : decode cL_law 1332 = .ok (.aload_n 1, 1) := by decide +kernel
theorem dL_law_1333 : decode cL_law 1333 = .ok (.aload_n 0, 1) := by decide +kernel
theorem dL_law_1334 : decode cL_law 1334 = .ok (.iload 5, 2) := by decide +kernel
theorem dL_law_1336 : decode cL_law 1336 = .ok (.iconst 1, 1) := by decide +kernel
theorem dL_law_1337 : decode cL_law 1337 = .ok (.iadd, 1) := by decide +kernel
theorem dL_law_1338 : decode cL_law 1338 = .ok (.iaload, 1) := by decide +kernel
theorem dL_law_1339 : decode cL_law 1339 = .ok (.aload_n 0, 1) := by decide +kernel
theorem dL_law_1340 : decode cL_law 1340 = .ok (.iload 5, 2) := by decide +kernel
theorem dL_law_1342 : decode cL_law 1342 = .ok (.iconst 2, 1) := by decide +kernel
theorem dL_law_1343 : decode cL_law 1343 = .ok (.iadd, 1) := by decide +kernel
theorem dL_law_1344 : decode cL_law 1344 = .ok (.iaload, 1) := by decide +kernel
theorem dL_law_1345 : decode cL_law 1345 = .ok (.aload_n 3, 1) := by decide +kernel
theorem dL_law_1346 : decode cL_law 1346 = .ok (.invokestatic 167, 3) := by decide +kernel
theorem dL_law_1349 : decode cL_law 1349 = .ok (.istore 6, 2) := by decide +kernel
theorem dL_law_1351 : decode cL_law 1351 = .ok (.aload_n 2, 1) := by decide +kernel
theorem dL_law_1352 : decode cL_law 1352 = .ok (.aload_n 0, 1) := by decide +kernel
theorem dL_law_1353 : decode cL_law 1353 = .ok (.iload 5, 2) := by decide +kernel
theorem dL_law_1355 : decode cL_law 1355 = .ok (.iconst 1, 1) := by decide +kernel
theorem dL_law_1356 : decode cL_law 1356 = .ok (.iadd, 1) := by decide +kernel
theorem dL_law_1357 : decode cL_law 1357 = .ok (.iaload, 1) := by decide +kernel
theorem dL_law_1358 : decode cL_law 1358 = .ok (.aload_n 0, 1) := by decide +kernel
theorem dL_law_1359 : decode cL_law 1359 = .ok (.iload 5, 2) := by decide +kernel
theorem dL_law_1361 : decode cL_law 1361 = .ok (.iconst 2, 1) := by decide +kernel
theorem dL_law_1362 : decode cL_law 1362 = .ok (.iadd, 1) := by decide +kernel
theorem dL_law_1363 : decode cL_law 1363 = .ok (.iaload, 1) := by decide +kernel
theorem dL_law_1364 : decode cL_law 1364 = .ok (.invokevirtual 169, 3) := by decide +kernel
theorem dL_law_1367 : decode cL_law 1367 = .ok (.istore 7, 2) := by decide +kernel
theorem dL_law_1369 : decode cL_law 1369 = .ok (.aload_n 2, 1) := by decide +kernel
theorem dL_law_1370 : decode cL_law 1370 = .ok (.invokevirtual 107, 3) := by decide +kernel
theorem dL_law_1373 : decode cL_law 1373 = .ok (.iload 6, 2) := by decide +kernel
theorem dL_law_1375 : decode cL_law 1375 = .ok (.if_icmp .eq 5, 3) := by decide +kernel
theorem dL_law_1378 : decode cL_law 1378 = .ok (.iconst 0, 1) := by decide +kernel
theorem dL_law_1379 : decode cL_law 1379 = .ok (.ireturn, 1) := by decide +kernel
theorem dL_law_1380 : decode cL_law 1380 = .ok (.iload 6, 2) := by decide +kernel
theorem dL_law_1382 : decode cL_law 1382 = .ok (.ifCond .ne 15, 3) := by decide +kernel
theorem dL_law_1385 : decode cL_law 1385 = .ok (.aload_n 3, 1) := by decide +kernel
theorem dL_law_1386 : decode cL_law 1386 = .ok (.iconst 0, 1) := by decide +kernel
theorem dL_law_1387 : decode cL_law 1387 = .ok (.laload, 1) := by decide +kernel
theorem dL_law_1388 : decode cL_law 1388 = .ok (.iload 7, 2) := by decide +kernel
theorem dL_law_1390 : decode cL_law 1390 = .ok (.i2l, 1) := by decide +kernel
theorem dL_law_1391 : decode cL_law 1391 = .ok (.lcmp, 1) := by decide +kernel
theorem dL_law_1392 : decode cL_law 1392 = .ok (.ifCond .eq 5, 3) := by decide +kernel
theorem dL_law_1395 : decode cL_law 1395 = .ok (.iconst 0, 1) := by decide +kernel
theorem dL_law_1396 : decode cL_law 1396 = .ok (.ireturn, 1) := by decide +kernel
theorem dL_law_1397 : decode cL_law 1397 = .ok (.goto 400, 3) := by decide +kernel
theorem dL_law_1400 : decode cL_law 1400 = .ok (.aload_n 1, 1) := by decide +kernel
theorem dL_law_1401 : decode cL_law 1401 = .ok (.aload_n 0, 1) := by decide +kernel
theorem dL_law_1402 : decode cL_law 1402 = .ok (.iload 5, 2) := by decide +kernel
theorem dL_law_1404 : decode cL_law 1404 = .ok (.iconst 1, 1) := by decide +kernel
theorem dL_law_1405 : decode cL_law 1405 = .ok (.iadd, 1) := by decide +kernel
theorem dL_law_1406 : decode cL_law 1406 = .ok (.iaload, 1) := by decide +kernel
theorem dL_law_1407 : decode cL_law 1407 = .ok (.aload_n 3, 1) := by decide +kernel
theorem dL_law_1408 : decode cL_law 1408 = .ok (.invokestatic 170, 3) := by decide +kernel
theorem dL_law_1411 : decode cL_law 1411 = .ok (.istore 6, 2) := by decide +kernel
theorem dL_law_1413 : decode cL_law 1413 = .ok (.aload_n 2, 1) := by decide +kernel
theorem dL_law_1414 : decode cL_law 1414 = .ok (.aload_n 0, 1) := by decide +kernel
theorem dL_law_1415 : decode cL_law 1415 = .ok (.iload 5, 2) := by decide +kernel
theorem dL_law_1417 : decode cL_law 1417 = .ok (.iconst 1, 1) := by decide +kernel
theorem dL_law_1418 : decode cL_law 1418 = .ok (.iadd, 1) := by decide +kernel
theorem dL_law_1419 : decode cL_law 1419 = .ok (.iaload, 1) := by decide +kernel
theorem dL_law_1420 : decode cL_law 1420 = .ok (.invokevirtual 172, 3) := by decide +kernel
theorem dL_law_1423 : decode cL_law 1423 = .ok (.istore 7, 2) := by decide +kernel
theorem dL_law_1425 : decode cL_law 1425 = .ok (.aload_n 2, 1) := by decide +kernel
theorem dL_law_1426 : decode cL_law 1426 = .ok (.invokevirtual 107, 3) := by decide +kernel
theorem dL_law_1429 : decode cL_law 1429 = .ok (.iload 6, 2) := by decide +kernel
theorem dL_law_1431 : decode cL_law 1431 = .ok (.if_icmp .eq 5, 3) := by decide +kernel
theorem dL_law_1434 : decode cL_law 1434 = .ok (.iconst 0, 1) := by decide +kernel
theorem dL_law_1435 : decode cL_law 1435 = .ok (.ireturn, 1) := by decide +kernel
theorem dL_law_1436 : decode cL_law 1436 = .ok (.iload 6, 2) := by decide +kernel
theorem dL_law_1438 : decode cL_law 1438 = .ok (.ifCond .ne 15, 3) := by decide +kernel
theorem dL_law_1441 : decode cL_law 1441 = .ok (.aload_n 3, 1) := by decide +kernel
theorem dL_law_1442 : decode cL_law 1442 = .ok (.iconst 0, 1) := by decide +kernel
theorem dL_law_1443 : decode cL_law 1443 = .ok (.laload, 1) := by decide +kernel
theorem dL_law_1444 : decode cL_law 1444 = .ok (.iload 7, 2) := by decide +kernel
theorem dL_law_1446 : decode cL_law 1446 = .ok (.i2l, 1) := by decide +kernel
theorem dL_law_1447 : decode cL_law 1447 = .ok (.lcmp, 1) := by decide +kernel
theorem dL_law_1448 : decode cL_law 1448 = .ok (.ifCond .eq 5, 3) := by decide +kernel
theorem dL_law_1451 : decode cL_law 1451 = .ok (.iconst 0, 1) := by decide +kernel
theorem dL_law_1452 : decode cL_law 1452 = .ok (.ireturn, 1) := by decide +kernel
theorem dL_law_1453 : decode cL_law 1453 = .ok (.goto 344, 3) := by decide +kernel
theorem dL_law_1456 : decode cL_law 1456 = .ok (.aload_n 1, 1) := by decide +kernel
theorem dL_law_1457 : decode cL_law 1457 = .ok (.aload_n 0, 1) := by decide +kernel
theorem dL_law_1458 : decode cL_law 1458 = .ok (.iload 5, 2) := by decide +kernel
theorem dL_law_1460 : decode cL_law 1460 = .ok (.iconst 1, 1) := by decide +kernel
theorem dL_law_1461 : decode cL_law 1461 = .ok (.iadd, 1) := by decide +kernel
theorem dL_law_1462 : decode cL_law 1462 = .ok (.iaload, 1) := by decide +kernel
theorem dL_law_1463 : decode cL_law 1463 = .ok (.aload_n 3, 1) := by decide +kernel
theorem dL_law_1464 : decode cL_law 1464 = .ok (.invokestatic 173, 3) := by decide +kernel
theorem dL_law_1467 : decode cL_law 1467 = .ok (.istore 6, 2) := by decide +kernel
theorem dL_law_1469 : decode cL_law 1469 = .ok (.aload_n 2, 1) := by decide +kernel
theorem dL_law_1470 : decode cL_law 1470 = .ok (.aload_n 0, 1) := by decide +kernel
theorem dL_law_1471 : decode cL_law 1471 = .ok (.iload 5, 2) := by decide +kernel
theorem dL_law_1473 : decode cL_law 1473 = .ok (.iconst 1, 1) := by decide +kernel
theorem dL_law_1474 : decode cL_law 1474 = .ok (.iadd, 1) := by decide +kernel
theorem dL_law_1475 : decode cL_law 1475 = .ok (.iaload, 1) := by decide +kernel
theorem dL_law_1476 : decode cL_law 1476 = .ok (.invokevirtual 175, 3) := by decide +kernel
theorem dL_law_1479 : decode cL_law 1479 = .ok (.istore 7, 2) := by decide +kernel
theorem dL_law_1481 : decode cL_law 1481 = .ok (.aload_n 2, 1) := by decide +kernel
theorem dL_law_1482 : decode cL_law 1482 = .ok (.invokevirtual 107, 3) := by decide +kernel
theorem dL_law_1485 : decode cL_law 1485 = .ok (.iload 6, 2) := by decide +kernel
theorem dL_law_1487 : decode cL_law 1487 = .ok (.if_icmp .eq 5, 3) := by decide +kernel
theorem dL_law_1490 : decode cL_law 1490 = .ok (.iconst 0, 1) := by decide +kernel
theorem dL_law_1491 : decode cL_law 1491 = .ok (.ireturn, 1) := by decide +kernel
theorem dL_law_1492 : decode cL_law 1492 = .ok (.iload 6, 2) := by decide +kernel
theorem dL_law_1494 : decode cL_law 1494 = .ok (.ifCond .ne 15, 3) := by decide +kernel
theorem dL_law_1497 : decode cL_law 1497 = .ok (.aload_n 3, 1) := by decide +kernel
theorem dL_law_1498 : decode cL_law 1498 = .ok (.iconst 0, 1) := by decide +kernel
theorem dL_law_1499 : decode cL_law 1499 = .ok (.laload, 1) := by decide +kernel
theorem dL_law_1500 : decode cL_law 1500 = .ok (.iload 7, 2) := by decide +kernel
theorem dL_law_1502 : decode cL_law 1502 = .ok (.i2l, 1) := by decide +kernel
theorem dL_law_1503 : decode cL_law 1503 = .ok (.lcmp, 1) := by decide +kernel
theorem dL_law_1504 : decode cL_law 1504 = .ok (.ifCond .eq 5, 3) := by decide +kernel
theorem dL_law_1507 : decode cL_law 1507 = .ok (.iconst 0, 1) := by decide +kernel
theorem dL_law_1508 : decode cL_law 1508 = .ok (.ireturn, 1) := by decide +kernel
theorem dL_law_1509 : decode cL_law 1509 = .ok (.goto 288, 3) := by decide +kernel
theorem dL_law_1512 : decode cL_law 1512 = .ok (.aload_n 1, 1) := by decide +kernel
theorem dL_law_1513 : decode cL_law 1513 = .ok (.aload_n 0, 1) := by decide +kernel
theorem dL_law_1514 : decode cL_law 1514 = .ok (.iload 5, 2) := by decide +kernel
theorem dL_law_1516 : decode cL_law 1516 = .ok (.iconst 1, 1) := by decide +kernel
theorem dL_law_1517 : decode cL_law 1517 = .ok (.iadd, 1) := by decide +kernel
theorem dL_law_1518 : decode cL_law 1518 = .ok (.iaload, 1) := by decide +kernel
theorem dL_law_1519 : decode cL_law 1519 = .ok (.aload_n 0, 1) := by decide +kernel
theorem dL_law_1520 : decode cL_law 1520 = .ok (.iload 5, 2) := by decide +kernel
theorem dL_law_1522 : decode cL_law 1522 = .ok (.iconst 2, 1) := by decide +kernel
theorem dL_law_1523 : decode cL_law 1523 = .ok (.iadd, 1) := by decide +kernel
theorem dL_law_1524 : decode cL_law 1524 = .ok (.iaload, 1) := by decide +kernel
theorem dL_law_1525 : decode cL_law 1525 = .ok (.aload_n 3, 1) := by decide +kernel
theorem dL_law_1526 : decode cL_law 1526 = .ok (.invokestatic 176, 3) := by decide +kernel
theorem dL_law_1529 : decode cL_law 1529 = .ok (.istore 6, 2) := by decide +kernel
theorem dL_law_1531 : decode cL_law 1531 = .ok (.aload_n 2, 1) := by decide +kernel
theorem dL_law_1532 : decode cL_law 1532 = .ok (.aload_n 0, 1) := by decide +kernel
theorem dL_law_1533 : decode cL_law 1533 = .ok (.iload 5, 2) := by decide +kernel
theorem dL_law_1535 : decode cL_law 1535 = .ok (.iconst 1, 1) := by decide +kernel
theorem dL_law_1536 : decode cL_law 1536 = .ok (.iadd, 1) := by decide +kernel
theorem dL_law_1537 : decode cL_law 1537 = .ok (.iaload, 1) := by decide +kernel
theorem dL_law_1538 : decode cL_law 1538 = .ok (.aload_n 0, 1) := by decide +kernel
theorem dL_law_1539 : decode cL_law 1539 = .ok (.iload 5, 2) := by decide +kernel
theorem dL_law_1541 : decode cL_law 1541 = .ok (.iconst 2, 1) := by decide +kernel
theorem dL_law_1542 : decode cL_law 1542 = .ok (.iadd, 1) := by decide +kernel
theorem dL_law_1543 : decode cL_law 1543 = .ok (.iaload, 1) := by decide +kernel
theorem dL_law_1544 : decode cL_law 1544 = .ok (.invokevirtual 178, 3) := by decide +kernel
theorem dL_law_1547 : decode cL_law 1547 = .ok (.istore 7, 2) := by decide +kernel
theorem dL_law_1549 : decode cL_law 1549 = .ok (.aload_n 2, 1) := by decide +kernel
theorem dL_law_1550 : decode cL_law 1550 = .ok (.invokevirtual 107, 3) := by decide +kernel
theorem dL_law_1553 : decode cL_law 1553 = .ok (.iload 6, 2) := by decide +kernel
theorem dL_law_1555 : decode cL_law 1555 = .ok (.if_icmp .eq 5, 3) := by decide +kernel
theorem dL_law_1558 : decode cL_law 1558 = .ok (.iconst 0, 1) := by decide +kernel
theorem dL_law_1559 : decode cL_law 1559 = .ok (.ireturn, 1) := by decide +kernel
theorem dL_law_1560 : decode cL_law 1560 = .ok (.iload 6, 2) := by decide +kernel
theorem dL_law_1562 : decode cL_law 1562 = .ok (.ifCond .ne 15, 3) := by decide +kernel
theorem dL_law_1565 : decode cL_law 1565 = .ok (.aload_n 3, 1) := by decide +kernel
theorem dL_law_1566 : decode cL_law 1566 = .ok (.iconst 0, 1) := by decide +kernel
theorem dL_law_1567 : decode cL_law 1567 = .ok (.laload, 1) := by decide +kernel
theorem dL_law_1568 : decode cL_law 1568 = .ok (.iload 7, 2) := by decide +kernel
theorem dL_law_1570 : decode cL_law 1570 = .ok (.i2l, 1) := by decide +kernel
theorem dL_law_1571 : decode cL_law 1571 = .ok (.lcmp, 1) := by decide +kernel
theorem dL_law_1572 : decode cL_law 1572 = .ok (.ifCond .eq 5, 3) := by decide +kernel
theorem dL_law_1575 : decode cL_law 1575 = .ok (.iconst 0, 1) := by decide +kernel
theorem dL_law_1576 : decode cL_law 1576 = .ok (.ireturn, 1) := by decide +kernel
theorem dL_law_1577 : decode cL_law 1577 = .ok (.goto 220, 3) := by decide +kernel
theorem dL_law_1580 : decode cL_law 1580 = .ok (.aload_n 1, 1) := by decide +kernel
theorem dL_law_1581 : decode cL_law 1581 = .ok (.invokevirtual 179, 3) := by decide +kernel
theorem dL_law_1584 : decode cL_law 1584 = .ok (.aload_n 2, 1) := by decide +kernel
theorem dL_law_1585 : decode cL_law 1585 = .ok (.invokevirtual 182, 3) := by decide +kernel
theorem dL_law_1588 : decode cL_law 1588 = .ok (.if_icmp .eq 209, 3) := by decide +kernel
theorem dL_law_1591 : decode cL_law 1591 = .ok (.iconst 0, 1) := by decide +kernel
theorem dL_law_1592 : decode cL_law 1592 = .ok (.ireturn, 1) := by decide +kernel
theorem dL_law_1593 : decode cL_law 1593 = .ok (.aload_n 1, 1) := by decide +kernel
theorem dL_law_1594 : decode cL_law 1594 = .ok (.aload_n 0, 1) := by decide +kernel
theorem dL_law_1595 : decode cL_law 1595 = .ok (.iload 5, 2) := by decide +kernel
theorem dL_law_1597 : decode cL_law 1597 = .ok (.iconst 1, 1) := by decide +kernel
theorem dL_law_1598 : decode cL_law 1598 = .ok (.iadd, 1) := by decide +kernel
theorem dL_law_1599 : decode cL_law 1599 = .ok (.iaload, 1) := by decide +kernel
theorem dL_law_1600 : decode cL_law 1600 = .ok (.aload 4, 2) := by decide +kernel
theorem dL_law_1602 : decode cL_law 1602 = .ok (.invokestatic 183, 3) := by decide +kernel
theorem dL_law_1605 : decode cL_law 1605 = .ok (.istore 6, 2) := by decide +kernel
theorem dL_law_1607 : decode cL_law 1607 = .ok (.aload_n 2, 1) := by decide +kernel
theorem dL_law_1608 : decode cL_law 1608 = .ok (.aload_n 0, 1) := by decide +kernel
theorem dL_law_1609 : decode cL_law 1609 = .ok (.iload 5, 2) := by decide +kernel
theorem dL_law_1611 : decode cL_law 1611 = .ok (.iconst 1, 1) := by decide +kernel
theorem dL_law_1612 : decode cL_law 1612 = .ok (.iadd, 1) := by decide +kernel
theorem dL_law_1613 : decode cL_law 1613 = .ok (.iaload, 1) := by decide +kernel
theorem dL_law_1614 : decode cL_law 1614 = .ok (.invokevirtual 186, 3) := by decide +kernel
theorem dL_law_1617 : decode cL_law 1617 = .ok (.fstore 7, 2) := by decide +kernel
theorem dL_law_1619 : decode cL_law 1619 = .ok (.aload_n 2, 1) := by decide +kernel
theorem dL_law_1620 : decode cL_law 1620 = .ok (.invokevirtual 107, 3) := by decide +kernel
theorem dL_law_1623 : decode cL_law 1623 = .ok (.iload 6, 2) := by decide +kernel
theorem dL_law_1625 : decode cL_law 1625 = .ok (.if_icmp .eq 5, 3) := by decide +kernel
theorem dL_law_1628 : decode cL_law 1628 = .ok (.iconst 0, 1) := by decide +kernel
theorem dL_law_1629 : decode cL_law 1629 = .ok (.ireturn, 1) := by decide +kernel
theorem dL_law_1630 : decode cL_law 1630 = .ok (.iload 6, 2) := by decide +kernel
theorem dL_law_1632 : decode cL_law 1632 = .ok (.ifCond .ne 36, 3) := by decide +kernel
theorem dL_law_1635 : decode cL_law 1635 = .ok (.aload 4, 2) := by decide +kernel
theorem dL_law_1637 : decode cL_law 1637 = .ok (.iconst 0, 1) := by decide +kernel
theorem dL_law_1638 : decode cL_law 1638 = .ok (.daload, 1) := by decide +kernel
theorem dL_law_1639 : decode cL_law 1639 = .ok (.fload 7, 2) := by decide +kernel
theorem dL_law_1641 : decode cL_law 1641 = .ok (.f2d, 1) := by decide +kernel
theorem dL_law_1642 : decode cL_law 1642 = .ok (.dcmp .l, 1) := by decide +kernel
theorem dL_law_1643 : decode cL_law 1643 = .ok (.ifCond .eq 25, 3) := by decide +kernel
theorem dL_law_1646 : decode cL_law 1646 = .ok (.aload 4, 2) := by decide +kernel
theorem dL_law_1648 : decode cL_law 1648 = .ok (.iconst 0, 1) := by decide +kernel
theorem dL_law_1649 : decode cL_law 1649 = .ok (.daload, 1) := by decide +kernel
theorem dL_law_1650 : decode cL_law 1650 = .ok (.aload 4, 2) := by decide +kernel
theorem dL_law_1652 : decode cL_law 1652 = .ok (.iconst 0, 1) := by decide +kernel
theorem dL_law_1653 : decode cL_law 1653 = .ok (.daload, 1) := by decide +kernel
theorem dL_law_1654 : decode cL_law 1654 = .ok (.dcmp .l, 1) := by decide +kernel
theorem dL_law_1655 : decode cL_law 1655 = .ok (.ifCond .eq 11, 3) := by decide +kernel
theorem dL_law_1658 : decode cL_law 1658 = .ok (.fload 7, 2) := by decide +kernel
theorem dL_law_1660 : decode cL_law 1660 = .ok (.fload 7, 2) := by decide +kernel
theorem dL_law_1662 : decode cL_law 1662 = .ok (.fcmp .l, 1) := by decide +kernel
theorem dL_law_1663 : decode cL_law 1663 = .ok (.ifCond .ne 5, 3) := by decide +kernel
theorem dL_law_1666 : decode cL_law 1666 = .ok (.iconst 0, 1) := by decide +kernel
theorem dL_law_1667 : decode cL_law 1667 = .ok (.ireturn, 1) := by decide +kernel
theorem dL_law_1668 : decode cL_law 1668 = .ok (.goto 129, 3) := by decide +kernel
theorem dL_law_1671 : decode cL_law 1671 = .ok (.aload_n 1, 1) := by decide +kernel
theorem dL_law_1672 : decode cL_law 1672 = .ok (.invokevirtual 187, 3) := by decide +kernel
theorem dL_law_1675 : decode cL_law 1675 = .ok (.aload_n 2, 1) := by decide +kernel
theorem dL_law_1676 : decode cL_law 1676 = .ok (.invokevirtual 190, 3) := by decide +kernel
theorem dL_law_1679 : decode cL_law 1679 = .ok (.if_icmp .eq 118, 3) := by decide +kernel
theorem dL_law_1682 : decode cL_law 1682 = .ok (.iconst 0, 1) := by decide +kernel
theorem dL_law_1683 : decode cL_law 1683 = .ok (.ireturn, 1) := by decide +kernel
theorem dL_law_1684 : decode cL_law 1684 = .ok (.aload_n 1, 1) := by decide +kernel
theorem dL_law_1685 : decode cL_law 1685 = .ok (.invokevirtual 191, 3) := by decide +kernel
theorem dL_law_1688 : decode cL_law 1688 = .ok (.aload_n 2, 1) := by decide +kernel
theorem dL_law_1689 : decode cL_law 1689 = .ok (.invokevirtual 194, 3) := by decide +kernel
theorem dL_law_1692 : decode cL_law 1692 = .ok (.if_icmp .eq 105, 3) := by decide +kernel
theorem dL_law_1695 : decode cL_law 1695 = .ok (.iconst 0, 1) := by decide +kernel
theorem dL_law_1696 : decode cL_law 1696 = .ok (.ireturn, 1) := by decide +kernel
theorem dL_law_1697 : decode cL_law 1697 = .ok (.aload_n 1, 1) := by decide +kernel
theorem dL_law_1698 : decode cL_law 1698 = .ok (.aload_n 0, 1) := by decide +kernel
theorem dL_law_1699 : decode cL_law 1699 = .ok (.iload 5, 2) := by decide +kernel
theorem dL_law_1701 : decode cL_law 1701 = .ok (.iconst 1, 1) := by decide +kernel
theorem dL_law_1702 : decode cL_law 1702 = .ok (.iadd, 1) := by decide +kernel
theorem dL_law_1703 : decode cL_law 1703 = .ok (.iaload, 1) := by decide +kernel
theorem dL_law_1704 : decode cL_law 1704 = .ok (.aload_n 3, 1) := by decide +kernel
theorem dL_law_1705 : decode cL_law 1705 = .ok (.invokestatic 195, 3) := by decide +kernel
theorem dL_law_1708 : decode cL_law 1708 = .ok (.istore 6, 2) := by decide +kernel
theorem dL_law_1710 : decode cL_law 1710 = .ok (.aload_n 2, 1) := by decide +kernel
theorem dL_law_1711 : decode cL_law 1711 = .ok (.aload_n 0, 1) := by decide +kernel
theorem dL_law_1712 : decode cL_law 1712 = .ok (.iload 5, 2) := by decide +kernel
theorem dL_law_1714 : decode cL_law 1714 = .ok (.iconst 1, 1) := by decide +kernel
theorem dL_law_1715 : decode cL_law 1715 = .ok (.iadd, 1) := by decide +kernel
theorem dL_law_1716 : decode cL_law 1716 = .ok (.iaload, 1) := by decide +kernel
theorem dL_law_1717 : decode cL_law 1717 = .ok (.invokevirtual 197, 3) := by decide +kernel
theorem dL_law_1720 : decode cL_law 1720 = .ok (.istore 7, 2) := by decide +kernel
theorem dL_law_1722 : decode cL_law 1722 = .ok (.aload_n 2, 1) := by decide +kernel
theorem dL_law_1723 : decode cL_law 1723 = .ok (.invokevirtual 107, 3) := by decide +kernel
theorem dL_law_1726 : decode cL_law 1726 = .ok (.iload 6, 2) := by decide +kernel
theorem dL_law_1728 : decode cL_law 1728 = .ok (.if_icmp .eq 5, 3) := by decide +kernel
theorem dL_law_1731 : decode cL_law 1731 = .ok (.iconst 0, 1) := by decide +kernel
theorem dL_law_1732 : decode cL_law 1732 = .ok (.ireturn, 1) := by decide +kernel
theorem dL_law_1733 : decode cL_law 1733 = .ok (.iload 6, 2) := by decide +kernel
theorem dL_law_1735 : decode cL_law 1735 = .ok (.ifCond .ne 15, 3) := by decide +kernel
theorem dL_law_1738 : decode cL_law 1738 = .ok (.aload_n 3, 1) := by decide +kernel
theorem dL_law_1739 : decode cL_law 1739 = .ok (.iconst 0, 1) := by decide +kernel
theorem dL_law_1740 : decode cL_law 1740 = .ok (.laload, 1) := by decide +kernel
theorem dL_law_1741 : decode cL_law 1741 = .ok (.iload 7, 2) := by decide +kernel
theorem dL_law_1743 : decode cL_law 1743 = .ok (.i2l, 1) := by decide +kernel
theorem dL_law_1744 : decode cL_law 1744 = .ok (.lcmp, 1) := by decide +kernel
theorem dL_law_1745 : decode cL_law 1745 = .ok (.ifCond .eq 5, 3) := by decide +kernel
theorem dL_law_1748 : decode cL_law 1748 = .ok (.iconst 0, 1) := by decide +kernel
theorem dL_law_1749 : decode cL_law 1749 = .ok (.ireturn, 1) := by decide +kernel
theorem dL_law_1750 : decode cL_law 1750 = .ok (.goto 47, 3) := by decide +kernel
theorem dL_law_1753 : decode cL_law 1753 = .ok (.aload_n 1, 1) := by decide +kernel
theorem dL_law_1754 : decode cL_law 1754 = .ok (.aload_n 3, 1) := by decide +kernel
theorem dL_law_1755 : decode cL_law 1755 = .ok (.invokestatic 198, 3) := by decide +kernel
theorem dL_law_1758 : decode cL_law 1758 = .ok (.istore 6, 2) := by decide +kernel
theorem dL_law_1760 : decode cL_law 1760 = .ok (.aload_n 2, 1) := by decide +kernel
theorem dL_law_1761 : decode cL_law 1761 = .ok (.invokevirtual 200, 3) := by decide +kernel
theorem dL_law_1764 : decode cL_law 1764 = .ok (.istore 7, 2) := by decide +kernel
theorem dL_law_1766 : decode cL_law 1766 = .ok (.aload_n 2, 1) := by decide +kernel
theorem dL_law_1767 : decode cL_law 1767 = .ok (.invokevirtual 107, 3) := by decide +kernel
theorem dL_law_1770 : decode cL_law 1770 = .ok (.iload 6, 2) := by decide +kernel
theorem dL_law_1772 : decode cL_law 1772 = .ok (.if_icmp .eq 5, 3) := by decide +kernel
theorem dL_law_1775 : decode cL_law 1775 = .ok (.iconst 0, 1) := by decide +kernel
theorem dL_law_1776 : decode cL_law 1776 = .ok (.ireturn, 1) := by decide +kernel
theorem dL_law_1777 : decode cL_law 1777 = .ok (.iload 6, 2) := by decide +kernel
theorem dL_law_1779 : decode cL_law 1779 = .ok (.ifCond .ne 15, 3) := by decide +kernel
theorem dL_law_1782 : decode cL_law 1782 = .ok (.aload_n 3, 1) := by decide +kernel
theorem dL_law_1783 : decode cL_law 1783 = .ok (.iconst 0, 1) := by decide +kernel
theorem dL_law_1784 : decode cL_law 1784 = .ok (.laload, 1) := by decide +kernel
theorem dL_law_1785 : decode cL_law 1785 = .ok (.iload 7, 2) := by decide +kernel
theorem dL_law_1787 : decode cL_law 1787 = .ok (.i2l, 1) := by decide +kernel
theorem dL_law_1788 : decode cL_law 1788 = .ok (.lcmp, 1) := by decide +kernel
theorem dL_law_1789 : decode cL_law 1789 = .ok (.ifCond .eq 5, 3) := by decide +kernel
theorem dL_law_1792 : decode cL_law 1792 = .ok (.iconst 0, 1) := by decide +kernel
theorem dL_law_1793 : decode cL_law 1793 = .ok (.ireturn, 1) := by decide +kernel
theorem dL_law_1794 : decode cL_law 1794 = .ok (.goto 3, 3) := by decide +kernel
theorem dL_law_1797 : decode cL_law 1797 = .ok (.iinc 5 6, 3) := by decide +kernel
theorem dL_law_1800 : decode cL_law 1800 = .ok (.goto (-1772), 3) := by decide +kernel
theorem dL_law_1803 : decode cL_law 1803 = .ok (.iconst 1, 1) := by decide +kernel
theorem dL_law_1804 : decode cL_law 1804 = .ok (.ireturn, 1) := by decide +kernel
