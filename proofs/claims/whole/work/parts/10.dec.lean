theorem dX0_init_0 : decode cX0_init 0 = .ok (.aload_n 0, 1) := by decide +kernel
theorem dX0_init_1 : decode cX0_init 1 = .ok (.invokespecial 3, 3) := by decide +kernel
theorem dX0_init_4 : decode cX0_init 4 = .ok (.aload_n 0, 1) := by decide +kernel
theorem dX0_init_5 : decode cX0_init 5 = .ok (.bipush 8, 2) := by decide +kernel
theorem dX0_init_7 : decode cX0_init 7 = .ok (.anewarray 9, 3) := by decide +kernel
theorem dX0_init_10 : decode cX0_init 10 = .ok (.putfield 11, 3) := by decide +kernel
theorem dX0_init_13 : decode cX0_init 13 = .ok (.iconst 0, 1) := by decide +kernel
theorem dX0_init_14 : decode cX0_init 14 = .ok (.istore_n 1, 1) := by decide +kernel
theorem dX0_init_15 : decode cX0_init 15 = .ok (.iload_n 1, 1) := by decide +kernel
theorem dX0_init_16 : decode cX0_init 16 = .ok (.bipush 8, 2) := by decide +kernel
theorem dX0_init_18 : decode cX0_init 18 = .ok (.if_icmp .ge 22, 3) := by decide +kernel
theorem dX0_init_21 : decode cX0_init 21 = .ok (.aload_n 0, 1) := by decide +kernel
theorem dX0_init_22 : decode cX0_init 22 = .ok (.getfield 11, 3) := by decide +kernel
theorem dX0_init_25 : decode cX0_init 25 = .ok (.iload_n 1, 1) := by decide +kernel
theorem dX0_init_26 : decode cX0_init 26 = .ok (.new 9, 3) := by decide +kernel
theorem dX0_init_29 : decode cX0_init 29 = .ok (.dup, 1) := by decide +kernel
theorem dX0_init_30 : decode cX0_init 30 = .ok (.invokespecial 17, 3) := by decide +kernel
theorem dX0_init_33 : decode cX0_init 33 = .ok (.aastore, 1) := by decide +kernel
theorem dX0_init_34 : decode cX0_init 34 = .ok (.iinc 1 1, 3) := by decide +kernel
theorem dX0_init_37 : decode cX0_init 37 = .ok (.goto (-22), 3) := by decide +kernel
theorem dX0_init_40 : decode cX0_init 40 = .ok (.return_, 1) := by decide +kernel
theorem dX0_keep_0 : decode cX0_keep 0 = .ok (.aload_n 0, 1) := by decide +kernel
theorem dX0_keep_1 : decode cX0_keep 1 = .ok (.aload_n 0, 1) := by decide +kernel
theorem dX0_keep_2 : decode cX0_keep 2 = .ok (.getfield 18, 3) := by decide +kernel
theorem dX0_keep_5 : decode cX0_keep 5 = .ok (.iconst 1, 1) := by decide +kernel
theorem dX0_keep_6 : decode cX0_keep 6 = .ok (.iadd, 1) := by decide +kernel
theorem dX0_keep_7 : decode cX0_keep 7 = .ok (.bipush 8, 2) := by decide +kernel
theorem dX0_keep_9 : decode cX0_keep 9 = .ok (.if_icmp .ge 12, 3) := by decide +kernel
theorem dX0_keep_12 : decode cX0_keep 12 = .ok (.aload_n 0, 1) := by decide +kernel
theorem dX0_keep_13 : decode cX0_keep 13 = .ok (.getfield 18, 3) := by decide +kernel
theorem dX0_keep_16 : decode cX0_keep 16 = .ok (.iconst 1, 1) := by decide +kernel
theorem dX0_keep_17 : decode cX0_keep 17 = .ok (.iadd, 1) := by decide +kernel
theorem dX0_keep_18 : decode cX0_keep 18 = .ok (.goto 4, 3) := by decide +kernel
theorem dX0_keep_21 : decode cX0_keep 21 = .ok (.iconst 0, 1) := by decide +kernel
theorem dX0_keep_22 : decode cX0_keep 22 = .ok (.putfield 18, 3) := by decide +kernel
theorem dX0_keep_25 : decode cX0_keep 25 = .ok (.aload_n 0, 1) := by decide +kernel
theorem dX0_keep_26 : decode cX0_keep 26 = .ok (.getfield 11, 3) := by decide +kernel
theorem dX0_keep_29 : decode cX0_keep 29 = .ok (.aload_n 0, 1) := by decide +kernel
theorem dX0_keep_30 : decode cX0_keep 30 = .ok (.getfield 18, 3) := by decide +kernel
theorem dX0_keep_33 : decode cX0_keep 33 = .ok (.aaload, 1) := by decide +kernel
theorem dX0_keep_34 : decode cX0_keep 34 = .ok (.aload_n 1, 1) := by decide +kernel
theorem dX0_keep_35 : decode cX0_keep 35 = .ok (.invokevirtual 22, 3) := by decide +kernel
theorem dX0_keep_38 : decode cX0_keep 38 = .ok (.aload_n 0, 1) := by decide +kernel
theorem dX0_keep_39 : decode cX0_keep 39 = .ok (.aload_n 0, 1) := by decide +kernel
theorem dX0_keep_40 : decode cX0_keep 40 = .ok (.getfield 26, 3) := by decide +kernel
theorem dX0_keep_43 : decode cX0_keep 43 = .ok (.iconst 1, 1) := by decide +kernel
theorem dX0_keep_44 : decode cX0_keep 44 = .ok (.iadd, 1) := by decide +kernel
theorem dX0_keep_45 : decode cX0_keep 45 = .ok (.bipush 8, 2) := by decide +kernel
theorem dX0_keep_47 : decode cX0_keep 47 = .ok (.invokestatic 29, 3) := by decide +kernel
theorem dX0_keep_50 : decode cX0_keep 50 = .ok (.putfield 26, 3) := by decide +kernel
theorem dX0_keep_53 : decode cX0_keep 53 = .ok (.return_, 1) := by decide +kernel
theorem dX0_restore_0 : decode cX0_restore 0 = .ok (.aload_n 1, 1) := by decide +kernel
theorem dX0_restore_1 : decode cX0_restore 1 = .ok (.aload_n 0, 1) := by decide +kernel
theorem dX0_restore_2 : decode cX0_restore 2 = .ok (.getfield 11, 3) := by decide +kernel
theorem dX0_restore_5 : decode cX0_restore 5 = .ok (.aload_n 0, 1) := by decide +kernel
theorem dX0_restore_6 : decode cX0_restore 6 = .ok (.getfield 18, 3) := by decide +kernel
theorem dX0_restore_9 : decode cX0_restore 9 = .ok (.aaload, 1) := by decide +kernel
theorem dX0_restore_10 : decode cX0_restore 10 = .ok (.invokevirtual 22, 3) := by decide +kernel
theorem dX0_restore_13 : decode cX0_restore 13 = .ok (.aload_n 0, 1) := by decide +kernel
theorem dX0_restore_14 : decode cX0_restore 14 = .ok (.aload_n 0, 1) := by decide +kernel
theorem dX0_restore_15 : decode cX0_restore 15 = .ok (.getfield 18, 3) := by decide +kernel
theorem dX0_restore_18 : decode cX0_restore 18 = .ok (.ifCond .le 12, 3) := by decide +kernel
theorem dX0_restore_21 : decode cX0_restore 21 = .ok (.aload_n 0, 1) := by decide +kernel
theorem dX0_restore_22 : decode cX0_restore 22 = .ok (.getfield 18, 3) := by decide +kernel
theorem dX0_restore_25 : decode cX0_restore 25 = .ok (.iconst 1, 1) := by decide +kernel
theorem dX0_restore_26 : decode cX0_restore 26 = .ok (.isub, 1) := by decide +kernel
theorem dX0_restore_27 : decode cX0_restore 27 = .ok (.goto 5, 3) := by decide +kernel
theorem dX0_restore_30 : decode cX0_restore 30 = .ok (.bipush 7, 2) := by decide +kernel
theorem dX0_restore_32 : decode cX0_restore 32 = .ok (.putfield 18, 3) := by decide +kernel
theorem dX0_restore_35 : decode cX0_restore 35 = .ok (.aload_n 0, 1) := by decide +kernel
theorem dX0_restore_36 : decode cX0_restore 36 = .ok (.dup, 1) := by decide +kernel
theorem dX0_restore_37 : decode cX0_restore 37 = .ok (.getfield 26, 3) := by decide +kernel
theorem dX0_restore_40 : decode cX0_restore 40 = .ok (.iconst 1, 1) := by decide +kernel
theorem dX0_restore_41 : decode cX0_restore 41 = .ok (.isub, 1) := by decide +kernel
theorem dX0_restore_42 : decode cX0_restore 42 = .ok (.putfield 26, 3) := by decide +kernel
theorem dX0_restore_45 : decode cX0_restore 45 = .ok (.return_, 1) := by decide +kernel
theorem dX1_init_0 : decode cX1_init 0 = .ok (.aload_n 0, 1) := by decide +kernel
theorem dX1_init_1 : decode cX1_init 1 = .ok (.invokespecial 3, 3) := by decide +kernel
theorem dX1_init_4 : decode cX1_init 4 = .ok (.aload_n 0, 1) := by decide +kernel
theorem dX1_init_5 : decode cX1_init 5 = .ok (.bipush 30, 2) := by decide +kernel
theorem dX1_init_7 : decode cX1_init 7 = .ok (.newarray .int, 2) := by decide +kernel
theorem dX1_init_9 : decode cX1_init 9 = .ok (.putfield 9, 3) := by decide +kernel
theorem dX1_init_12 : decode cX1_init 12 = .ok (.aload_n 0, 1) := by decide +kernel
theorem dX1_init_13 : decode cX1_init 13 = .ok (.bipush 30, 2) := by decide +kernel
theorem dX1_init_15 : decode cX1_init 15 = .ok (.newarray .int, 2) := by decide +kernel
theorem dX1_init_17 : decode cX1_init 17 = .ok (.putfield 15, 3) := by decide +kernel
theorem dX1_init_20 : decode cX1_init 20 = .ok (.aload_n 0, 1) := by decide +kernel
theorem dX1_init_21 : decode cX1_init 21 = .ok (.bipush 30, 2) := by decide +kernel
theorem dX1_init_23 : decode cX1_init 23 = .ok (.newarray .int, 2) := by decide +kernel
theorem dX1_init_25 : decode cX1_init 25 = .ok (.putfield 18, 3) := by decide +kernel
theorem dX1_init_28 : decode cX1_init 28 = .ok (.aload_n 0, 1) := by decide +kernel
theorem dX1_init_29 : decode cX1_init 29 = .ok (.bipush 30, 2) := by decide +kernel
theorem dX1_init_31 : decode cX1_init 31 = .ok (.newarray .int, 2) := by decide +kernel
theorem dX1_init_33 : decode cX1_init 33 = .ok (.putfield 21, 3) := by decide +kernel
theorem dX1_init_36 : decode cX1_init 36 = .ok (.aload_n 0, 1) := by decide +kernel
theorem dX1_init_37 : decode cX1_init 37 = .ok (.bipush 30, 2) := by decide +kernel
theorem dX1_init_39 : decode cX1_init 39 = .ok (.newarray .int, 2) := by decide +kernel
theorem dX1_init_41 : decode cX1_init 41 = .ok (.putfield 24, 3) := by decide +kernel
theorem dX1_init_44 : decode cX1_init 44 = .ok (.aload_n 0, 1) := by decide +kernel
theorem dX1_init_45 : decode cX1_init 45 = .ok (.bipush 30, 2) := by decide +kernel
theorem dX1_init_47 : decode cX1_init 47 = .ok (.newarray .int, 2) := by decide +kernel
theorem dX1_init_49 : decode cX1_init 49 = .ok (.putfield 27, 3) := by decide +kernel
theorem dX1_init_52 : decode cX1_init 52 = .ok (.aload_n 0, 1) := by decide +kernel
theorem dX1_init_53 : decode cX1_init 53 = .ok (.bipush 30, 2) := by decide +kernel
theorem dX1_init_55 : decode cX1_init 55 = .ok (.newarray .int, 2) := by decide +kernel
theorem dX1_init_57 : decode cX1_init 57 = .ok (.putfield 30, 3) := by decide +kernel
theorem dX1_init_60 : decode cX1_init 60 = .ok (.return_, 1) := by decide +kernel
theorem dX1_clear_0 : decode cX1_clear 0 = .ok (.aload_n 0, 1) := by decide +kernel
theorem dX1_clear_1 : decode cX1_clear 1 = .ok (.iconst 0, 1) := by decide +kernel
theorem dX1_clear_2 : decode cX1_clear 2 = .ok (.putfield 33, 3) := by decide +kernel
theorem dX1_clear_5 : decode cX1_clear 5 = .ok (.return_, 1) := by decide +kernel
theorem dX1_copyFrom_0 : decode cX1_copyFrom 0 = .ok (.aload_n 0, 1) := by decide +kernel
theorem dX1_copyFrom_1 : decode cX1_copyFrom 1 = .ok (.aload_n 1, 1) := by decide +kernel
theorem dX1_copyFrom_2 : decode cX1_copyFrom 2 = .ok (.getfield 33, 3) := by decide +kernel
theorem dX1_copyFrom_5 : decode cX1_copyFrom 5 = .ok (.putfield 33, 3) := by decide +kernel
theorem dX1_copyFrom_8 : decode cX1_copyFrom 8 = .ok (.aload_n 1, 1) := by decide +kernel
theorem dX1_copyFrom_9 : decode cX1_copyFrom 9 = .ok (.getfield 9, 3) := by decide +kernel
theorem dX1_copyFrom_12 : decode cX1_copyFrom 12 = .ok (.iconst 0, 1) := by decide +kernel
theorem dX1_copyFrom_13 : decode cX1_copyFrom 13 = .ok (.aload_n 0, 1) := by decide +kernel
theorem dX1_copyFrom_14 : decode cX1_copyFrom 14 = .ok (.getfield 9, 3) := by decide +kernel
theorem dX1_copyFrom_17 : decode cX1_copyFrom 17 = .ok (.iconst 0, 1) := by decide +kernel
theorem dX1_copyFrom_18 : decode cX1_copyFrom 18 = .ok (.bipush 30, 2) := by decide +kernel
theorem dX1_copyFrom_20 : decode cX1_copyFrom 20 = .ok (.invokestatic 37, 3) := by decide +kernel
theorem dX1_copyFrom_23 : decode cX1_copyFrom 23 = .ok (.aload_n 1, 1) := by decide +kernel
theorem dX1_copyFrom_24 : decode cX1_copyFrom 24 = .ok (.getfield 15, 3) := by decide +kernel
theorem dX1_copyFrom_27 : decode cX1_copyFrom 27 = .ok (.iconst 0, 1) := by decide +kernel
theorem dX1_copyFrom_28 : decode cX1_copyFrom 28 = .ok (.aload_n 0, 1) := by decide +kernel
theorem dX1_copyFrom_29 : decode cX1_copyFrom 29 = .ok (.getfield 15, 3) := by decide +kernel
theorem dX1_copyFrom_32 : decode cX1_copyFrom 32 = .ok (.iconst 0, 1) := by decide +kernel
theorem dX1_copyFrom_33 : decode cX1_copyFrom 33 = .ok (.bipush 30, 2) := by decide +kernel
theorem dX1_copyFrom_35 : decode cX1_copyFrom 35 = .ok (.invokestatic 37, 3) := by decide +kernel
theorem dX1_copyFrom_38 : decode cX1_copyFrom 38 = .ok (.aload_n 1, 1) := by decide +kernel
theorem dX1_copyFrom_39 : decode cX1_copyFrom 39 = .ok (.getfield 18, 3) := by decide +kernel
theorem dX1_copyFrom_42 : decode cX1_copyFrom 42 = .ok (.iconst 0, 1) := by decide +kernel
theorem dX1_copyFrom_43 : decode cX1_copyFrom 43 = .ok (.aload_n 0, 1) := by decide +kernel
theorem dX1_copyFrom_44 : decode cX1_copyFrom 44 = .ok (.getfield 18, 3) := by decide +kernel
theorem dX1_copyFrom_47 : decode cX1_copyFrom 47 = .ok (.iconst 0, 1) := by decide +kernel
theorem dX1_copyFrom_48 : decode cX1_copyFrom 48 = .ok (.bipush 30, 2) := by decide +kernel
theorem dX1_copyFrom_50 : decode cX1_copyFrom 50 = .ok (.invokestatic 37, 3) := by decide +kernel
theorem dX1_copyFrom_53 : decode cX1_copyFrom 53 = .ok (.aload_n 1, 1) := by decide +kernel
theorem dX1_copyFrom_54 : decode cX1_copyFrom 54 = .ok (.getfield 21, 3) := by decide +kernel
theorem dX1_copyFrom_57 : decode cX1_copyFrom 57 = .ok (.iconst 0, 1) := by decide +kernel
theorem dX1_copyFrom_58 : decode cX1_copyFrom 58 = .ok (.aload_n 0, 1) := by decide +kernel
theorem dX1_copyFrom_59 : decode cX1_copyFrom 59 = .ok (.getfield 21, 3) := by decide +kernel
theorem dX1_copyFrom_62 : decode cX1_copyFrom 62 = .ok (.iconst 0, 1) := by decide +kernel
theorem dX1_copyFrom_63 : decode cX1_copyFrom 63 = .ok (.bipush 30, 2) := by decide +kernel
theorem dX1_copyFrom_65 : decode cX1_copyFrom 65 = .ok (.invokestatic 37, 3) := by decide +kernel
theorem dX1_copyFrom_68 : decode cX1_copyFrom 68 = .ok (.aload_n 1, 1) := by decide +kernel
theorem dX1_copyFrom_69 : decode cX1_copyFrom 69 = .ok (.getfield 24, 3) := by decide +kernel
theorem dX1_copyFrom_72 : decode cX1_copyFrom 72 = .ok (.iconst 0, 1) := by decide +kernel
theorem dX1_copyFrom_73 : decode cX1_copyFrom 73 = .ok (.aload_n 0, 1) := by decide +kernel
theorem dX1_copyFrom_74 : decode cX1_copyFrom 74 = .ok (.getfield 24, 3) := by decide +kernel
theorem dX1_copyFrom_77 : decode cX1_copyFrom 77 = .ok (.iconst 0, 1) := by decide +kernel
theorem dX1_copyFrom_78 : decode cX1_copyFrom 78 = .ok (.bipush 30, 2) := by decide +kernel
theorem dX1_copyFrom_80 : decode cX1_copyFrom 80 = .ok (.invokestatic 37, 3) := by decide +kernel
theorem dX1_copyFrom_83 : decode cX1_copyFrom 83 = .ok (.aload_n 1, 1) := by decide +kernel
theorem dX1_copyFrom_84 : decode cX1_copyFrom 84 = .ok (.getfield 27, 3) := by decide +kernel
theorem dX1_copyFrom_87 : decode cX1_copyFrom 87 = .ok (.iconst 0, 1) := by decide +kernel
theorem dX1_copyFrom_88 : decode cX1_copyFrom 88 = .ok (.aload_n 0, 1) := by decide +kernel
theorem dX1_copyFrom_89 : decode cX1_copyFrom 89 = .ok (.getfield 27, 3) := by decide +kernel
theorem dX1_copyFrom_92 : decode cX1_copyFrom 92 = .ok (.iconst 0, 1) := by decide +kernel
theorem dX1_copyFrom_93 : decode cX1_copyFrom 93 = .ok (.bipush 30, 2) := by decide +kernel
theorem dX1_copyFrom_95 : decode cX1_copyFrom 95 = .ok (.invokestatic 37, 3) := by decide +kernel
theorem dX1_copyFrom_98 : decode cX1_copyFrom 98 = .ok (.aload_n 1, 1) := by decide +kernel
theorem dX1_copyFrom_99 : decode cX1_copyFrom 99 = .ok (.getfield 30, 3) := by decide +kernel
theorem dX1_copyFrom_102 : decode cX1_copyFrom 102 = .ok (.iconst 0, 1) := by decide +kernel
theorem dX1_copyFrom_103 : decode cX1_copyFrom 103 = .ok (.aload_n 0, 1) := by decide +kernel
theorem dX1_copyFrom_104 : decode cX1_copyFrom 104 = .ok (.getfield 30, 3) := by decide +kernel
theorem dX1_copyFrom_107 : decode cX1_copyFrom 107 = .ok (.iconst 0, 1) := by decide +kernel
theorem dX1_copyFrom_108 : decode cX1_copyFrom 108 = .ok (.bipush 30, 2) := by decide +kernel
theorem dX1_copyFrom_110 : decode cX1_copyFrom 110 = .ok (.invokestatic 37, 3) := by decide +kernel
theorem dX1_copyFrom_113 : decode cX1_copyFrom 113 = .ok (.return_, 1) := by decide +kernel
theorem dX1_has_0 : decode cX1_has 0 = .ok (.iload_n 1, 1) := by decide +kernel
theorem dX1_has_1 : decode cX1_has 1 = .ok (.ifCond .lt 15, 3) := by decide +kernel
theorem dX1_has_4 : decode cX1_has 4 = .ok (.iload_n 1, 1) := by decide +kernel
theorem dX1_has_5 : decode cX1_has 5 = .ok (.aload_n 0, 1) := by decide +kernel
theorem dX1_has_6 : decode cX1_has 6 = .ok (.getfield 33, 3) := by decide +kernel
theorem dX1_has_9 : decode cX1_has 9 = .ok (.if_icmp .ge 7, 3) := by decide +kernel
theorem dX1_has_12 : decode cX1_has 12 = .ok (.iconst 1, 1) := by decide +kernel
theorem dX1_has_13 : decode cX1_has 13 = .ok (.goto 4, 3) := by decide +kernel
theorem dX1_has_16 : decode cX1_has 16 = .ok (.iconst 0, 1) := by decide +kernel
theorem dX1_has_17 : decode cX1_has 17 = .ok (.ireturn, 1) := by decide +kernel
theorem dX1_isFull_0 : decode cX1_isFull 0 = .ok (.aload_n 0, 1) := by decide +kernel
theorem dX1_isFull_1 : decode cX1_isFull 1 = .ok (.getfield 33, 3) := by decide +kernel
theorem dX1_isFull_4 : decode cX1_isFull 4 = .ok (.bipush 30, 2) := by decide +kernel
theorem dX1_isFull_6 : decode cX1_isFull 6 = .ok (.if_icmp .lt 7, 3) := by decide +kernel
theorem dX1_isFull_9 : decode cX1_isFull 9 = .ok (.iconst 1, 1) := by decide +kernel
theorem dX1_isFull_10 : decode cX1_isFull 10 = .ok (.goto 4, 3) := by decide +kernel
theorem dX1_isFull_13 : decode cX1_isFull 13 = .ok (.iconst 0, 1) := by decide +kernel
theorem dX1_isFull_14 : decode cX1_isFull 14 = .ok (.ireturn, 1) := by decide +kernel
theorem dX1_isOpen_0 : decode cX1_isOpen 0 = .ok (.aload_n 0, 1) := by decide +kernel
theorem dX1_isOpen_1 : decode cX1_isOpen 1 = .ok (.iload_n 1, 1) := by decide +kernel
theorem dX1_isOpen_2 : decode cX1_isOpen 2 = .ok (.invokevirtual 43, 3) := by decide +kernel
theorem dX1_isOpen_5 : decode cX1_isOpen 5 = .ok (.ifCond .eq 26, 3) := by decide +kernel
theorem dX1_isOpen_8 : decode cX1_isOpen 8 = .ok (.aload_n 0, 1) := by decide +kernel
theorem dX1_isOpen_9 : decode cX1_isOpen 9 = .ok (.getfield 21, 3) := by decide +kernel
theorem dX1_isOpen_12 : decode cX1_isOpen 12 = .ok (.iload_n 1, 1) := by decide +kernel
theorem dX1_isOpen_13 : decode cX1_isOpen 13 = .ok (.iaload, 1) := by decide +kernel
theorem dX1_isOpen_14 : decode cX1_isOpen 14 = .ok (.ifCond .eq 13, 3) := by decide +kernel
theorem dX1_isOpen_17 : decode cX1_isOpen 17 = .ok (.aload_n 0, 1) := by decide +kernel
theorem dX1_isOpen_18 : decode cX1_isOpen 18 = .ok (.getfield 21, 3) := by decide +kernel
theorem dX1_isOpen_21 : decode cX1_isOpen 21 = .ok (.iload_n 1, 1) := by decide +kernel
theorem dX1_isOpen_22 : decode cX1_isOpen 22 = .ok (.iaload, 1) := by decide +kernel
theorem dX1_isOpen_23 : decode cX1_isOpen 23 = .ok (.iconst 1, 1) := by decide +kernel
theorem dX1_isOpen_24 : decode cX1_isOpen 24 = .ok (.if_icmp .ne 7, 3) := by decide +kernel
theorem dX1_isOpen_27 : decode cX1_isOpen 27 = .ok (.iconst 1, 1) := by decide +kernel
theorem dX1_isOpen_28 : decode cX1_isOpen 28 = .ok (.goto 4, 3) := by decide +kernel
theorem dX1_isOpen_31 : decode cX1_isOpen 31 = .ok (.iconst 0, 1) := by decide +kernel
theorem dX1_isOpen_32 : decode cX1_isOpen 32 = .ok (.ireturn, 1) := by decide +kernel
theorem dX1_runsOn_0 : decode cX1_runsOn 0 = .ok (.aload_n 0, 1) := by decide +kernel
theorem dX1_runsOn_1 : decode cX1_runsOn 1 = .ok (.iload_n 1, 1) := by decide +kernel
theorem dX1_runsOn_2 : decode cX1_runsOn 2 = .ok (.invokevirtual 43, 3) := by decide +kernel
theorem dX1_runsOn_5 : decode cX1_runsOn 5 = .ok (.ifCond .eq 27, 3) := by decide +kernel
theorem dX1_runsOn_8 : decode cX1_runsOn 8 = .ok (.aload_n 0, 1) := by decide +kernel
theorem dX1_runsOn_9 : decode cX1_runsOn 9 = .ok (.getfield 21, 3) := by decide +kernel
theorem dX1_runsOn_12 : decode cX1_runsOn 12 = .ok (.iload_n 1, 1) := by decide +kernel
theorem dX1_runsOn_13 : decode cX1_runsOn 13 = .ok (.iaload, 1) := by decide +kernel
theorem dX1_runsOn_14 : decode cX1_runsOn 14 = .ok (.iconst 1, 1) := by decide +kernel
theorem dX1_runsOn_15 : decode cX1_runsOn 15 = .ok (.if_icmp .ne 17, 3) := by decide +kernel
theorem dX1_runsOn_18 : decode cX1_runsOn 18 = .ok (.aload_n 0, 1) := by decide +kernel
theorem dX1_runsOn_19 : decode cX1_runsOn 19 = .ok (.getfield 24, 3) := by decide +kernel
theorem dX1_runsOn_22 : decode cX1_runsOn 22 = .ok (.iload_n 1, 1) := by decide +kernel
theorem dX1_runsOn_23 : decode cX1_runsOn 23 = .ok (.iaload, 1) := by decide +kernel
theorem dX1_runsOn_24 : decode cX1_runsOn 24 = .ok (.iload_n 2, 1) := by decide +kernel
theorem dX1_runsOn_25 : decode cX1_runsOn 25 = .ok (.if_icmp .ne 7, 3) := by decide +kernel
theorem dX1_runsOn_28 : decode cX1_runsOn 28 = .ok (.iconst 1, 1) := by decide +kernel
theorem dX1_runsOn_29 : decode cX1_runsOn 29 = .ok (.goto 4, 3) := by decide +kernel
theorem dX1_runsOn_32 : decode cX1_runsOn 32 = .ok (.iconst 0, 1) := by decide +kernel
theorem dX1_runsOn_33 : decode cX1_runsOn 33 = .ok (.ireturn, 1) := by decide +kernel
theorem dX1_anyOf_0 : decode cX1_anyOf 0 = .ok (.iconst 0, 1) := by decide +kernel
theorem dX1_anyOf_1 : decode cX1_anyOf 1 = .ok (.istore_n 2, 1) := by decide +kernel
theorem dX1_anyOf_2 : decode cX1_anyOf 2 = .ok (.iload_n 2, 1) := by decide +kernel
theorem dX1_anyOf_3 : decode cX1_anyOf 3 = .ok (.aload_n 0, 1) := by decide +kernel
theorem dX1_anyOf_4 : decode cX1_anyOf 4 = .ok (.getfield 33, 3) := by decide +kernel
theorem dX1_anyOf_7 : decode cX1_anyOf 7 = .ok (.if_icmp .ge 21, 3) := by decide +kernel
theorem dX1_anyOf_10 : decode cX1_anyOf 10 = .ok (.aload_n 0, 1) := by decide +kernel
theorem dX1_anyOf_11 : decode cX1_anyOf 11 = .ok (.getfield 9, 3) := by decide +kernel
theorem dX1_anyOf_14 : decode cX1_anyOf 14 = .ok (.iload_n 2, 1) := by decide +kernel
theorem dX1_anyOf_15 : decode cX1_anyOf 15 = .ok (.iaload, 1) := by decide +kernel
theorem dX1_anyOf_16 : decode cX1_anyOf 16 = .ok (.iload_n 1, 1) := by decide +kernel
theorem dX1_anyOf_17 : decode cX1_anyOf 17 = .ok (.if_icmp .ne 5, 3) := by decide +kernel
theorem dX1_anyOf_20 : decode cX1_anyOf 20 = .ok (.iconst 1, 1) := by decide +kernel
theorem dX1_anyOf_21 : decode cX1_anyOf 21 = .ok (.ireturn, 1) := by decide +kernel
theorem dX1_anyOf_22 : decode cX1_anyOf 22 = .ok (.iinc 2 1, 3) := by decide +kernel
theorem dX1_anyOf_25 : decode cX1_anyOf 25 = .ok (.goto (-23), 3) := by decide +kernel
theorem dX1_anyOf_28 : decode cX1_anyOf 28 = .ok (.iconst 0, 1) := by decide +kernel
theorem dX1_anyOf_29 : decode cX1_anyOf 29 = .ok (.ireturn, 1) := by decide +kernel
theorem dX1_inState_0 : decode cX1_inState 0 = .ok (.iconst 0, 1) := by decide +kernel
theorem dX1_inState_1 : decode cX1_inState 1 = .ok (.istore_n 2, 1) := by decide +kernel
theorem dX1_inState_2 : decode cX1_inState 2 = .ok (.iconst 0, 1) := by decide +kernel
theorem dX1_inState_3 : decode cX1_inState 3 = .ok (.istore_n 3, 1) := by decide +kernel
theorem dX1_inState_4 : decode cX1_inState 4 = .ok (.iload_n 3, 1) := by decide +kernel
theorem dX1_inState_5 : decode cX1_inState 5 = .ok (.aload_n 0, 1) := by decide +kernel
theorem dX1_inState_6 : decode cX1_inState 6 = .ok (.getfield 33, 3) := by decide +kernel
theorem dX1_inState_9 : decode cX1_inState 9 = .ok (.if_icmp .ge 22, 3) := by decide +kernel
theorem dX1_inState_12 : decode cX1_inState 12 = .ok (.aload_n 0, 1) := by decide +kernel
theorem dX1_inState_13 : decode cX1_inState 13 = .ok (.getfield 21, 3) := by decide +kernel
theorem dX1_inState_16 : decode cX1_inState 16 = .ok (.iload_n 3, 1) := by decide +kernel
theorem dX1_inState_17 : decode cX1_inState 17 = .ok (.iaload, 1) := by decide +kernel
theorem dX1_inState_18 : decode cX1_inState 18 = .ok (.iload_n 1, 1) := by decide +kernel
theorem dX1_inState_19 : decode cX1_inState 19 = .ok (.if_icmp .ne 6, 3) := by decide +kernel
theorem dX1_inState_22 : decode cX1_inState 22 = .ok (.iinc 2 1, 3) := by decide +kernel
theorem dX1_inState_25 : decode cX1_inState 25 = .ok (.iinc 3 1, 3) := by decide +kernel
theorem dX1_inState_28 : decode cX1_inState 28 = .ok (.goto (-24), 3) := by decide +kernel
theorem dX1_inState_31 : decode cX1_inState 31 = .ok (.iload_n 2, 1) := by decide +kernel
theorem dX1_inState_32 : decode cX1_inState 32 = .ok (.ireturn, 1) := by decide +kernel
theorem dX1_add_0 : decode cX1_add 0 = .ok (.aload_n 0, 1) := by decide +kernel
theorem dX1_add_1 : decode cX1_add 1 = .ok (.invokevirtual 47, 3) := by decide +kernel
theorem dX1_add_4 : decode cX1_add 4 = .ok (.ifCond .eq 4, 3) := by decide +kernel
theorem dX1_add_7 : decode cX1_add 7 = .ok (.return_, 1) := by decide +kernel
theorem dX1_add_8 : decode cX1_add 8 = .ok (.aload_n 0, 1) := by decide +kernel
theorem dX1_add_9 : decode cX1_add 9 = .ok (.getfield 9, 3) := by decide +kernel
theorem dX1_add_12 : decode cX1_add 12 = .ok (.aload_n 0, 1) := by decide +kernel
theorem dX1_add_13 : decode cX1_add 13 = .ok (.getfield 33, 3) := by decide +kernel
theorem dX1_add_16 : decode cX1_add 16 = .ok (.iload_n 1, 1) := by decide +kernel
theorem dX1_add_17 : decode cX1_add 17 = .ok (.iastore, 1) := by decide +kernel
theorem dX1_add_18 : decode cX1_add 18 = .ok (.aload_n 0, 1) := by decide +kernel
theorem dX1_add_19 : decode cX1_add 19 = .ok (.getfield 15, 3) := by decide +kernel
theorem dX1_add_22 : decode cX1_add 22 = .ok (.aload_n 0, 1) := by decide +kernel
theorem dX1_add_23 : decode cX1_add 23 = .ok (.getfield 33, 3) := by decide +kernel
theorem dX1_add_26 : decode cX1_add 26 = .ok (.iload_n 2, 1) := by decide +kernel
theorem dX1_add_27 : decode cX1_add 27 = .ok (.iastore, 1) := by decide +kernel
theorem dX1_add_28 : decode cX1_add 28 = .ok (.aload_n 0, 1) := by decide +kernel
theorem dX1_add_29 : decode cX1_add 29 = .ok (.getfield 18, 3) := by decide +kernel
theorem dX1_add_32 : decode cX1_add 32 = .ok (.aload_n 0, 1) := by decide +kernel
theorem dX1_add_33 : decode cX1_add 33 = .ok (.getfield 33, 3) := by decide +kernel
theorem dX1_add_36 : decode cX1_add 36 = .ok (.iconst 0, 1) := by decide +kernel
theorem dX1_add_37 : decode cX1_add 37 = .ok (.iastore, 1) := by decide +kernel
theorem dX1_add_38 : decode cX1_add 38 = .ok (.aload_n 0, 1) := by decide +kernel
theorem dX1_add_39 : decode cX1_add 39 = .ok (.getfield 21, 3) := by decide +kernel
theorem dX1_add_42 : decode cX1_add 42 = .ok (.aload_n 0, 1) := by decide +kernel
theorem dX1_add_43 : decode cX1_add 43 = .ok (.getfield 33, 3) := by decide +kernel
theorem dX1_add_46 : decode cX1_add 46 = .ok (.iconst 0, 1) := by decide +kernel
theorem dX1_add_47 : decode cX1_add 47 = .ok (.iastore, 1) := by decide +kernel
theorem dX1_add_48 : decode cX1_add 48 = .ok (.aload_n 0, 1) := by decide +kernel
theorem dX1_add_49 : decode cX1_add 49 = .ok (.getfield 24, 3) := by decide +kernel
theorem dX1_add_52 : decode cX1_add 52 = .ok (.aload_n 0, 1) := by decide +kernel
theorem dX1_add_53 : decode cX1_add 53 = .ok (.getfield 33, 3) := by decide +kernel
theorem dX1_add_56 : decode cX1_add 56 = .ok (.iconst (-1), 1) := by decide +kernel
theorem dX1_add_57 : decode cX1_add 57 = .ok (.iastore, 1) := by decide +kernel
theorem dX1_add_58 : decode cX1_add 58 = .ok (.aload_n 0, 1) := by decide +kernel
theorem dX1_add_59 : decode cX1_add 59 = .ok (.getfield 27, 3) := by decide +kernel
theorem dX1_add_62 : decode cX1_add 62 = .ok (.aload_n 0, 1) := by decide +kernel
theorem dX1_add_63 : decode cX1_add 63 = .ok (.getfield 33, 3) := by decide +kernel
theorem dX1_add_66 : decode cX1_add 66 = .ok (.iconst (-1), 1) := by decide +kernel
theorem dX1_add_67 : decode cX1_add 67 = .ok (.iastore, 1) := by decide +kernel
theorem dX1_add_68 : decode cX1_add 68 = .ok (.aload_n 0, 1) := by decide +kernel
theorem dX1_add_69 : decode cX1_add 69 = .ok (.getfield 30, 3) := by decide +kernel
theorem dX1_add_72 : decode cX1_add 72 = .ok (.aload_n 0, 1) := by decide +kernel
theorem dX1_add_73 : decode cX1_add 73 = .ok (.getfield 33, 3) := by decide +kernel
theorem dX1_add_76 : decode cX1_add 76 = .ok (.iconst 0, 1) := by decide +kernel
theorem dX1_add_77 : decode cX1_add 77 = .ok (.iastore, 1) := by decide +kernel
theorem dX1_add_78 : decode cX1_add 78 = .ok (.aload_n 0, 1) := by decide +kernel
theorem dX1_add_79 : decode cX1_add 79 = .ok (.dup, 1) := by decide +kernel
theorem dX1_add_80 : decode cX1_add 80 = .ok (.getfield 33, 3) := by decide +kernel
theorem dX1_add_83 : decode cX1_add 83 = .ok (.iconst 1, 1) := by decide +kernel
theorem dX1_add_84 : decode cX1_add 84 = .ok (.iadd, 1) := by decide +kernel
theorem dX1_add_85 : decode cX1_add 85 = .ok (.putfield 33, 3) := by decide +kernel
theorem dX1_add_88 : decode cX1_add 88 = .ok (.return_, 1) := by decide +kernel
theorem dX1_start_0 : decode cX1_start 0 = .ok (.aload_n 0, 1) := by decide +kernel
theorem dX1_start_1 : decode cX1_start 1 = .ok (.iload_n 1, 1) := by decide +kernel
theorem dX1_start_2 : decode cX1_start 2 = .ok (.invokevirtual 43, 3) := by decide +kernel
theorem dX1_start_5 : decode cX1_start 5 = .ok (.ifCond .eq 17, 3) := by decide +kernel
theorem dX1_start_8 : decode cX1_start 8 = .ok (.aload_n 0, 1) := by decide +kernel
theorem dX1_start_9 : decode cX1_start 9 = .ok (.getfield 21, 3) := by decide +kernel
theorem dX1_start_12 : decode cX1_start 12 = .ok (.iload_n 1, 1) := by decide +kernel
theorem dX1_start_13 : decode cX1_start 13 = .ok (.iconst 1, 1) := by decide +kernel
theorem dX1_start_14 : decode cX1_start 14 = .ok (.iastore, 1) := by decide +kernel
theorem dX1_start_15 : decode cX1_start 15 = .ok (.aload_n 0, 1) := by decide +kernel
theorem dX1_start_16 : decode cX1_start 16 = .ok (.getfield 24, 3) := by decide +kernel
theorem dX1_start_19 : decode cX1_start 19 = .ok (.iload_n 1, 1) := by decide +kernel
theorem dX1_start_20 : decode cX1_start 20 = .ok (.iload_n 2, 1) := by decide +kernel
theorem dX1_start_21 : decode cX1_start 21 = .ok (.iastore, 1) := by decide +kernel
theorem dX1_start_22 : decode cX1_start 22 = .ok (.return_, 1) := by decide +kernel
theorem dX1_stop_0 : decode cX1_stop 0 = .ok (.aload_n 0, 1) := by decide +kernel
theorem dX1_stop_1 : decode cX1_stop 1 = .ok (.iload_n 1, 1) := by decide +kernel
theorem dX1_stop_2 : decode cX1_stop 2 = .ok (.invokevirtual 43, 3) := by decide +kernel
theorem dX1_stop_5 : decode cX1_stop 5 = .ok (.ifCond .eq 24, 3) := by decide +kernel
theorem dX1_stop_8 : decode cX1_stop 8 = .ok (.aload_n 0, 1) := by decide +kernel
theorem dX1_stop_9 : decode cX1_stop 9 = .ok (.getfield 21, 3) := by decide +kernel
theorem dX1_stop_12 : decode cX1_stop 12 = .ok (.iload_n 1, 1) := by decide +kernel
theorem dX1_stop_13 : decode cX1_stop 13 = .ok (.iconst 0, 1) := by decide +kernel
theorem dX1_stop_14 : decode cX1_stop 14 = .ok (.iastore, 1) := by decide +kernel
theorem dX1_stop_15 : decode cX1_stop 15 = .ok (.aload_n 0, 1) := by decide +kernel
theorem dX1_stop_16 : decode cX1_stop 16 = .ok (.getfield 24, 3) := by decide +kernel
theorem dX1_stop_19 : decode cX1_stop 19 = .ok (.iload_n 1, 1) := by decide +kernel
theorem dX1_stop_20 : decode cX1_stop 20 = .ok (.iconst (-1), 1) := by decide +kernel
theorem dX1_stop_21 : decode cX1_stop 21 = .ok (.iastore, 1) := by decide +kernel
theorem dX1_stop_22 : decode cX1_stop 22 = .ok (.aload_n 0, 1) := by decide +kernel
theorem dX1_stop_23 : decode cX1_stop 23 = .ok (.getfield 18, 3) := by decide +kernel
theorem dX1_stop_26 : decode cX1_stop 26 = .ok (.iload_n 1, 1) := by decide +kernel
theorem dX1_stop_27 : decode cX1_stop 27 = .ok (.iload_n 2, 1) := by decide +kernel
theorem dX1_stop_28 : decode cX1_stop 28 = .ok (.iastore, 1) := by decide +kernel
theorem dX1_stop_29 : decode cX1_stop 29 = .ok (.return_, 1) := by decide +kernel
theorem dX1_end_0 : decode cX1_end 0 = .ok (.aload_n 0, 1) := by decide +kernel
theorem dX1_end_1 : decode cX1_end 1 = .ok (.iload_n 1, 1) := by decide +kernel
theorem dX1_end_2 : decode cX1_end 2 = .ok (.invokevirtual 43, 3) := by decide +kernel
theorem dX1_end_5 : decode cX1_end 5 = .ok (.ifCond .eq 24, 3) := by decide +kernel
theorem dX1_end_8 : decode cX1_end 8 = .ok (.aload_n 0, 1) := by decide +kernel
theorem dX1_end_9 : decode cX1_end 9 = .ok (.getfield 21, 3) := by decide +kernel
theorem dX1_end_12 : decode cX1_end 12 = .ok (.iload_n 1, 1) := by decide +kernel
theorem dX1_end_13 : decode cX1_end 13 = .ok (.iload_n 2, 1) := by decide +kernel
theorem dX1_end_14 : decode cX1_end 14 = .ok (.iastore, 1) := by decide +kernel
theorem dX1_end_15 : decode cX1_end 15 = .ok (.aload_n 0, 1) := by decide +kernel
theorem dX1_end_16 : decode cX1_end 16 = .ok (.getfield 24, 3) := by decide +kernel
theorem dX1_end_19 : decode cX1_end 19 = .ok (.iload_n 1, 1) := by decide +kernel
theorem dX1_end_20 : decode cX1_end 20 = .ok (.iconst (-1), 1) := by decide +kernel
theorem dX1_end_21 : decode cX1_end 21 = .ok (.iastore, 1) := by decide +kernel
theorem dX1_end_22 : decode cX1_end 22 = .ok (.aload_n 0, 1) := by decide +kernel
theorem dX1_end_23 : decode cX1_end 23 = .ok (.getfield 27, 3) := by decide +kernel
theorem dX1_end_26 : decode cX1_end 26 = .ok (.iload_n 1, 1) := by decide +kernel
theorem dX1_end_27 : decode cX1_end 27 = .ok (.iload_n 3, 1) := by decide +kernel
theorem dX1_end_28 : decode cX1_end 28 = .ok (.iastore, 1) := by decide +kernel
theorem dX1_end_29 : decode cX1_end 29 = .ok (.return_, 1) := by decide +kernel
theorem dX2_init_0 : decode cX2_init 0 = .ok (.aload_n 0, 1) := by decide +kernel
theorem dX2_init_1 : decode cX2_init 1 = .ok (.invokespecial 3, 3) := by decide +kernel
theorem dX2_init_4 : decode cX2_init 4 = .ok (.aload_n 0, 1) := by decide +kernel
theorem dX2_init_5 : decode cX2_init 5 = .ok (.bipush 8, 2) := by decide +kernel
theorem dX2_init_7 : decode cX2_init 7 = .ok (.newarray .int, 2) := by decide +kernel
theorem dX2_init_9 : decode cX2_init 9 = .ok (.putfield 9, 3) := by decide +kernel
theorem dX2_init_12 : decode cX2_init 12 = .ok (.aload_n 0, 1) := by decide +kernel
theorem dX2_init_13 : decode cX2_init 13 = .ok (.bipush 8, 2) := by decide +kernel
theorem dX2_init_15 : decode cX2_init 15 = .ok (.newarray .int, 2) := by decide +kernel
theorem dX2_init_17 : decode cX2_init 17 = .ok (.putfield 15, 3) := by decide +kernel
theorem dX2_init_20 : decode cX2_init 20 = .ok (.aload_n 0, 1) := by decide +kernel
theorem dX2_init_21 : decode cX2_init 21 = .ok (.bipush 8, 2) := by decide +kernel
theorem dX2_init_23 : decode cX2_init 23 = .ok (.newarray .int, 2) := by decide +kernel
theorem dX2_init_25 : decode cX2_init 25 = .ok (.putfield 18, 3) := by decide +kernel
theorem dX2_init_28 : decode cX2_init 28 = .ok (.aload_n 0, 1) := by decide +kernel
theorem dX2_init_29 : decode cX2_init 29 = .ok (.bipush 8, 2) := by decide +kernel
theorem dX2_init_31 : decode cX2_init 31 = .ok (.newarray .int, 2) := by decide +kernel
theorem dX2_init_33 : decode cX2_init 33 = .ok (.putfield 21, 3) := by decide +kernel
theorem dX2_init_36 : decode cX2_init 36 = .ok (.aload_n 0, 1) := by decide +kernel
theorem dX2_init_37 : decode cX2_init 37 = .ok (.bipush 8, 2) := by decide +kernel
theorem dX2_init_39 : decode cX2_init 39 = .ok (.newarray .int, 2) := by decide +kernel
theorem dX2_init_41 : decode cX2_init 41 = .ok (.putfield 24, 3) := by decide +kernel
theorem dX2_init_44 : decode cX2_init 44 = .ok (.return_, 1) := by decide +kernel
theorem dX2_clear_0 : decode cX2_clear 0 = .ok (.aload_n 0, 1) := by decide +kernel
theorem dX2_clear_1 : decode cX2_clear 1 = .ok (.iconst 0, 1) := by decide +kernel
theorem dX2_clear_2 : decode cX2_clear 2 = .ok (.putfield 27, 3) := by decide +kernel
theorem dX2_clear_5 : decode cX2_clear 5 = .ok (.return_, 1) := by decide +kernel
theorem dX2_copyFrom_0 : decode cX2_copyFrom 0 = .ok (.aload_n 0, 1) := by decide +kernel
theorem dX2_copyFrom_1 : decode cX2_copyFrom 1 = .ok (.aload_n 1, 1) := by decide +kernel
theorem dX2_copyFrom_2 : decode cX2_copyFrom 2 = .ok (.getfield 27, 3) := by decide +kernel
theorem dX2_copyFrom_5 : decode cX2_copyFrom 5 = .ok (.putfield 27, 3) := by decide +kernel
theorem dX2_copyFrom_8 : decode cX2_copyFrom 8 = .ok (.aload_n 1, 1) := by decide +kernel
theorem dX2_copyFrom_9 : decode cX2_copyFrom 9 = .ok (.getfield 9, 3) := by decide +kernel
theorem dX2_copyFrom_12 : decode cX2_copyFrom 12 = .ok (.iconst 0, 1) := by decide +kernel
theorem dX2_copyFrom_13 : decode cX2_copyFrom 13 = .ok (.aload_n 0, 1) := by decide +kernel
theorem dX2_copyFrom_14 : decode cX2_copyFrom 14 = .ok (.getfield 9, 3) := by decide +kernel
theorem dX2_copyFrom_17 : decode cX2_copyFrom 17 = .ok (.iconst 0, 1) := by decide +kernel
theorem dX2_copyFrom_18 : decode cX2_copyFrom 18 = .ok (.bipush 8, 2) := by decide +kernel
theorem dX2_copyFrom_20 : decode cX2_copyFrom 20 = .ok (.invokestatic 31, 3) := by decide +kernel
theorem dX2_copyFrom_23 : decode cX2_copyFrom 23 = .ok (.aload_n 1, 1) := by decide +kernel
theorem dX2_copyFrom_24 : decode cX2_copyFrom 24 = .ok (.getfield 15, 3) := by decide +kernel
theorem dX2_copyFrom_27 : decode cX2_copyFrom 27 = .ok (.iconst 0, 1) := by decide +kernel
theorem dX2_copyFrom_28 : decode cX2_copyFrom 28 = .ok (.aload_n 0, 1) := by decide +kernel
theorem dX2_copyFrom_29 : decode cX2_copyFrom 29 = .ok (.getfield 15, 3) := by decide +kernel
theorem dX2_copyFrom_32 : decode cX2_copyFrom 32 = .ok (.iconst 0, 1) := by decide +kernel
theorem dX2_copyFrom_33 : decode cX2_copyFrom 33 = .ok (.bipush 8, 2) := by decide +kernel
theorem dX2_copyFrom_35 : decode cX2_copyFrom 35 = .ok (.invokestatic 31, 3) := by decide +kernel
theorem dX2_copyFrom_38 : decode cX2_copyFrom 38 = .ok (.aload_n 1, 1) := by decide +kernel
theorem dX2_copyFrom_39 : decode cX2_copyFrom 39 = .ok (.getfield 18, 3) := by decide +kernel
theorem dX2_copyFrom_42 : decode cX2_copyFrom 42 = .ok (.iconst 0, 1) := by decide +kernel
theorem dX2_copyFrom_43 : decode cX2_copyFrom 43 = .ok (.aload_n 0, 1) := by decide +kernel
theorem dX2_copyFrom_44 : decode cX2_copyFrom 44 = .ok (.getfield 18, 3) := by decide +kernel
theorem dX2_copyFrom_47 : decode cX2_copyFrom 47 = .ok (.iconst 0, 1) := by decide +kernel
theorem dX2_copyFrom_48 : decode cX2_copyFrom 48 = .ok (.bipush 8, 2) := by decide +kernel
theorem dX2_copyFrom_50 : decode cX2_copyFrom 50 = .ok (.invokestatic 31, 3) := by decide +kernel
theorem dX2_copyFrom_53 : decode cX2_copyFrom 53 = .ok (.aload_n 1, 1) := by decide +kernel
theorem dX2_copyFrom_54 : decode cX2_copyFrom 54 = .ok (.getfield 21, 3) := by decide +kernel
theorem dX2_copyFrom_57 : decode cX2_copyFrom 57 = .ok (.iconst 0, 1) := by decide +kernel
theorem dX2_copyFrom_58 : decode cX2_copyFrom 58 = .ok (.aload_n 0, 1) := by decide +kernel
theorem dX2_copyFrom_59 : decode cX2_copyFrom 59 = .ok (.getfield 21, 3) := by decide +kernel
theorem dX2_copyFrom_62 : decode cX2_copyFrom 62 = .ok (.iconst 0, 1) := by decide +kernel
theorem dX2_copyFrom_63 : decode cX2_copyFrom 63 = .ok (.bipush 8, 2) := by decide +kernel
theorem dX2_copyFrom_65 : decode cX2_copyFrom 65 = .ok (.invokestatic 31, 3) := by decide +kernel
theorem dX2_copyFrom_68 : decode cX2_copyFrom 68 = .ok (.aload_n 1, 1) := by decide +kernel
theorem dX2_copyFrom_69 : decode cX2_copyFrom 69 = .ok (.getfield 24, 3) := by decide +kernel
theorem dX2_copyFrom_72 : decode cX2_copyFrom 72 = .ok (.iconst 0, 1) := by decide +kernel
theorem dX2_copyFrom_73 : decode cX2_copyFrom 73 = .ok (.aload_n 0, 1) := by decide +kernel
theorem dX2_copyFrom_74 : decode cX2_copyFrom 74 = .ok (.getfield 24, 3) := by decide +kernel
theorem dX2_copyFrom_77 : decode cX2_copyFrom 77 = .ok (.iconst 0, 1) := by decide +kernel
theorem dX2_copyFrom_78 : decode cX2_copyFrom 78 = .ok (.bipush 8, 2) := by decide +kernel
theorem dX2_copyFrom_80 : decode cX2_copyFrom 80 = .ok (.invokestatic 31, 3) := by decide +kernel
theorem dX2_copyFrom_83 : decode cX2_copyFrom 83 = .ok (.return_, 1) := by decide +kernel
theorem dX2_has_0 : decode cX2_has 0 = .ok (.iload_n 1, 1) := by decide +kernel
theorem dX2_has_1 : decode cX2_has 1 = .ok (.ifCond .lt 15, 3) := by decide +kernel
theorem dX2_has_4 : decode cX2_has 4 = .ok (.iload_n 1, 1) := by decide +kernel
theorem dX2_has_5 : decode cX2_has 5 = .ok (.aload_n 0, 1) := by decide +kernel
theorem dX2_has_6 : decode cX2_has 6 = .ok (.getfield 27, 3) := by decide +kernel
theorem dX2_has_9 : decode cX2_has 9 = .ok (.if_icmp .ge 7, 3) := by decide +kernel
theorem dX2_has_12 : decode cX2_has 12 = .ok (.iconst 1, 1) := by decide +kernel
theorem dX2_has_13 : decode cX2_has 13 = .ok (.goto 4, 3) := by decide +kernel
theorem dX2_has_16 : decode cX2_has 16 = .ok (.iconst 0, 1) := by decide +kernel
theorem dX2_has_17 : decode cX2_has 17 = .ok (.ireturn, 1) := by decide +kernel
theorem dX2_isFull_0 : decode cX2_isFull 0 = .ok (.aload_n 0, 1) := by decide +kernel
theorem dX2_isFull_1 : decode cX2_isFull 1 = .ok (.getfield 27, 3) := by decide +kernel
theorem dX2_isFull_4 : decode cX2_isFull 4 = .ok (.bipush 8, 2) := by decide +kernel
theorem dX2_isFull_6 : decode cX2_isFull 6 = .ok (.if_icmp .lt 7, 3) := by decide +kernel
theorem dX2_isFull_9 : decode cX2_isFull 9 = .ok (.iconst 1, 1) := by decide +kernel
theorem dX2_isFull_10 : decode cX2_isFull 10 = .ok (.goto 4, 3) := by decide +kernel
theorem dX2_isFull_13 : decode cX2_isFull 13 = .ok (.iconst 0, 1) := by decide +kernel
theorem dX2_isFull_14 : decode cX2_isFull 14 = .ok (.ireturn, 1) := by decide +kernel
theorem dX2_anyOf_0 : decode cX2_anyOf 0 = .ok (.iconst 0, 1) := by decide +kernel
theorem dX2_anyOf_1 : decode cX2_anyOf 1 = .ok (.istore_n 2, 1) := by decide +kernel
theorem dX2_anyOf_2 : decode cX2_anyOf 2 = .ok (.iload_n 2, 1) := by decide +kernel
theorem dX2_anyOf_3 : decode cX2_anyOf 3 = .ok (.aload_n 0, 1) := by decide +kernel
theorem dX2_anyOf_4 : decode cX2_anyOf 4 = .ok (.getfield 27, 3) := by decide +kernel
theorem dX2_anyOf_7 : decode cX2_anyOf 7 = .ok (.if_icmp .ge 31, 3) := by decide +kernel
theorem dX2_anyOf_10 : decode cX2_anyOf 10 = .ok (.aload_n 0, 1) := by decide +kernel
theorem dX2_anyOf_11 : decode cX2_anyOf 11 = .ok (.getfield 9, 3) := by decide +kernel
theorem dX2_anyOf_14 : decode cX2_anyOf 14 = .ok (.iload_n 2, 1) := by decide +kernel
theorem dX2_anyOf_15 : decode cX2_anyOf 15 = .ok (.iaload, 1) := by decide +kernel
theorem dX2_anyOf_16 : decode cX2_anyOf 16 = .ok (.iload_n 1, 1) := by decide +kernel
theorem dX2_anyOf_17 : decode cX2_anyOf 17 = .ok (.if_icmp .eq 13, 3) := by decide +kernel
theorem dX2_anyOf_20 : decode cX2_anyOf 20 = .ok (.aload_n 0, 1) := by decide +kernel
theorem dX2_anyOf_21 : decode cX2_anyOf 21 = .ok (.getfield 15, 3) := by decide +kernel
theorem dX2_anyOf_24 : decode cX2_anyOf 24 = .ok (.iload_n 2, 1) := by decide +kernel
theorem dX2_anyOf_25 : decode cX2_anyOf 25 = .ok (.iaload, 1) := by decide +kernel
theorem dX2_anyOf_26 : decode cX2_anyOf 26 = .ok (.iload_n 1, 1) := by decide +kernel
theorem dX2_anyOf_27 : decode cX2_anyOf 27 = .ok (.if_icmp .ne 5, 3) := by decide +kernel
theorem dX2_anyOf_30 : decode cX2_anyOf 30 = .ok (.iconst 1, 1) := by decide +kernel
theorem dX2_anyOf_31 : decode cX2_anyOf 31 = .ok (.ireturn, 1) := by decide +kernel
theorem dX2_anyOf_32 : decode cX2_anyOf 32 = .ok (.iinc 2 1, 3) := by decide +kernel
theorem dX2_anyOf_35 : decode cX2_anyOf 35 = .ok (.goto (-33), 3) := by decide +kernel
theorem dX2_anyOf_38 : decode cX2_anyOf 38 = .ok (.iconst 0, 1) := by decide +kernel
theorem dX2_anyOf_39 : decode cX2_anyOf 39 = .ok (.ireturn, 1) := by decide +kernel
theorem dX2_add_0 : decode cX2_add 0 = .ok (.aload_n 0, 1) := by decide +kernel
theorem dX2_add_1 : decode cX2_add 1 = .ok (.invokevirtual 37, 3) := by decide +kernel
theorem dX2_add_4 : decode cX2_add 4 = .ok (.ifCond .eq 4, 3) := by decide +kernel
theorem dX2_add_7 : decode cX2_add 7 = .ok (.return_, 1) := by decide +kernel
theorem dX2_add_8 : decode cX2_add 8 = .ok (.aload_n 0, 1) := by decide +kernel
theorem dX2_add_9 : decode cX2_add 9 = .ok (.getfield 9, 3) := by decide +kernel
theorem dX2_add_12 : decode cX2_add 12 = .ok (.aload_n 0, 1) := by decide +kernel
theorem dX2_add_13 : decode cX2_add 13 = .ok (.getfield 27, 3) := by decide +kernel
theorem dX2_add_16 : decode cX2_add 16 = .ok (.iload_n 1, 1) := by decide +kernel
theorem dX2_add_17 : decode cX2_add 17 = .ok (.iastore, 1) := by decide +kernel
theorem dX2_add_18 : decode cX2_add 18 = .ok (.aload_n 0, 1) := by decide +kernel
theorem dX2_add_19 : decode cX2_add 19 = .ok (.getfield 15, 3) := by decide +kernel
theorem dX2_add_22 : decode cX2_add 22 = .ok (.aload_n 0, 1) := by decide +kernel
theorem dX2_add_23 : decode cX2_add 23 = .ok (.getfield 27, 3) := by decide +kernel
theorem dX2_add_26 : decode cX2_add 26 = .ok (.iload_n 2, 1) := by decide +kernel
theorem dX2_add_27 : decode cX2_add 27 = .ok (.iastore, 1) := by decide +kernel
theorem dX2_add_28 : decode cX2_add 28 = .ok (.aload_n 0, 1) := by decide +kernel
theorem dX2_add_29 : decode cX2_add 29 = .ok (.getfield 18, 3) := by decide +kernel
theorem dX2_add_32 : decode cX2_add 32 = .ok (.aload_n 0, 1) := by decide +kernel
theorem dX2_add_33 : decode cX2_add 33 = .ok (.getfield 27, 3) := by decide +kernel
theorem dX2_add_36 : decode cX2_add 36 = .ok (.iload_n 3, 1) := by decide +kernel
theorem dX2_add_37 : decode cX2_add 37 = .ok (.iastore, 1) := by decide +kernel
theorem dX2_add_38 : decode cX2_add 38 = .ok (.aload_n 0, 1) := by decide +kernel
theorem dX2_add_39 : decode cX2_add 39 = .ok (.getfield 21, 3) := by decide +kernel
theorem dX2_add_42 : decode cX2_add 42 = .ok (.aload_n 0, 1) := by decide +kernel
theorem dX2_add_43 : decode cX2_add 43 = .ok (.getfield 27, 3) := by decide +kernel
theorem dX2_add_46 : decode cX2_add 46 = .ok (.iload 4, 2) := by decide +kernel
theorem dX2_add_48 : decode cX2_add 48 = .ok (.iastore, 1) := by decide +kernel
theorem dX2_add_49 : decode cX2_add 49 = .ok (.aload_n 0, 1) := by decide +kernel
theorem dX2_add_50 : decode cX2_add 50 = .ok (.getfield 24, 3) := by decide +kernel
theorem dX2_add_53 : decode cX2_add 53 = .ok (.aload_n 0, 1) := by decide +kernel
theorem dX2_add_54 : decode cX2_add 54 = .ok (.getfield 27, 3) := by decide +kernel
theorem dX2_add_57 : decode cX2_add 57 = .ok (.iload 5, 2) := by decide +kernel
theorem dX2_add_59 : decode cX2_add 59 = .ok (.iastore, 1) := by decide +kernel
theorem dX2_add_60 : decode cX2_add 60 = .ok (.aload_n 0, 1) := by decide +kernel
theorem dX2_add_61 : decode cX2_add 61 = .ok (.dup, 1) := by decide +kernel
theorem dX2_add_62 : decode cX2_add 62 = .ok (.getfield 27, 3) := by decide +kernel
theorem dX2_add_65 : decode cX2_add 65 = .ok (.iconst 1, 1) := by decide +kernel
theorem dX2_add_66 : decode cX2_add 66 = .ok (.iadd, 1) := by decide +kernel
theorem dX2_add_67 : decode cX2_add 67 = .ok (.putfield 27, 3) := by decide +kernel
theorem dX2_add_70 : decode cX2_add 70 = .ok (.return_, 1) := by decide +kernel
theorem dX2_dueAt_0 : decode cX2_dueAt 0 = .ok (.aload_n 0, 1) := by decide +kernel
theorem dX2_dueAt_1 : decode cX2_dueAt 1 = .ok (.iload_n 1, 1) := by decide +kernel
theorem dX2_dueAt_2 : decode cX2_dueAt 2 = .ok (.invokevirtual 41, 3) := by decide +kernel
theorem dX2_dueAt_5 : decode cX2_dueAt 5 = .ok (.ifCond .eq 19, 3) := by decide +kernel
theorem dX2_dueAt_8 : decode cX2_dueAt 8 = .ok (.aload_n 0, 1) := by decide +kernel
theorem dX2_dueAt_9 : decode cX2_dueAt 9 = .ok (.getfield 21, 3) := by decide +kernel
theorem dX2_dueAt_12 : decode cX2_dueAt 12 = .ok (.iload_n 1, 1) := by decide +kernel
theorem dX2_dueAt_13 : decode cX2_dueAt 13 = .ok (.iaload, 1) := by decide +kernel
theorem dX2_dueAt_14 : decode cX2_dueAt 14 = .ok (.aload_n 0, 1) := by decide +kernel
theorem dX2_dueAt_15 : decode cX2_dueAt 15 = .ok (.getfield 24, 3) := by decide +kernel
theorem dX2_dueAt_18 : decode cX2_dueAt 18 = .ok (.iload_n 1, 1) := by decide +kernel
theorem dX2_dueAt_19 : decode cX2_dueAt 19 = .ok (.iaload, 1) := by decide +kernel
theorem dX2_dueAt_20 : decode cX2_dueAt 20 = .ok (.iadd, 1) := by decide +kernel
theorem dX2_dueAt_21 : decode cX2_dueAt 21 = .ok (.goto 4, 3) := by decide +kernel
theorem dX2_dueAt_24 : decode cX2_dueAt 24 = .ok (.iconst 0, 1) := by decide +kernel
theorem dX2_dueAt_25 : decode cX2_dueAt 25 = .ok (.ireturn, 1) := by decide +kernel
theorem dX2_goneAt_0 : decode cX2_goneAt 0 = .ok (.aload_n 0, 1) := by decide +kernel
theorem dX2_goneAt_1 : decode cX2_goneAt 1 = .ok (.iload_n 1, 1) := by decide +kernel
theorem dX2_goneAt_2 : decode cX2_goneAt 2 = .ok (.invokevirtual 41, 3) := by decide +kernel
theorem dX2_goneAt_5 : decode cX2_goneAt 5 = .ok (.ifCond .eq 21, 3) := by decide +kernel
theorem dX2_goneAt_8 : decode cX2_goneAt 8 = .ok (.aload_n 0, 1) := by decide +kernel
theorem dX2_goneAt_9 : decode cX2_goneAt 9 = .ok (.getfield 21, 3) := by decide +kernel
theorem dX2_goneAt_12 : decode cX2_goneAt 12 = .ok (.iload_n 1, 1) := by decide +kernel
theorem dX2_goneAt_13 : decode cX2_goneAt 13 = .ok (.iaload, 1) := by decide +kernel
theorem dX2_goneAt_14 : decode cX2_goneAt 14 = .ok (.iconst 2, 1) := by decide +kernel
theorem dX2_goneAt_15 : decode cX2_goneAt 15 = .ok (.aload_n 0, 1) := by decide +kernel
theorem dX2_goneAt_16 : decode cX2_goneAt 16 = .ok (.getfield 24, 3) := by decide +kernel
theorem dX2_goneAt_19 : decode cX2_goneAt 19 = .ok (.iload_n 1, 1) := by decide +kernel
theorem dX2_goneAt_20 : decode cX2_goneAt 20 = .ok (.iaload, 1) := by decide +kernel
theorem dX2_goneAt_21 : decode cX2_goneAt 21 = .ok (.imul, 1) := by decide +kernel
theorem dX2_goneAt_22 : decode cX2_goneAt 22 = .ok (.iadd, 1) := by decide +kernel
theorem dX2_goneAt_23 : decode cX2_goneAt 23 = .ok (.goto 4, 3) := by decide +kernel
theorem dX2_goneAt_26 : decode cX2_goneAt 26 = .ok (.iconst 0, 1) := by decide +kernel
theorem dX2_goneAt_27 : decode cX2_goneAt 27 = .ok (.ireturn, 1) := by decide +kernel
theorem dX2_isLent_0 : decode cX2_isLent 0 = .ok (.iload_n 2, 1) := by decide +kernel
theorem dX2_isLent_1 : decode cX2_isLent 1 = .ok (.aload_n 0, 1) := by decide +kernel
theorem dX2_isLent_2 : decode cX2_isLent 2 = .ok (.iload_n 1, 1) := by decide +kernel
theorem dX2_isLent_3 : decode cX2_isLent 3 = .ok (.invokevirtual 45, 3) := by decide +kernel
theorem dX2_isLent_6 : decode cX2_isLent 6 = .ok (.if_icmp .ge 7, 3) := by decide +kernel
theorem dX2_isLent_9 : decode cX2_isLent 9 = .ok (.iconst 1, 1) := by decide +kernel
theorem dX2_isLent_10 : decode cX2_isLent 10 = .ok (.goto 4, 3) := by decide +kernel
theorem dX2_isLent_13 : decode cX2_isLent 13 = .ok (.iconst 0, 1) := by decide +kernel
theorem dX2_isLent_14 : decode cX2_isLent 14 = .ok (.ireturn, 1) := by decide +kernel
theorem dX2_dropOver_0 : decode cX2_dropOver 0 = .ok (.iconst 0, 1) := by decide +kernel
theorem dX2_dropOver_1 : decode cX2_dropOver 1 = .ok (.istore_n 2, 1) := by decide +kernel
theorem dX2_dropOver_2 : decode cX2_dropOver 2 = .ok (.iconst 0, 1) := by decide +kernel
theorem dX2_dropOver_3 : decode cX2_dropOver 3 = .ok (.istore_n 3, 1) := by decide +kernel
theorem dX2_dropOver_4 : decode cX2_dropOver 4 = .ok (.iload_n 3, 1) := by decide +kernel
theorem dX2_dropOver_5 : decode cX2_dropOver 5 = .ok (.aload_n 0, 1) := by decide +kernel
theorem dX2_dropOver_6 : decode cX2_dropOver 6 = .ok (.getfield 27, 3) := by decide +kernel
theorem dX2_dropOver_9 : decode cX2_dropOver 9 = .ok (.if_icmp .ge 81, 3) := by decide +kernel
theorem dX2_dropOver_12 : decode cX2_dropOver 12 = .ok (.iload_n 1, 1) := by decide +kernel
theorem dX2_dropOver_13 : decode cX2_dropOver 13 = .ok (.aload_n 0, 1) := by decide +kernel
theorem dX2_dropOver_14 : decode cX2_dropOver 14 = .ok (.iload_n 3, 1) := by decide +kernel
theorem dX2_dropOver_15 : decode cX2_dropOver 15 = .ok (.invokevirtual 49, 3) := by decide +kernel
theorem dX2_dropOver_18 : decode cX2_dropOver 18 = .ok (.if_icmp .ge 66, 3) := by decide +kernel
theorem dX2_dropOver_21 : decode cX2_dropOver 21 = .ok (.aload_n 0, 1) := by decide +kernel
theorem dX2_dropOver_22 : decode cX2_dropOver 22 = .ok (.getfield 9, 3) := by decide +kernel
theorem dX2_dropOver_25 : decode cX2_dropOver 25 = .ok (.iload_n 2, 1) := by decide +kernel
theorem dX2_dropOver_26 : decode cX2_dropOver 26 = .ok (.aload_n 0, 1) := by decide +kernel
theorem dX2_dropOver_27 : decode cX2_dropOver 27 = .ok (.getfield 9, 3) := by decide +kernel
theorem dX2_dropOver_30 : decode cX2_dropOver 30 = .ok (.iload_n 3, 1) := by decide +kernel
theorem dX2_dropOver_31 : decode cX2_dropOver 31 = .ok (.iaload, 1) := by decide +kernel
theorem dX2_dropOver_32 : decode cX2_dropOver 32 = .ok (.iastore, 1) := by decide +kernel
theorem dX2_dropOver_33 : decode cX2_dropOver 33 = .ok (.aload_n 0, 1) := by decide +kernel
theorem dX2_dropOver_34 : decode cX2_dropOver 34 = .ok (.getfield 15, 3) := by decide +kernel
theorem dX2_dropOver_37 : decode cX2_dropOver 37 = .ok (.iload_n 2, 1) := by decide +kernel
theorem dX2_dropOver_38 : decode cX2_dropOver 38 = .ok (.aload_n 0, 1) := by decide +kernel
theorem dX2_dropOver_39 : decode cX2_dropOver 39 = .ok (.getfield 15, 3) := by decide +kernel
theorem dX2_dropOver_42 : decode cX2_dropOver 42 = .ok (.iload_n 3, 1) := by decide +kernel
theorem dX2_dropOver_43 : decode cX2_dropOver 43 = .ok (.iaload, 1) := by decide +kernel
theorem dX2_dropOver_44 : decode cX2_dropOver 44 = .ok (.iastore, 1) := by decide +kernel
theorem dX2_dropOver_45 : decode cX2_dropOver 45 = .ok (.aload_n 0, 1) := by decide +kernel
theorem dX2_dropOver_46 : decode cX2_dropOver 46 = .ok (.getfield 18, 3) := by decide +kernel
theorem dX2_dropOver_49 : decode cX2_dropOver 49 = .ok (.iload_n 2, 1) := by decide +kernel
theorem dX2_dropOver_50 : decode cX2_dropOver 50 = .ok (.aload_n 0, 1) := by decide +kernel
theorem dX2_dropOver_51 : decode cX2_dropOver 51 = .ok (.getfield 18, 3) := by decide +kernel
theorem dX2_dropOver_54 : decode cX2_dropOver 54 = .ok (.iload_n 3, 1) := by decide +kernel
theorem dX2_dropOver_55 : decode cX2_dropOver 55 = .ok (.iaload, 1) := by decide +kernel
theorem dX2_dropOver_56 : decode cX2_dropOver 56 = .ok (.iastore, 1) := by decide +kernel
theorem dX2_dropOver_57 : decode cX2_dropOver 57 = .ok (.aload_n 0, 1) := by decide +kernel
theorem dX2_dropOver_58 : decode cX2_dropOver 58 = .ok (.getfield 21, 3) := by decide +kernel
theorem dX2_dropOver_61 : decode cX2_dropOver 61 = .ok (.iload_n 2, 1) := by decide +kernel
theorem dX2_dropOver_62 : decode cX2_dropOver 62 = .ok (.aload_n 0, 1) := by decide +kernel
theorem dX2_dropOver_63 : decode cX2_dropOver 63 = .ok (.getfield 21, 3) := by decide +kernel
theorem dX2_dropOver_66 : decode cX2_dropOver 66 = .ok (.iload_n 3, 1) := by decide +kernel
theorem dX2_dropOver_67 : decode cX2_dropOver 67 = .ok (.iaload, 1) := by decide +kernel
theorem dX2_dropOver_68 : decode cX2_dropOver 68 = .ok (.iastore, 1) := by decide +kernel
theorem dX2_dropOver_69 : decode cX2_dropOver 69 = .ok (.aload_n 0, 1) := by decide +kernel
theorem dX2_dropOver_70 : decode cX2_dropOver 70 = .ok (.getfield 24, 3) := by decide +kernel
theorem dX2_dropOver_73 : decode cX2_dropOver 73 = .ok (.iload_n 2, 1) := by decide +kernel
theorem dX2_dropOver_74 : decode cX2_dropOver 74 = .ok (.aload_n 0, 1) := by decide +kernel
theorem dX2_dropOver_75 : decode cX2_dropOver 75 = .ok (.getfield 24, 3) := by decide +kernel
theorem dX2_dropOver_78 : decode cX2_dropOver 78 = .ok (.iload_n 3, 1) := by decide +kernel
theorem dX2_dropOver_79 : decode cX2_dropOver 79 = .ok (.iaload, 1) := by decide +kernel
theorem dX2_dropOver_80 : decode cX2_dropOver 80 = .ok (.iastore, 1) := by decide +kernel
theorem dX2_dropOver_81 : decode cX2_dropOver 81 = .ok (.iinc 2 1, 3) := by decide +kernel
theorem dX2_dropOver_84 : decode cX2_dropOver 84 = .ok (.iinc 3 1, 3) := by decide +kernel
theorem dX2_dropOver_87 : decode cX2_dropOver 87 = .ok (.goto (-83), 3) := by decide +kernel
theorem dX2_dropOver_90 : decode cX2_dropOver 90 = .ok (.aload_n 0, 1) := by decide +kernel
theorem dX2_dropOver_91 : decode cX2_dropOver 91 = .ok (.iload_n 2, 1) := by decide +kernel
theorem dX2_dropOver_92 : decode cX2_dropOver 92 = .ok (.putfield 27, 3) := by decide +kernel
theorem dX2_dropOver_95 : decode cX2_dropOver 95 = .ok (.return_, 1) := by decide +kernel
theorem dX2_balanceOf_0 : decode cX2_balanceOf 0 = .ok (.iconst 0, 1) := by decide +kernel
theorem dX2_balanceOf_1 : decode cX2_balanceOf 1 = .ok (.istore_n 3, 1) := by decide +kernel
theorem dX2_balanceOf_2 : decode cX2_balanceOf 2 = .ok (.iconst 0, 1) := by decide +kernel
theorem dX2_balanceOf_3 : decode cX2_balanceOf 3 = .ok (.istore 4, 2) := by decide +kernel
theorem dX2_balanceOf_5 : decode cX2_balanceOf 5 = .ok (.iload 4, 2) := by decide +kernel
theorem dX2_balanceOf_7 : decode cX2_balanceOf 7 = .ok (.aload_n 0, 1) := by decide +kernel
theorem dX2_balanceOf_8 : decode cX2_balanceOf 8 = .ok (.getfield 27, 3) := by decide +kernel
theorem dX2_balanceOf_11 : decode cX2_balanceOf 11 = .ok (.if_icmp .ge 89, 3) := by decide +kernel
theorem dX2_balanceOf_14 : decode cX2_balanceOf 14 = .ok (.iconst 0, 1) := by decide +kernel
theorem dX2_balanceOf_15 : decode cX2_balanceOf 15 = .ok (.aload_n 0, 1) := by decide +kernel
theorem dX2_balanceOf_16 : decode cX2_balanceOf 16 = .ok (.iload 4, 2) := by decide +kernel
theorem dX2_balanceOf_18 : decode cX2_balanceOf 18 = .ok (.invokevirtual 45, 3) := by decide +kernel
theorem dX2_balanceOf_21 : decode cX2_balanceOf 21 = .ok (.iload_n 2, 1) := by decide +kernel
theorem dX2_balanceOf_22 : decode cX2_balanceOf 22 = .ok (.isub, 1) := by decide +kernel
theorem dX2_balanceOf_23 : decode cX2_balanceOf 23 = .ok (.invokestatic 52, 3) := by decide +kernel
theorem dX2_balanceOf_26 : decode cX2_balanceOf 26 = .ok (.istore 5, 2) := by decide +kernel
theorem dX2_balanceOf_28 : decode cX2_balanceOf 28 = .ok (.aload_n 0, 1) := by decide +kernel
theorem dX2_balanceOf_29 : decode cX2_balanceOf 29 = .ok (.iload 4, 2) := by decide +kernel
theorem dX2_balanceOf_31 : decode cX2_balanceOf 31 = .ok (.invokevirtual 49, 3) := by decide +kernel
theorem dX2_balanceOf_34 : decode cX2_balanceOf 34 = .ok (.aload_n 0, 1) := by decide +kernel
theorem dX2_balanceOf_35 : decode cX2_balanceOf 35 = .ok (.iload 4, 2) := by decide +kernel
theorem dX2_balanceOf_37 : decode cX2_balanceOf 37 = .ok (.invokevirtual 45, 3) := by decide +kernel
theorem dX2_balanceOf_40 : decode cX2_balanceOf 40 = .ok (.iload_n 2, 1) := by decide +kernel
theorem dX2_balanceOf_41 : decode cX2_balanceOf 41 = .ok (.invokestatic 52, 3) := by decide +kernel
theorem dX2_balanceOf_44 : decode cX2_balanceOf 44 = .ok (.isub, 1) := by decide +kernel
theorem dX2_balanceOf_45 : decode cX2_balanceOf 45 = .ok (.istore 6, 2) := by decide +kernel
theorem dX2_balanceOf_47 : decode cX2_balanceOf 47 = .ok (.iload 5, 2) := by decide +kernel
theorem dX2_balanceOf_49 : decode cX2_balanceOf 49 = .ok (.iload 6, 2) := by decide +kernel
theorem dX2_balanceOf_51 : decode cX2_balanceOf 51 = .ok (.isub, 1) := by decide +kernel
theorem dX2_balanceOf_52 : decode cX2_balanceOf 52 = .ok (.aload_n 0, 1) := by decide +kernel
theorem dX2_balanceOf_53 : decode cX2_balanceOf 53 = .ok (.getfield 18, 3) := by decide +kernel
theorem dX2_balanceOf_56 : decode cX2_balanceOf 56 = .ok (.iload 4, 2) := by decide +kernel
theorem dX2_balanceOf_58 : decode cX2_balanceOf 58 = .ok (.iaload, 1) := by decide +kernel
theorem dX2_balanceOf_59 : decode cX2_balanceOf 59 = .ok (.imul, 1) := by decide +kernel
theorem dX2_balanceOf_60 : decode cX2_balanceOf 60 = .ok (.istore 7, 2) := by decide +kernel
theorem dX2_balanceOf_62 : decode cX2_balanceOf 62 = .ok (.aload_n 0, 1) := by decide +kernel
theorem dX2_balanceOf_63 : decode cX2_balanceOf 63 = .ok (.getfield 15, 3) := by decide +kernel
theorem dX2_balanceOf_66 : decode cX2_balanceOf 66 = .ok (.iload 4, 2) := by decide +kernel
theorem dX2_balanceOf_68 : decode cX2_balanceOf 68 = .ok (.iaload, 1) := by decide +kernel
theorem dX2_balanceOf_69 : decode cX2_balanceOf 69 = .ok (.iload_n 1, 1) := by decide +kernel
theorem dX2_balanceOf_70 : decode cX2_balanceOf 70 = .ok (.if_icmp .ne 8, 3) := by decide +kernel
theorem dX2_balanceOf_73 : decode cX2_balanceOf 73 = .ok (.iload_n 3, 1) := by decide +kernel
theorem dX2_balanceOf_74 : decode cX2_balanceOf 74 = .ok (.iload 7, 2) := by decide +kernel
theorem dX2_balanceOf_76 : decode cX2_balanceOf 76 = .ok (.iadd, 1) := by decide +kernel
theorem dX2_balanceOf_77 : decode cX2_balanceOf 77 = .ok (.istore_n 3, 1) := by decide +kernel
theorem dX2_balanceOf_78 : decode cX2_balanceOf 78 = .ok (.aload_n 0, 1) := by decide +kernel
theorem dX2_balanceOf_79 : decode cX2_balanceOf 79 = .ok (.getfield 9, 3) := by decide +kernel
theorem dX2_balanceOf_82 : decode cX2_balanceOf 82 = .ok (.iload 4, 2) := by decide +kernel
theorem dX2_balanceOf_84 : decode cX2_balanceOf 84 = .ok (.iaload, 1) := by decide +kernel
theorem dX2_balanceOf_85 : decode cX2_balanceOf 85 = .ok (.iload_n 1, 1) := by decide +kernel
theorem dX2_balanceOf_86 : decode cX2_balanceOf 86 = .ok (.if_icmp .ne 8, 3) := by decide +kernel
theorem dX2_balanceOf_89 : decode cX2_balanceOf 89 = .ok (.iload_n 3, 1) := by decide +kernel
theorem dX2_balanceOf_90 : decode cX2_balanceOf 90 = .ok (.iload 7, 2) := by decide +kernel
theorem dX2_balanceOf_92 : decode cX2_balanceOf 92 = .ok (.isub, 1) := by decide +kernel
theorem dX2_balanceOf_93 : decode cX2_balanceOf 93 = .ok (.istore_n 3, 1) := by decide +kernel
theorem dX2_balanceOf_94 : decode cX2_balanceOf 94 = .ok (.iinc 4 1, 3) := by decide +kernel
theorem dX2_balanceOf_97 : decode cX2_balanceOf 97 = .ok (.goto (-92), 3) := by decide +kernel
theorem dX2_balanceOf_100 : decode cX2_balanceOf 100 = .ok (.iload_n 3, 1) := by decide +kernel
theorem dX2_balanceOf_101 : decode cX2_balanceOf 101 = .ok (.ireturn, 1) := by decide +kernel
theorem dX3_init_0 : decode cX3_init 0 = .ok (.aload_n 0, 1) := by decide +kernel
theorem dX3_init_1 : decode cX3_init 1 = .ok (.invokespecial 3, 3) := by decide +kernel
theorem dX3_init_4 : decode cX3_init 4 = .ok (.aload_n 0, 1) := by decide +kernel
theorem dX3_init_5 : decode cX3_init 5 = .ok (.bipush 6, 2) := by decide +kernel
theorem dX3_init_7 : decode cX3_init 7 = .ok (.newarray .int, 2) := by decide +kernel
theorem dX3_init_9 : decode cX3_init 9 = .ok (.putfield 9, 3) := by decide +kernel
theorem dX3_init_12 : decode cX3_init 12 = .ok (.aload_n 0, 1) := by decide +kernel
theorem dX3_init_13 : decode cX3_init 13 = .ok (.bipush 6, 2) := by decide +kernel
theorem dX3_init_15 : decode cX3_init 15 = .ok (.newarray .int, 2) := by decide +kernel
theorem dX3_init_17 : decode cX3_init 17 = .ok (.putfield 15, 3) := by decide +kernel
theorem dX3_init_20 : decode cX3_init 20 = .ok (.return_, 1) := by decide +kernel
theorem dX3_clear_0 : decode cX3_clear 0 = .ok (.aload_n 0, 1) := by decide +kernel
theorem dX3_clear_1 : decode cX3_clear 1 = .ok (.iconst 0, 1) := by decide +kernel
theorem dX3_clear_2 : decode cX3_clear 2 = .ok (.putfield 18, 3) := by decide +kernel
theorem dX3_clear_5 : decode cX3_clear 5 = .ok (.return_, 1) := by decide +kernel
theorem dX3_copyFrom_0 : decode cX3_copyFrom 0 = .ok (.aload_n 0, 1) := by decide +kernel
theorem dX3_copyFrom_1 : decode cX3_copyFrom 1 = .ok (.aload_n 1, 1) := by decide +kernel
theorem dX3_copyFrom_2 : decode cX3_copyFrom 2 = .ok (.getfield 18, 3) := by decide +kernel
theorem dX3_copyFrom_5 : decode cX3_copyFrom 5 = .ok (.putfield 18, 3) := by decide +kernel
theorem dX3_copyFrom_8 : decode cX3_copyFrom 8 = .ok (.aload_n 1, 1) := by decide +kernel
theorem dX3_copyFrom_9 : decode cX3_copyFrom 9 = .ok (.getfield 9, 3) := by decide +kernel
theorem dX3_copyFrom_12 : decode cX3_copyFrom 12 = .ok (.iconst 0, 1) := by decide +kernel
theorem dX3_copyFrom_13 : decode cX3_copyFrom 13 = .ok (.aload_n 0, 1) := by decide +kernel
theorem dX3_copyFrom_14 : decode cX3_copyFrom 14 = .ok (.getfield 9, 3) := by decide +kernel
theorem dX3_copyFrom_17 : decode cX3_copyFrom 17 = .ok (.iconst 0, 1) := by decide +kernel
theorem dX3_copyFrom_18 : decode cX3_copyFrom 18 = .ok (.bipush 6, 2) := by decide +kernel
theorem dX3_copyFrom_20 : decode cX3_copyFrom 20 = .ok (.invokestatic 22, 3) := by decide +kernel
theorem dX3_copyFrom_23 : decode cX3_copyFrom 23 = .ok (.aload_n 1, 1) := by decide +kernel
theorem dX3_copyFrom_24 : decode cX3_copyFrom 24 = .ok (.getfield 15, 3) := by decide +kernel
theorem dX3_copyFrom_27 : decode cX3_copyFrom 27 = .ok (.iconst 0, 1) := by decide +kernel
theorem dX3_copyFrom_28 : decode cX3_copyFrom 28 = .ok (.aload_n 0, 1) := by decide +kernel
theorem dX3_copyFrom_29 : decode cX3_copyFrom 29 = .ok (.getfield 15, 3) := by decide +kernel
theorem dX3_copyFrom_32 : decode cX3_copyFrom 32 = .ok (.iconst 0, 1) := by decide +kernel
theorem dX3_copyFrom_33 : decode cX3_copyFrom 33 = .ok (.bipush 6, 2) := by decide +kernel
theorem dX3_copyFrom_35 : decode cX3_copyFrom 35 = .ok (.invokestatic 22, 3) := by decide +kernel
theorem dX3_copyFrom_38 : decode cX3_copyFrom 38 = .ok (.return_, 1) := by decide +kernel
theorem dX3_has_0 : decode cX3_has 0 = .ok (.iload_n 1, 1) := by decide +kernel
theorem dX3_has_1 : decode cX3_has 1 = .ok (.ifCond .lt 15, 3) := by decide +kernel
theorem dX3_has_4 : decode cX3_has 4 = .ok (.iload_n 1, 1) := by decide +kernel
theorem dX3_has_5 : decode cX3_has 5 = .ok (.aload_n 0, 1) := by decide +kernel
theorem dX3_has_6 : decode cX3_has 6 = .ok (.getfield 18, 3) := by decide +kernel
theorem dX3_has_9 : decode cX3_has 9 = .ok (.if_icmp .ge 7, 3) := by decide +kernel
theorem dX3_has_12 : decode cX3_has 12 = .ok (.iconst 1, 1) := by decide +kernel
theorem dX3_has_13 : decode cX3_has 13 = .ok (.goto 4, 3) := by decide +kernel
theorem dX3_has_16 : decode cX3_has 16 = .ok (.iconst 0, 1) := by decide +kernel
theorem dX3_has_17 : decode cX3_has 17 = .ok (.ireturn, 1) := by decide +kernel
theorem dX3_isFull_0 : decode cX3_isFull 0 = .ok (.aload_n 0, 1) := by decide +kernel
theorem dX3_isFull_1 : decode cX3_isFull 1 = .ok (.getfield 18, 3) := by decide +kernel
theorem dX3_isFull_4 : decode cX3_isFull 4 = .ok (.bipush 6, 2) := by decide +kernel
theorem dX3_isFull_6 : decode cX3_isFull 6 = .ok (.if_icmp .lt 7, 3) := by decide +kernel
theorem dX3_isFull_9 : decode cX3_isFull 9 = .ok (.iconst 1, 1) := by decide +kernel
theorem dX3_isFull_10 : decode cX3_isFull 10 = .ok (.goto 4, 3) := by decide +kernel
theorem dX3_isFull_13 : decode cX3_isFull 13 = .ok (.iconst 0, 1) := by decide +kernel
theorem dX3_isFull_14 : decode cX3_isFull 14 = .ok (.ireturn, 1) := by decide +kernel
theorem dX3_isUp_0 : decode cX3_isUp 0 = .ok (.aload_n 0, 1) := by decide +kernel
theorem dX3_isUp_1 : decode cX3_isUp 1 = .ok (.iload_n 1, 1) := by decide +kernel
theorem dX3_isUp_2 : decode cX3_isUp 2 = .ok (.invokevirtual 28, 3) := by decide +kernel
theorem dX3_isUp_5 : decode cX3_isUp 5 = .ok (.ifCond .eq 17, 3) := by decide +kernel
theorem dX3_isUp_8 : decode cX3_isUp 8 = .ok (.aload_n 0, 1) := by decide +kernel
theorem dX3_isUp_9 : decode cX3_isUp 9 = .ok (.getfield 15, 3) := by decide +kernel
theorem dX3_isUp_12 : decode cX3_isUp 12 = .ok (.iload_n 1, 1) := by decide +kernel
theorem dX3_isUp_13 : decode cX3_isUp 13 = .ok (.iaload, 1) := by decide +kernel
theorem dX3_isUp_14 : decode cX3_isUp 14 = .ok (.iconst 1, 1) := by decide +kernel
theorem dX3_isUp_15 : decode cX3_isUp 15 = .ok (.if_icmp .ne 7, 3) := by decide +kernel
theorem dX3_isUp_18 : decode cX3_isUp 18 = .ok (.iconst 1, 1) := by decide +kernel
theorem dX3_isUp_19 : decode cX3_isUp 19 = .ok (.goto 4, 3) := by decide +kernel
theorem dX3_isUp_22 : decode cX3_isUp 22 = .ok (.iconst 0, 1) := by decide +kernel
theorem dX3_isUp_23 : decode cX3_isUp 23 = .ok (.ireturn, 1) := by decide +kernel
theorem dX3_add_0 : decode cX3_add 0 = .ok (.aload_n 0, 1) := by decide +kernel
theorem dX3_add_1 : decode cX3_add 1 = .ok (.invokevirtual 32, 3) := by decide +kernel
theorem dX3_add_4 : decode cX3_add 4 = .ok (.ifCond .eq 4, 3) := by decide +kernel
theorem dX3_add_7 : decode cX3_add 7 = .ok (.return_, 1) := by decide +kernel
theorem dX3_add_8 : decode cX3_add 8 = .ok (.aload_n 0, 1) := by decide +kernel
theorem dX3_add_9 : decode cX3_add 9 = .ok (.getfield 9, 3) := by decide +kernel
theorem dX3_add_12 : decode cX3_add 12 = .ok (.aload_n 0, 1) := by decide +kernel
theorem dX3_add_13 : decode cX3_add 13 = .ok (.getfield 18, 3) := by decide +kernel
theorem dX3_add_16 : decode cX3_add 16 = .ok (.iload_n 1, 1) := by decide +kernel
theorem dX3_add_17 : decode cX3_add 17 = .ok (.iastore, 1) := by decide +kernel
theorem dX3_add_18 : decode cX3_add 18 = .ok (.aload_n 0, 1) := by decide +kernel
theorem dX3_add_19 : decode cX3_add 19 = .ok (.getfield 15, 3) := by decide +kernel
theorem dX3_add_22 : decode cX3_add 22 = .ok (.aload_n 0, 1) := by decide +kernel
theorem dX3_add_23 : decode cX3_add 23 = .ok (.getfield 18, 3) := by decide +kernel
theorem dX3_add_26 : decode cX3_add 26 = .ok (.iconst 1, 1) := by decide +kernel
theorem dX3_add_27 : decode cX3_add 27 = .ok (.iastore, 1) := by decide +kernel
theorem dX3_add_28 : decode cX3_add 28 = .ok (.aload_n 0, 1) := by decide +kernel
theorem dX3_add_29 : decode cX3_add 29 = .ok (.dup, 1) := by decide +kernel
theorem dX3_add_30 : decode cX3_add 30 = .ok (.getfield 18, 3) := by decide +kernel
theorem dX3_add_33 : decode cX3_add 33 = .ok (.iconst 1, 1) := by decide +kernel
theorem dX3_add_34 : decode cX3_add 34 = .ok (.iadd, 1) := by decide +kernel
theorem dX3_add_35 : decode cX3_add 35 = .ok (.putfield 18, 3) := by decide +kernel
theorem dX3_add_38 : decode cX3_add 38 = .ok (.return_, 1) := by decide +kernel
theorem dX3_turn_0 : decode cX3_turn 0 = .ok (.aload_n 0, 1) := by decide +kernel
theorem dX3_turn_1 : decode cX3_turn 1 = .ok (.iload_n 1, 1) := by decide +kernel
theorem dX3_turn_2 : decode cX3_turn 2 = .ok (.invokevirtual 28, 3) := by decide +kernel
theorem dX3_turn_5 : decode cX3_turn 5 = .ok (.ifCond .eq 18, 3) := by decide +kernel
theorem dX3_turn_8 : decode cX3_turn 8 = .ok (.aload_n 0, 1) := by decide +kernel
theorem dX3_turn_9 : decode cX3_turn 9 = .ok (.getfield 15, 3) := by decide +kernel
theorem dX3_turn_12 : decode cX3_turn 12 = .ok (.iload_n 1, 1) := by decide +kernel
theorem dX3_turn_13 : decode cX3_turn 13 = .ok (.iload_n 2, 1) := by decide +kernel
theorem dX3_turn_14 : decode cX3_turn 14 = .ok (.ifCond .eq 7, 3) := by decide +kernel
theorem dX3_turn_17 : decode cX3_turn 17 = .ok (.iconst 1, 1) := by decide +kernel
theorem dX3_turn_18 : decode cX3_turn 18 = .ok (.goto 4, 3) := by decide +kernel
theorem dX3_turn_21 : decode cX3_turn 21 = .ok (.iconst 0, 1) := by decide +kernel
theorem dX3_turn_22 : decode cX3_turn 22 = .ok (.iastore, 1) := by decide +kernel
theorem dX3_turn_23 : decode cX3_turn 23 = .ok (.return_, 1) := by decide +kernel
theorem dX4_init_0 : decode cX4_init 0 = .ok (.aload_n 0, 1) := by decide +kernel
theorem dX4_init_1 : decode cX4_init 1 = .ok (.invokespecial 1, 3) := by decide +kernel
theorem dX4_init_4 : decode cX4_init 4 = .ok (.aload_n 0, 1) := by decide +kernel
theorem dX4_init_5 : decode cX4_init 5 = .ok (.sipush 128, 3) := by decide +kernel
theorem dX4_init_8 : decode cX4_init 8 = .ok (.newarray .byte, 2) := by decide +kernel
theorem dX4_init_10 : decode cX4_init 10 = .ok (.putfield 9, 3) := by decide +kernel
theorem dX4_init_13 : decode cX4_init 13 = .ok (.return_, 1) := by decide +kernel
theorem dX4_clear_0 : decode cX4_clear 0 = .ok (.aload_n 0, 1) := by decide +kernel
theorem dX4_clear_1 : decode cX4_clear 1 = .ok (.iconst 0, 1) := by decide +kernel
theorem dX4_clear_2 : decode cX4_clear 2 = .ok (.putfield 13, 3) := by decide +kernel
theorem dX4_clear_5 : decode cX4_clear 5 = .ok (.return_, 1) := by decide +kernel
theorem dX4_put_0 : decode cX4_put 0 = .ok (.aload_n 0, 1) := by decide +kernel
theorem dX4_put_1 : decode cX4_put 1 = .ok (.getfield 13, 3) := by decide +kernel
theorem dX4_put_4 : decode cX4_put 4 = .ok (.sipush 128, 3) := by decide +kernel
theorem dX4_put_7 : decode cX4_put 7 = .ok (.if_icmp .ge 24, 3) := by decide +kernel
theorem dX4_put_10 : decode cX4_put 10 = .ok (.aload_n 0, 1) := by decide +kernel
theorem dX4_put_11 : decode cX4_put 11 = .ok (.getfield 9, 3) := by decide +kernel
theorem dX4_put_14 : decode cX4_put 14 = .ok (.aload_n 0, 1) := by decide +kernel
theorem dX4_put_15 : decode cX4_put 15 = .ok (.getfield 13, 3) := by decide +kernel
theorem dX4_put_18 : decode cX4_put 18 = .ok (.iload_n 1, 1) := by decide +kernel
theorem dX4_put_19 : decode cX4_put 19 = .ok (.i2b, 1) := by decide +kernel
theorem dX4_put_20 : decode cX4_put 20 = .ok (.bastore, 1) := by decide +kernel
theorem dX4_put_21 : decode cX4_put 21 = .ok (.aload_n 0, 1) := by decide +kernel
theorem dX4_put_22 : decode cX4_put 22 = .ok (.dup, 1) := by decide +kernel
theorem dX4_put_23 : decode cX4_put 23 = .ok (.getfield 13, 3) := by decide +kernel
theorem dX4_put_26 : decode cX4_put 26 = .ok (.iconst 1, 1) := by decide +kernel
theorem dX4_put_27 : decode cX4_put 27 = .ok (.iadd, 1) := by decide +kernel
theorem dX4_put_28 : decode cX4_put 28 = .ok (.putfield 13, 3) := by decide +kernel
theorem dX4_put_31 : decode cX4_put 31 = .ok (.return_, 1) := by decide +kernel
theorem dX4_putMachine_0 : decode cX4_putMachine 0 = .ok (.aload_n 1, 1) := by decide +kernel
theorem dX4_putMachine_1 : decode cX4_putMachine 1 = .ok (.getfield 17, 3) := by decide +kernel
theorem dX4_putMachine_4 : decode cX4_putMachine 4 = .ok (.iload_n 2, 1) := by decide +kernel
theorem dX4_putMachine_5 : decode cX4_putMachine 5 = .ok (.invokevirtual 23, 3) := by decide +kernel
theorem dX4_putMachine_8 : decode cX4_putMachine 8 = .ok (.ifCond .ne 10, 3) := by decide +kernel
theorem dX4_putMachine_11 : decode cX4_putMachine 11 = .ok (.aload_n 0, 1) := by decide +kernel
theorem dX4_putMachine_12 : decode cX4_putMachine 12 = .ok (.bipush 120, 2) := by decide +kernel
theorem dX4_putMachine_14 : decode cX4_putMachine 14 = .ok (.invokevirtual 29, 3) := by decide +kernel
theorem dX4_putMachine_17 : decode cX4_putMachine 17 = .ok (.return_, 1) := by decide +kernel
theorem dX4_putMachine_18 : decode cX4_putMachine 18 = .ok (.aload_n 0, 1) := by decide +kernel
theorem dX4_putMachine_19 : decode cX4_putMachine 19 = .ok (.getfield 13, 3) := by decide +kernel
theorem dX4_putMachine_22 : decode cX4_putMachine 22 = .ok (.istore_n 3, 1) := by decide +kernel
theorem dX4_putMachine_23 : decode cX4_putMachine 23 = .ok (.iconst 0, 1) := by decide +kernel
theorem dX4_putMachine_24 : decode cX4_putMachine 24 = .ok (.istore 4, 2) := by decide +kernel
theorem dX4_putMachine_26 : decode cX4_putMachine 26 = .ok (.iload 4, 2) := by decide +kernel
theorem dX4_putMachine_28 : decode cX4_putMachine 28 = .ok (.aload_n 1, 1) := by decide +kernel
theorem dX4_putMachine_29 : decode cX4_putMachine 29 = .ok (.getfield 33, 3) := by decide +kernel
theorem dX4_putMachine_32 : decode cX4_putMachine 32 = .ok (.getfield 37, 3) := by decide +kernel
theorem dX4_putMachine_35 : decode cX4_putMachine 35 = .ok (.if_icmp .ge 42, 3) := by decide +kernel
theorem dX4_putMachine_38 : decode cX4_putMachine 38 = .ok (.aload_n 1, 1) := by decide +kernel
theorem dX4_putMachine_39 : decode cX4_putMachine 39 = .ok (.getfield 33, 3) := by decide +kernel
theorem dX4_putMachine_42 : decode cX4_putMachine 42 = .ok (.iload 4, 2) := by decide +kernel
theorem dX4_putMachine_44 : decode cX4_putMachine 44 = .ok (.iload_n 2, 1) := by decide +kernel
theorem dX4_putMachine_45 : decode cX4_putMachine 45 = .ok (.invokevirtual 42, 3) := by decide +kernel
theorem dX4_putMachine_48 : decode cX4_putMachine 48 = .ok (.ifCond .eq 23, 3) := by decide +kernel
theorem dX4_putMachine_51 : decode cX4_putMachine 51 = .ok (.aload_n 0, 1) := by decide +kernel
theorem dX4_putMachine_52 : decode cX4_putMachine 52 = .ok (.getfield 13, 3) := by decide +kernel
theorem dX4_putMachine_55 : decode cX4_putMachine 55 = .ok (.iload_n 3, 1) := by decide +kernel
theorem dX4_putMachine_56 : decode cX4_putMachine 56 = .ok (.if_icmp .le 9, 3) := by decide +kernel
theorem dX4_putMachine_59 : decode cX4_putMachine 59 = .ok (.aload_n 0, 1) := by decide +kernel
theorem dX4_putMachine_60 : decode cX4_putMachine 60 = .ok (.bipush 44, 2) := by decide +kernel
theorem dX4_putMachine_62 : decode cX4_putMachine 62 = .ok (.invokevirtual 29, 3) := by decide +kernel
theorem dX4_putMachine_65 : decode cX4_putMachine 65 = .ok (.aload_n 0, 1) := by decide +kernel
theorem dX4_putMachine_66 : decode cX4_putMachine 66 = .ok (.iload 4, 2) := by decide +kernel
theorem dX4_putMachine_68 : decode cX4_putMachine 68 = .ok (.invokevirtual 46, 3) := by decide +kernel
theorem dX4_putMachine_71 : decode cX4_putMachine 71 = .ok (.iinc 4 1, 3) := by decide +kernel
theorem dX4_putMachine_74 : decode cX4_putMachine 74 = .ok (.goto (-48), 3) := by decide +kernel
theorem dX4_putMachine_77 : decode cX4_putMachine 77 = .ok (.aload_n 0, 1) := by decide +kernel
theorem dX4_putMachine_78 : decode cX4_putMachine 78 = .ok (.getfield 13, 3) := by decide +kernel
theorem dX4_putMachine_81 : decode cX4_putMachine 81 = .ok (.iload_n 3, 1) := by decide +kernel
theorem dX4_putMachine_82 : decode cX4_putMachine 82 = .ok (.if_icmp .ne 9, 3) := by decide +kernel
theorem dX4_putMachine_85 : decode cX4_putMachine 85 = .ok (.aload_n 0, 1) := by decide +kernel
theorem dX4_putMachine_86 : decode cX4_putMachine 86 = .ok (.bipush 45, 2) := by decide +kernel
theorem dX4_putMachine_88 : decode cX4_putMachine 88 = .ok (.invokevirtual 29, 3) := by decide +kernel
theorem dX4_putMachine_91 : decode cX4_putMachine 91 = .ok (.return_, 1) := by decide +kernel
theorem dX4_putNumber_0 : decode cX4_putNumber 0 = .ok (.iload_n 1, 1) := by decide +kernel
theorem dX4_putNumber_1 : decode cX4_putNumber 1 = .ok (.bipush 10, 2) := by decide +kernel
theorem dX4_putNumber_3 : decode cX4_putNumber 3 = .ok (.if_icmp .lt 14, 3) := by decide +kernel
theorem dX4_putNumber_6 : decode cX4_putNumber 6 = .ok (.aload_n 0, 1) := by decide +kernel
theorem dX4_putNumber_7 : decode cX4_putNumber 7 = .ok (.bipush 48, 2) := by decide +kernel
theorem dX4_putNumber_9 : decode cX4_putNumber 9 = .ok (.iload_n 1, 1) := by decide +kernel
theorem dX4_putNumber_10 : decode cX4_putNumber 10 = .ok (.bipush 10, 2) := by decide +kernel
theorem dX4_putNumber_12 : decode cX4_putNumber 12 = .ok (.idiv, 1) := by decide +kernel
theorem dX4_putNumber_13 : decode cX4_putNumber 13 = .ok (.iadd, 1) := by decide +kernel
theorem dX4_putNumber_14 : decode cX4_putNumber 14 = .ok (.invokevirtual 29, 3) := by decide +kernel
theorem dX4_putNumber_17 : decode cX4_putNumber 17 = .ok (.aload_n 0, 1) := by decide +kernel
theorem dX4_putNumber_18 : decode cX4_putNumber 18 = .ok (.bipush 48, 2) := by decide +kernel
theorem dX4_putNumber_20 : decode cX4_putNumber 20 = .ok (.iload_n 1, 1) := by decide +kernel
theorem dX4_putNumber_21 : decode cX4_putNumber 21 = .ok (.bipush 10, 2) := by decide +kernel
theorem dX4_putNumber_23 : decode cX4_putNumber 23 = .ok (.irem, 1) := by decide +kernel
theorem dX4_putNumber_24 : decode cX4_putNumber 24 = .ok (.iadd, 1) := by decide +kernel
theorem dX4_putNumber_25 : decode cX4_putNumber 25 = .ok (.invokevirtual 29, 3) := by decide +kernel
theorem dX4_putNumber_28 : decode cX4_putNumber 28 = .ok (.return_, 1) := by decide +kernel
theorem dX5_init_0 : decode cX5_init 0 = .ok (.aload_n 0, 1) := by decide +kernel
theorem dX5_init_1 : decode cX5_init 1 = .ok (.invokespecial 3, 3) := by decide +kernel
theorem dX5_init_4 : decode cX5_init 4 = .ok (.aload_n 0, 1) := by decide +kernel
theorem dX5_init_5 : decode cX5_init 5 = .ok (.new 9, 3) := by decide +kernel
theorem dX5_init_8 : decode cX5_init 8 = .ok (.dup, 1) := by decide +kernel
theorem dX5_init_9 : decode cX5_init 9 = .ok (.invokespecial 11, 3) := by decide +kernel
theorem dX5_init_12 : decode cX5_init 12 = .ok (.putfield 12, 3) := by decide +kernel
theorem dX5_init_15 : decode cX5_init 15 = .ok (.aload_n 0, 1) := by decide +kernel
theorem dX5_init_16 : decode cX5_init 16 = .ok (.new 18, 3) := by decide +kernel
theorem dX5_init_19 : decode cX5_init 19 = .ok (.dup, 1) := by decide +kernel
theorem dX5_init_20 : decode cX5_init 20 = .ok (.invokespecial 20, 3) := by decide +kernel
theorem dX5_init_23 : decode cX5_init 23 = .ok (.putfield 21, 3) := by decide +kernel
theorem dX5_init_26 : decode cX5_init 26 = .ok (.aload_n 0, 1) := by decide +kernel
theorem dX5_init_27 : decode cX5_init 27 = .ok (.new 25, 3) := by decide +kernel
theorem dX5_init_30 : decode cX5_init 30 = .ok (.dup, 1) := by decide +kernel
theorem dX5_init_31 : decode cX5_init 31 = .ok (.invokespecial 27, 3) := by decide +kernel
theorem dX5_init_34 : decode cX5_init 34 = .ok (.putfield 28, 3) := by decide +kernel
theorem dX5_init_37 : decode cX5_init 37 = .ok (.aload_n 0, 1) := by decide +kernel
theorem dX5_init_38 : decode cX5_init 38 = .ok (.new 32, 3) := by decide +kernel
theorem dX5_init_41 : decode cX5_init 41 = .ok (.dup, 1) := by decide +kernel
theorem dX5_init_42 : decode cX5_init 42 = .ok (.invokespecial 34, 3) := by decide +kernel
theorem dX5_init_45 : decode cX5_init 45 = .ok (.putfield 35, 3) := by decide +kernel
theorem dX5_init_48 : decode cX5_init 48 = .ok (.aload_n 0, 1) := by decide +kernel
theorem dX5_init_49 : decode cX5_init 49 = .ok (.new 39, 3) := by decide +kernel
theorem dX5_init_52 : decode cX5_init 52 = .ok (.dup, 1) := by decide +kernel
theorem dX5_init_53 : decode cX5_init 53 = .ok (.invokespecial 41, 3) := by decide +kernel
theorem dX5_init_56 : decode cX5_init 56 = .ok (.putfield 42, 3) := by decide +kernel
theorem dX5_init_59 : decode cX5_init 59 = .ok (.aload_n 0, 1) := by decide +kernel
theorem dX5_init_60 : decode cX5_init 60 = .ok (.iconst 3, 1) := by decide +kernel
theorem dX5_init_61 : decode cX5_init 61 = .ok (.newarray .int, 2) := by decide +kernel
theorem dX5_init_63 : decode cX5_init 63 = .ok (.putfield 46, 3) := by decide +kernel
theorem dX5_init_66 : decode cX5_init 66 = .ok (.aload_n 0, 1) := by decide +kernel
theorem dX5_init_67 : decode cX5_init 67 = .ok (.invokevirtual 50, 3) := by decide +kernel
theorem dX5_init_70 : decode cX5_init 70 = .ok (.return_, 1) := by decide +kernel
theorem dX5_clear_0 : decode cX5_clear 0 = .ok (.aload_n 0, 1) := by decide +kernel
theorem dX5_clear_1 : decode cX5_clear 1 = .ok (.getfield 12, 3) := by decide +kernel
theorem dX5_clear_4 : decode cX5_clear 4 = .ok (.invokevirtual 53, 3) := by decide +kernel
theorem dX5_clear_7 : decode cX5_clear 7 = .ok (.aload_n 0, 1) := by decide +kernel
theorem dX5_clear_8 : decode cX5_clear 8 = .ok (.getfield 21, 3) := by decide +kernel
theorem dX5_clear_11 : decode cX5_clear 11 = .ok (.invokevirtual 54, 3) := by decide +kernel
theorem dX5_clear_14 : decode cX5_clear 14 = .ok (.aload_n 0, 1) := by decide +kernel
theorem dX5_clear_15 : decode cX5_clear 15 = .ok (.getfield 28, 3) := by decide +kernel
theorem dX5_clear_18 : decode cX5_clear 18 = .ok (.invokevirtual 55, 3) := by decide +kernel
theorem dX5_clear_21 : decode cX5_clear 21 = .ok (.aload_n 0, 1) := by decide +kernel
theorem dX5_clear_22 : decode cX5_clear 22 = .ok (.getfield 35, 3) := by decide +kernel
theorem dX5_clear_25 : decode cX5_clear 25 = .ok (.invokevirtual 56, 3) := by decide +kernel
theorem dX5_clear_28 : decode cX5_clear 28 = .ok (.getstatic 57, 3) := by decide +kernel
theorem dX5_clear_31 : decode cX5_clear 31 = .ok (.iconst 0, 1) := by decide +kernel
theorem dX5_clear_32 : decode cX5_clear 32 = .ok (.aload_n 0, 1) := by decide +kernel
theorem dX5_clear_33 : decode cX5_clear 33 = .ok (.getfield 46, 3) := by decide +kernel
theorem dX5_clear_36 : decode cX5_clear 36 = .ok (.iconst 0, 1) := by decide +kernel
theorem dX5_clear_37 : decode cX5_clear 37 = .ok (.iconst 3, 1) := by decide +kernel
theorem dX5_clear_38 : decode cX5_clear 38 = .ok (.invokestatic 60, 3) := by decide +kernel
theorem dX5_clear_41 : decode cX5_clear 41 = .ok (.aload_n 0, 1) := by decide +kernel
theorem dX5_clear_42 : decode cX5_clear 42 = .ok (.iconst 0, 1) := by decide +kernel
theorem dX5_clear_43 : decode cX5_clear 43 = .ok (.putfield 66, 3) := by decide +kernel
theorem dX5_clear_46 : decode cX5_clear 46 = .ok (.aload_n 0, 1) := by decide +kernel
theorem dX5_clear_47 : decode cX5_clear 47 = .ok (.iconst 0, 1) := by decide +kernel
theorem dX5_clear_48 : decode cX5_clear 48 = .ok (.putfield 70, 3) := by decide +kernel
theorem dX5_clear_51 : decode cX5_clear 51 = .ok (.aload_n 0, 1) := by decide +kernel
theorem dX5_clear_52 : decode cX5_clear 52 = .ok (.iconst 0, 1) := by decide +kernel
theorem dX5_clear_53 : decode cX5_clear 53 = .ok (.putfield 73, 3) := by decide +kernel
theorem dX5_clear_56 : decode cX5_clear 56 = .ok (.return_, 1) := by decide +kernel
theorem dX5_copyFrom_0 : decode cX5_copyFrom 0 = .ok (.aload_n 0, 1) := by decide +kernel
theorem dX5_copyFrom_1 : decode cX5_copyFrom 1 = .ok (.getfield 12, 3) := by decide +kernel
theorem dX5_copyFrom_4 : decode cX5_copyFrom 4 = .ok (.aload_n 1, 1) := by decide +kernel
theorem dX5_copyFrom_5 : decode cX5_copyFrom 5 = .ok (.getfield 12, 3) := by decide +kernel
theorem dX5_copyFrom_8 : decode cX5_copyFrom 8 = .ok (.invokevirtual 76, 3) := by decide +kernel
theorem dX5_copyFrom_11 : decode cX5_copyFrom 11 = .ok (.aload_n 0, 1) := by decide +kernel
theorem dX5_copyFrom_12 : decode cX5_copyFrom 12 = .ok (.getfield 21, 3) := by decide +kernel
theorem dX5_copyFrom_15 : decode cX5_copyFrom 15 = .ok (.aload_n 1, 1) := by decide +kernel
theorem dX5_copyFrom_16 : decode cX5_copyFrom 16 = .ok (.getfield 21, 3) := by decide +kernel
theorem dX5_copyFrom_19 : decode cX5_copyFrom 19 = .ok (.invokevirtual 80, 3) := by decide +kernel
theorem dX5_copyFrom_22 : decode cX5_copyFrom 22 = .ok (.aload_n 0, 1) := by decide +kernel
theorem dX5_copyFrom_23 : decode cX5_copyFrom 23 = .ok (.getfield 28, 3) := by decide +kernel
theorem dX5_copyFrom_26 : decode cX5_copyFrom 26 = .ok (.aload_n 1, 1) := by decide +kernel
theorem dX5_copyFrom_27 : decode cX5_copyFrom 27 = .ok (.getfield 28, 3) := by decide +kernel
theorem dX5_copyFrom_30 : decode cX5_copyFrom 30 = .ok (.invokevirtual 83, 3) := by decide +kernel
theorem dX5_copyFrom_33 : decode cX5_copyFrom 33 = .ok (.aload_n 0, 1) := by decide +kernel
theorem dX5_copyFrom_34 : decode cX5_copyFrom 34 = .ok (.getfield 35, 3) := by decide +kernel
theorem dX5_copyFrom_37 : decode cX5_copyFrom 37 = .ok (.aload_n 1, 1) := by decide +kernel
theorem dX5_copyFrom_38 : decode cX5_copyFrom 38 = .ok (.getfield 35, 3) := by decide +kernel
theorem dX5_copyFrom_41 : decode cX5_copyFrom 41 = .ok (.invokevirtual 86, 3) := by decide +kernel
theorem dX5_copyFrom_44 : decode cX5_copyFrom 44 = .ok (.aload_n 1, 1) := by decide +kernel
theorem dX5_copyFrom_45 : decode cX5_copyFrom 45 = .ok (.getfield 46, 3) := by decide +kernel
theorem dX5_copyFrom_48 : decode cX5_copyFrom 48 = .ok (.iconst 0, 1) := by decide +kernel
theorem dX5_copyFrom_49 : decode cX5_copyFrom 49 = .ok (.aload_n 0, 1) := by decide +kernel
theorem dX5_copyFrom_50 : decode cX5_copyFrom 50 = .ok (.getfield 46, 3) := by decide +kernel
theorem dX5_copyFrom_53 : decode cX5_copyFrom 53 = .ok (.iconst 0, 1) := by decide +kernel
theorem dX5_copyFrom_54 : decode cX5_copyFrom 54 = .ok (.iconst 3, 1) := by decide +kernel
theorem dX5_copyFrom_55 : decode cX5_copyFrom 55 = .ok (.invokestatic 60, 3) := by decide +kernel
theorem dX5_copyFrom_58 : decode cX5_copyFrom 58 = .ok (.aload_n 0, 1) := by decide +kernel
theorem dX5_copyFrom_59 : decode cX5_copyFrom 59 = .ok (.aload_n 1, 1) := by decide +kernel
theorem dX5_copyFrom_60 : decode cX5_copyFrom 60 = .ok (.getfield 66, 3) := by decide +kernel
theorem dX5_copyFrom_63 : decode cX5_copyFrom 63 = .ok (.putfield 66, 3) := by decide +kernel
theorem dX5_copyFrom_66 : decode cX5_copyFrom 66 = .ok (.aload_n 0, 1) := by decide +kernel
theorem dX5_copyFrom_67 : decode cX5_copyFrom 67 = .ok (.aload_n 1, 1) := by decide +kernel
theorem dX5_copyFrom_68 : decode cX5_copyFrom 68 = .ok (.getfield 70, 3) := by decide +kernel
theorem dX5_copyFrom_71 : decode cX5_copyFrom 71 = .ok (.putfield 70, 3) := by decide +kernel
theorem dX5_copyFrom_74 : decode cX5_copyFrom 74 = .ok (.aload_n 0, 1) := by decide +kernel
theorem dX5_copyFrom_75 : decode cX5_copyFrom 75 = .ok (.aload_n 1, 1) := by decide +kernel
theorem dX5_copyFrom_76 : decode cX5_copyFrom 76 = .ok (.getfield 73, 3) := by decide +kernel
theorem dX5_copyFrom_79 : decode cX5_copyFrom 79 = .ok (.putfield 73, 3) := by decide +kernel
theorem dX5_copyFrom_82 : decode cX5_copyFrom 82 = .ok (.return_, 1) := by decide +kernel
theorem dX5_settle_0 : decode cX5_settle 0 = .ok (.aload_n 0, 1) := by decide +kernel
theorem dX5_settle_1 : decode cX5_settle 1 = .ok (.getfield 42, 3) := by decide +kernel
theorem dX5_settle_4 : decode cX5_settle 4 = .ok (.aload_n 0, 1) := by decide +kernel
theorem dX5_settle_5 : decode cX5_settle 5 = .ok (.invokevirtual 89, 3) := by decide +kernel
theorem dX5_settle_8 : decode cX5_settle 8 = .ok (.aload_n 0, 1) := by decide +kernel
theorem dX5_settle_9 : decode cX5_settle 9 = .ok (.invokevirtual 93, 3) := by decide +kernel
theorem dX5_settle_12 : decode cX5_settle 12 = .ok (.return_, 1) := by decide +kernel
theorem dX5_fillSlots_0 : decode cX5_fillSlots 0 = .ok (.iconst 0, 1) := by decide +kernel
theorem dX5_fillSlots_1 : decode cX5_fillSlots 1 = .ok (.istore_n 1, 1) := by decide +kernel
theorem dX5_fillSlots_2 : decode cX5_fillSlots 2 = .ok (.iload_n 1, 1) := by decide +kernel
theorem dX5_fillSlots_3 : decode cX5_fillSlots 3 = .ok (.bipush 30, 2) := by decide +kernel
theorem dX5_fillSlots_5 : decode cX5_fillSlots 5 = .ok (.if_icmp .ge 37, 3) := by decide +kernel
theorem dX5_fillSlots_8 : decode cX5_fillSlots 8 = .ok (.aload_n 0, 1) := by decide +kernel
theorem dX5_fillSlots_9 : decode cX5_fillSlots 9 = .ok (.invokevirtual 96, 3) := by decide +kernel
theorem dX5_fillSlots_12 : decode cX5_fillSlots 12 = .ok (.istore_n 2, 1) := by decide +kernel
theorem dX5_fillSlots_13 : decode cX5_fillSlots 13 = .ok (.iload_n 2, 1) := by decide +kernel
theorem dX5_fillSlots_14 : decode cX5_fillSlots 14 = .ok (.iconst (-1), 1) := by decide +kernel
theorem dX5_fillSlots_15 : decode cX5_fillSlots 15 = .ok (.if_icmp .ne 4, 3) := by decide +kernel
theorem dX5_fillSlots_18 : decode cX5_fillSlots 18 = .ok (.return_, 1) := by decide +kernel
theorem dX5_fillSlots_19 : decode cX5_fillSlots 19 = .ok (.aload_n 0, 1) := by decide +kernel
theorem dX5_fillSlots_20 : decode cX5_fillSlots 20 = .ok (.invokevirtual 100, 3) := by decide +kernel
theorem dX5_fillSlots_23 : decode cX5_fillSlots 23 = .ok (.istore_n 3, 1) := by decide +kernel
theorem dX5_fillSlots_24 : decode cX5_fillSlots 24 = .ok (.iload_n 3, 1) := by decide +kernel
theorem dX5_fillSlots_25 : decode cX5_fillSlots 25 = .ok (.iconst (-1), 1) := by decide +kernel
theorem dX5_fillSlots_26 : decode cX5_fillSlots 26 = .ok (.if_icmp .ne 4, 3) := by decide +kernel
theorem dX5_fillSlots_29 : decode cX5_fillSlots 29 = .ok (.return_, 1) := by decide +kernel
theorem dX5_fillSlots_30 : decode cX5_fillSlots 30 = .ok (.aload_n 0, 1) := by decide +kernel
theorem dX5_fillSlots_31 : decode cX5_fillSlots 31 = .ok (.iload_n 3, 1) := by decide +kernel
theorem dX5_fillSlots_32 : decode cX5_fillSlots 32 = .ok (.iload_n 2, 1) := by decide +kernel
theorem dX5_fillSlots_33 : decode cX5_fillSlots 33 = .ok (.invokevirtual 103, 3) := by decide +kernel
theorem dX5_fillSlots_36 : decode cX5_fillSlots 36 = .ok (.iinc 1 1, 3) := by decide +kernel
theorem dX5_fillSlots_39 : decode cX5_fillSlots 39 = .ok (.goto (-37), 3) := by decide +kernel
theorem dX5_fillSlots_42 : decode cX5_fillSlots 42 = .ok (.return_, 1) := by decide +kernel
theorem dX5_freeMachine_0 : decode cX5_freeMachine 0 = .ok (.iconst 0, 1) := by decide +kernel
theorem dX5_freeMachine_1 : decode cX5_freeMachine 1 = .ok (.istore_n 1, 1) := by decide +kernel
theorem dX5_freeMachine_2 : decode cX5_freeMachine 2 = .ok (.iload_n 1, 1) := by decide +kernel
theorem dX5_freeMachine_3 : decode cX5_freeMachine 3 = .ok (.aload_n 0, 1) := by decide +kernel
theorem dX5_freeMachine_4 : decode cX5_freeMachine 4 = .ok (.getfield 28, 3) := by decide +kernel
theorem dX5_freeMachine_7 : decode cX5_freeMachine 7 = .ok (.getfield 107, 3) := by decide +kernel
theorem dX5_freeMachine_10 : decode cX5_freeMachine 10 = .ok (.if_icmp .ge 43, 3) := by decide +kernel
theorem dX5_freeMachine_13 : decode cX5_freeMachine 13 = .ok (.aload_n 0, 1) := by decide +kernel
theorem dX5_freeMachine_14 : decode cX5_freeMachine 14 = .ok (.getfield 28, 3) := by decide +kernel
theorem dX5_freeMachine_17 : decode cX5_freeMachine 17 = .ok (.iload_n 1, 1) := by decide +kernel
theorem dX5_freeMachine_18 : decode cX5_freeMachine 18 = .ok (.invokevirtual 110, 3) := by decide +kernel
theorem dX5_freeMachine_21 : decode cX5_freeMachine 21 = .ok (.ifCond .eq 26, 3) := by decide +kernel
theorem dX5_freeMachine_24 : decode cX5_freeMachine 24 = .ok (.aload_n 0, 1) := by decide +kernel
theorem dX5_freeMachine_25 : decode cX5_freeMachine 25 = .ok (.getfield 42, 3) := by decide +kernel
theorem dX5_freeMachine_28 : decode cX5_freeMachine 28 = .ok (.getfield 114, 3) := by decide +kernel
theorem dX5_freeMachine_31 : decode cX5_freeMachine 31 = .ok (.iload_n 1, 1) := by decide +kernel
theorem dX5_freeMachine_32 : decode cX5_freeMachine 32 = .ok (.iaload, 1) := by decide +kernel
theorem dX5_freeMachine_33 : decode cX5_freeMachine 33 = .ok (.aload_n 0, 1) := by decide +kernel
theorem dX5_freeMachine_34 : decode cX5_freeMachine 34 = .ok (.getfield 28, 3) := by decide +kernel
theorem dX5_freeMachine_37 : decode cX5_freeMachine 37 = .ok (.getfield 117, 3) := by decide +kernel
theorem dX5_freeMachine_40 : decode cX5_freeMachine 40 = .ok (.iload_n 1, 1) := by decide +kernel
theorem dX5_freeMachine_41 : decode cX5_freeMachine 41 = .ok (.iaload, 1) := by decide +kernel
theorem dX5_freeMachine_42 : decode cX5_freeMachine 42 = .ok (.if_icmp .ge 5, 3) := by decide +kernel
theorem dX5_freeMachine_45 : decode cX5_freeMachine 45 = .ok (.iload_n 1, 1) := by decide +kernel
theorem dX5_freeMachine_46 : decode cX5_freeMachine 46 = .ok (.ireturn, 1) := by decide +kernel
theorem dX5_freeMachine_47 : decode cX5_freeMachine 47 = .ok (.iinc 1 1, 3) := by decide +kernel
theorem dX5_freeMachine_50 : decode cX5_freeMachine 50 = .ok (.goto (-48), 3) := by decide +kernel
theorem dX5_freeMachine_53 : decode cX5_freeMachine 53 = .ok (.iconst (-1), 1) := by decide +kernel
theorem dX5_freeMachine_54 : decode cX5_freeMachine 54 = .ok (.ireturn, 1) := by decide +kernel
theorem dX5_freeSlots_0 : decode cX5_freeSlots 0 = .ok (.aload_n 0, 1) := by decide +kernel
theorem dX5_freeSlots_1 : decode cX5_freeSlots 1 = .ok (.getfield 42, 3) := by decide +kernel
theorem dX5_freeSlots_4 : decode cX5_freeSlots 4 = .ok (.aload_n 0, 1) := by decide +kernel
theorem dX5_freeSlots_5 : decode cX5_freeSlots 5 = .ok (.invokevirtual 89, 3) := by decide +kernel
theorem dX5_freeSlots_8 : decode cX5_freeSlots 8 = .ok (.iconst 0, 1) := by decide +kernel
theorem dX5_freeSlots_9 : decode cX5_freeSlots 9 = .ok (.istore_n 1, 1) := by decide +kernel
theorem dX5_freeSlots_10 : decode cX5_freeSlots 10 = .ok (.iconst 0, 1) := by decide +kernel
theorem dX5_freeSlots_11 : decode cX5_freeSlots 11 = .ok (.istore_n 2, 1) := by decide +kernel
theorem dX5_freeSlots_12 : decode cX5_freeSlots 12 = .ok (.iload_n 2, 1) := by decide +kernel
theorem dX5_freeSlots_13 : decode cX5_freeSlots 13 = .ok (.aload_n 0, 1) := by decide +kernel
theorem dX5_freeSlots_14 : decode cX5_freeSlots 14 = .ok (.getfield 28, 3) := by decide +kernel
theorem dX5_freeSlots_17 : decode cX5_freeSlots 17 = .ok (.getfield 107, 3) := by decide +kernel
theorem dX5_freeSlots_20 : decode cX5_freeSlots 20 = .ok (.if_icmp .ge 42, 3) := by decide +kernel
theorem dX5_freeSlots_23 : decode cX5_freeSlots 23 = .ok (.aload_n 0, 1) := by decide +kernel
theorem dX5_freeSlots_24 : decode cX5_freeSlots 24 = .ok (.getfield 28, 3) := by decide +kernel
theorem dX5_freeSlots_27 : decode cX5_freeSlots 27 = .ok (.iload_n 2, 1) := by decide +kernel
theorem dX5_freeSlots_28 : decode cX5_freeSlots 28 = .ok (.invokevirtual 110, 3) := by decide +kernel
theorem dX5_freeSlots_31 : decode cX5_freeSlots 31 = .ok (.ifCond .eq 25, 3) := by decide +kernel
theorem dX5_freeSlots_34 : decode cX5_freeSlots 34 = .ok (.iload_n 1, 1) := by decide +kernel
theorem dX5_freeSlots_35 : decode cX5_freeSlots 35 = .ok (.aload_n 0, 1) := by decide +kernel
theorem dX5_freeSlots_36 : decode cX5_freeSlots 36 = .ok (.getfield 28, 3) := by decide +kernel
theorem dX5_freeSlots_39 : decode cX5_freeSlots 39 = .ok (.getfield 117, 3) := by decide +kernel
theorem dX5_freeSlots_42 : decode cX5_freeSlots 42 = .ok (.iload_n 2, 1) := by decide +kernel
theorem dX5_freeSlots_43 : decode cX5_freeSlots 43 = .ok (.iaload, 1) := by decide +kernel
theorem dX5_freeSlots_44 : decode cX5_freeSlots 44 = .ok (.aload_n 0, 1) := by decide +kernel
theorem dX5_freeSlots_45 : decode cX5_freeSlots 45 = .ok (.getfield 42, 3) := by decide +kernel
theorem dX5_freeSlots_48 : decode cX5_freeSlots 48 = .ok (.getfield 114, 3) := by decide +kernel
theorem dX5_freeSlots_51 : decode cX5_freeSlots 51 = .ok (.iload_n 2, 1) := by decide +kernel
theorem dX5_freeSlots_52 : decode cX5_freeSlots 52 = .ok (.iaload, 1) := by decide +kernel
theorem dX5_freeSlots_53 : decode cX5_freeSlots 53 = .ok (.isub, 1) := by decide +kernel
theorem dX5_freeSlots_54 : decode cX5_freeSlots 54 = .ok (.iadd, 1) := by decide +kernel
theorem dX5_freeSlots_55 : decode cX5_freeSlots 55 = .ok (.istore_n 1, 1) := by decide +kernel
theorem dX5_freeSlots_56 : decode cX5_freeSlots 56 = .ok (.iinc 2 1, 3) := by decide +kernel
theorem dX5_freeSlots_59 : decode cX5_freeSlots 59 = .ok (.goto (-47), 3) := by decide +kernel
theorem dX5_freeSlots_62 : decode cX5_freeSlots 62 = .ok (.iload_n 1, 1) := by decide +kernel
theorem dX5_freeSlots_63 : decode cX5_freeSlots 63 = .ok (.ireturn, 1) := by decide +kernel
theorem dX5_bestWaiting_0 : decode cX5_bestWaiting 0 = .ok (.iconst (-1), 1) := by decide +kernel
theorem dX5_bestWaiting_1 : decode cX5_bestWaiting 1 = .ok (.istore_n 1, 1) := by decide +kernel
theorem dX5_bestWaiting_2 : decode cX5_bestWaiting 2 = .ok (.lconst 0, 1) := by decide +kernel
theorem dX5_bestWaiting_3 : decode cX5_bestWaiting 3 = .ok (.lstore_n 2, 1) := by decide +kernel
theorem dX5_bestWaiting_4 : decode cX5_bestWaiting 4 = .ok (.iconst 0, 1) := by decide +kernel
theorem dX5_bestWaiting_5 : decode cX5_bestWaiting 5 = .ok (.istore 4, 2) := by decide +kernel
theorem dX5_bestWaiting_7 : decode cX5_bestWaiting 7 = .ok (.iload 4, 2) := by decide +kernel
theorem dX5_bestWaiting_9 : decode cX5_bestWaiting 9 = .ok (.aload_n 0, 1) := by decide +kernel
theorem dX5_bestWaiting_10 : decode cX5_bestWaiting 10 = .ok (.getfield 35, 3) := by decide +kernel
theorem dX5_bestWaiting_13 : decode cX5_bestWaiting 13 = .ok (.getfield 120, 3) := by decide +kernel
theorem dX5_bestWaiting_16 : decode cX5_bestWaiting 16 = .ok (.if_icmp .ge 59, 3) := by decide +kernel
theorem dX5_bestWaiting_19 : decode cX5_bestWaiting 19 = .ok (.aload_n 0, 1) := by decide +kernel
theorem dX5_bestWaiting_20 : decode cX5_bestWaiting 20 = .ok (.getfield 35, 3) := by decide +kernel
theorem dX5_bestWaiting_23 : decode cX5_bestWaiting 23 = .ok (.getfield 121, 3) := by decide +kernel
theorem dX5_bestWaiting_26 : decode cX5_bestWaiting 26 = .ok (.iload 4, 2) := by decide +kernel
theorem dX5_bestWaiting_28 : decode cX5_bestWaiting 28 = .ok (.iaload, 1) := by decide +kernel
theorem dX5_bestWaiting_29 : decode cX5_bestWaiting 29 = .ok (.ifCond .ne 40, 3) := by decide +kernel
theorem dX5_bestWaiting_32 : decode cX5_bestWaiting 32 = .ok (.aload_n 0, 1) := by decide +kernel
theorem dX5_bestWaiting_33 : decode cX5_bestWaiting 33 = .ok (.getfield 42, 3) := by decide +kernel
theorem dX5_bestWaiting_36 : decode cX5_bestWaiting 36 = .ok (.aload_n 0, 1) := by decide +kernel
theorem dX5_bestWaiting_37 : decode cX5_bestWaiting 37 = .ok (.getfield 35, 3) := by decide +kernel
theorem dX5_bestWaiting_40 : decode cX5_bestWaiting 40 = .ok (.getfield 124, 3) := by decide +kernel
theorem dX5_bestWaiting_43 : decode cX5_bestWaiting 43 = .ok (.iload 4, 2) := by decide +kernel
theorem dX5_bestWaiting_45 : decode cX5_bestWaiting 45 = .ok (.iaload, 1) := by decide +kernel
theorem dX5_bestWaiting_46 : decode cX5_bestWaiting 46 = .ok (.invokevirtual 127, 3) := by decide +kernel
theorem dX5_bestWaiting_49 : decode cX5_bestWaiting 49 = .ok (.lstore 5, 2) := by decide +kernel
theorem dX5_bestWaiting_51 : decode cX5_bestWaiting 51 = .ok (.iload_n 1, 1) := by decide +kernel
theorem dX5_bestWaiting_52 : decode cX5_bestWaiting 52 = .ok (.iconst (-1), 1) := by decide +kernel
theorem dX5_bestWaiting_53 : decode cX5_bestWaiting 53 = .ok (.if_icmp .eq 10, 3) := by decide +kernel
theorem dX5_bestWaiting_56 : decode cX5_bestWaiting 56 = .ok (.lload 5, 2) := by decide +kernel
theorem dX5_bestWaiting_58 : decode cX5_bestWaiting 58 = .ok (.lload_n 2, 1) := by decide +kernel
theorem dX5_bestWaiting_59 : decode cX5_bestWaiting 59 = .ok (.lcmp, 1) := by decide +kernel
theorem dX5_bestWaiting_60 : decode cX5_bestWaiting 60 = .ok (.ifCond .le 9, 3) := by decide +kernel
theorem dX5_bestWaiting_63 : decode cX5_bestWaiting 63 = .ok (.iload 4, 2) := by decide +kernel
theorem dX5_bestWaiting_65 : decode cX5_bestWaiting 65 = .ok (.istore_n 1, 1) := by decide +kernel
theorem dX5_bestWaiting_66 : decode cX5_bestWaiting 66 = .ok (.lload 5, 2) := by decide +kernel
theorem dX5_bestWaiting_68 : decode cX5_bestWaiting 68 = .ok (.lstore_n 2, 1) := by decide +kernel
theorem dX5_bestWaiting_69 : decode cX5_bestWaiting 69 = .ok (.iinc 4 1, 3) := by decide +kernel
theorem dX5_bestWaiting_72 : decode cX5_bestWaiting 72 = .ok (.goto (-65), 3) := by decide +kernel
theorem dX5_bestWaiting_75 : decode cX5_bestWaiting 75 = .ok (.iload_n 1, 1) := by decide +kernel
theorem dX5_bestWaiting_76 : decode cX5_bestWaiting 76 = .ok (.ireturn, 1) := by decide +kernel
theorem dX5_leastRunning_0 : decode cX5_leastRunning 0 = .ok (.iconst (-1), 1) := by decide +kernel
theorem dX5_leastRunning_1 : decode cX5_leastRunning 1 = .ok (.istore_n 2, 1) := by decide +kernel
theorem dX5_leastRunning_2 : decode cX5_leastRunning 2 = .ok (.lconst 0, 1) := by decide +kernel
theorem dX5_leastRunning_3 : decode cX5_leastRunning 3 = .ok (.lstore_n 3, 1) := by decide +kernel
theorem dX5_leastRunning_4 : decode cX5_leastRunning 4 = .ok (.iconst 0, 1) := by decide +kernel
theorem dX5_leastRunning_5 : decode cX5_leastRunning 5 = .ok (.istore 5, 2) := by decide +kernel
theorem dX5_leastRunning_7 : decode cX5_leastRunning 7 = .ok (.iload 5, 2) := by decide +kernel
theorem dX5_leastRunning_9 : decode cX5_leastRunning 9 = .ok (.aload_n 0, 1) := by decide +kernel
theorem dX5_leastRunning_10 : decode cX5_leastRunning 10 = .ok (.getfield 35, 3) := by decide +kernel
theorem dX5_leastRunning_13 : decode cX5_leastRunning 13 = .ok (.getfield 120, 3) := by decide +kernel
theorem dX5_leastRunning_16 : decode cX5_leastRunning 16 = .ok (.if_icmp .ge 59, 3) := by decide +kernel
theorem dX5_leastRunning_19 : decode cX5_leastRunning 19 = .ok (.aload_n 0, 1) := by decide +kernel
theorem dX5_leastRunning_20 : decode cX5_leastRunning 20 = .ok (.getfield 35, 3) := by decide +kernel
theorem dX5_leastRunning_23 : decode cX5_leastRunning 23 = .ok (.iload 5, 2) := by decide +kernel
theorem dX5_leastRunning_25 : decode cX5_leastRunning 25 = .ok (.iload_n 1, 1) := by decide +kernel
theorem dX5_leastRunning_26 : decode cX5_leastRunning 26 = .ok (.invokevirtual 131, 3) := by decide +kernel
theorem dX5_leastRunning_29 : decode cX5_leastRunning 29 = .ok (.ifCond .eq 40, 3) := by decide +kernel
theorem dX5_leastRunning_32 : decode cX5_leastRunning 32 = .ok (.aload_n 0, 1) := by decide +kernel
theorem dX5_leastRunning_33 : decode cX5_leastRunning 33 = .ok (.getfield 42, 3) := by decide +kernel
theorem dX5_leastRunning_36 : decode cX5_leastRunning 36 = .ok (.aload_n 0, 1) := by decide +kernel
theorem dX5_leastRunning_37 : decode cX5_leastRunning 37 = .ok (.getfield 35, 3) := by decide +kernel
theorem dX5_leastRunning_40 : decode cX5_leastRunning 40 = .ok (.getfield 124, 3) := by decide +kernel
theorem dX5_leastRunning_43 : decode cX5_leastRunning 43 = .ok (.iload 5, 2) := by decide +kernel
theorem dX5_leastRunning_45 : decode cX5_leastRunning 45 = .ok (.iaload, 1) := by decide +kernel
theorem dX5_leastRunning_46 : decode cX5_leastRunning 46 = .ok (.invokevirtual 135, 3) := by decide +kernel
theorem dX5_leastRunning_49 : decode cX5_leastRunning 49 = .ok (.lstore 6, 2) := by decide +kernel
theorem dX5_leastRunning_51 : decode cX5_leastRunning 51 = .ok (.iload_n 2, 1) := by decide +kernel
theorem dX5_leastRunning_52 : decode cX5_leastRunning 52 = .ok (.iconst (-1), 1) := by decide +kernel
theorem dX5_leastRunning_53 : decode cX5_leastRunning 53 = .ok (.if_icmp .eq 10, 3) := by decide +kernel
theorem dX5_leastRunning_56 : decode cX5_leastRunning 56 = .ok (.lload 6, 2) := by decide +kernel
theorem dX5_leastRunning_58 : decode cX5_leastRunning 58 = .ok (.lload_n 3, 1) := by decide +kernel
theorem dX5_leastRunning_59 : decode cX5_leastRunning 59 = .ok (.lcmp, 1) := by decide +kernel
theorem dX5_leastRunning_60 : decode cX5_leastRunning 60 = .ok (.ifCond .gt 9, 3) := by decide +kernel
theorem dX5_leastRunning_63 : decode cX5_leastRunning 63 = .ok (.iload 5, 2) := by decide +kernel
theorem dX5_leastRunning_65 : decode cX5_leastRunning 65 = .ok (.istore_n 2, 1) := by decide +kernel
theorem dX5_leastRunning_66 : decode cX5_leastRunning 66 = .ok (.lload 6, 2) := by decide +kernel
theorem dX5_leastRunning_68 : decode cX5_leastRunning 68 = .ok (.lstore_n 3, 1) := by decide +kernel
theorem dX5_leastRunning_69 : decode cX5_leastRunning 69 = .ok (.iinc 5 1, 3) := by decide +kernel
theorem dX5_leastRunning_72 : decode cX5_leastRunning 72 = .ok (.goto (-65), 3) := by decide +kernel
theorem dX5_leastRunning_75 : decode cX5_leastRunning 75 = .ok (.iload_n 2, 1) := by decide +kernel
theorem dX5_leastRunning_76 : decode cX5_leastRunning 76 = .ok (.ireturn, 1) := by decide +kernel
theorem dX5_startJob_0 : decode cX5_startJob 0 = .ok (.aload_n 0, 1) := by decide +kernel
theorem dX5_startJob_1 : decode cX5_startJob 1 = .ok (.getfield 35, 3) := by decide +kernel
theorem dX5_startJob_4 : decode cX5_startJob 4 = .ok (.iload_n 1, 1) := by decide +kernel
theorem dX5_startJob_5 : decode cX5_startJob 5 = .ok (.invokevirtual 138, 3) := by decide +kernel
theorem dX5_startJob_8 : decode cX5_startJob 8 = .ok (.ifCond .eq 31, 3) := by decide +kernel
theorem dX5_startJob_11 : decode cX5_startJob 11 = .ok (.aload_n 0, 1) := by decide +kernel
theorem dX5_startJob_12 : decode cX5_startJob 12 = .ok (.getfield 35, 3) := by decide +kernel
theorem dX5_startJob_15 : decode cX5_startJob 15 = .ok (.iload_n 1, 1) := by decide +kernel
theorem dX5_startJob_16 : decode cX5_startJob 16 = .ok (.iload_n 2, 1) := by decide +kernel
theorem dX5_startJob_17 : decode cX5_startJob 17 = .ok (.invokevirtual 141, 3) := by decide +kernel
theorem dX5_startJob_20 : decode cX5_startJob 20 = .ok (.aload_n 0, 1) := by decide +kernel
theorem dX5_startJob_21 : decode cX5_startJob 21 = .ok (.getfield 42, 3) := by decide +kernel
theorem dX5_startJob_24 : decode cX5_startJob 24 = .ok (.aload_n 0, 1) := by decide +kernel
theorem dX5_startJob_25 : decode cX5_startJob 25 = .ok (.aload_n 0, 1) := by decide +kernel
theorem dX5_startJob_26 : decode cX5_startJob 26 = .ok (.getfield 35, 3) := by decide +kernel
theorem dX5_startJob_29 : decode cX5_startJob 29 = .ok (.getfield 124, 3) := by decide +kernel
theorem dX5_startJob_32 : decode cX5_startJob 32 = .ok (.iload_n 1, 1) := by decide +kernel
theorem dX5_startJob_33 : decode cX5_startJob 33 = .ok (.iaload, 1) := by decide +kernel
theorem dX5_startJob_34 : decode cX5_startJob 34 = .ok (.iload_n 2, 1) := by decide +kernel
theorem dX5_startJob_35 : decode cX5_startJob 35 = .ok (.iconst 1, 1) := by decide +kernel
theorem dX5_startJob_36 : decode cX5_startJob 36 = .ok (.invokevirtual 144, 3) := by decide +kernel
theorem dX5_startJob_39 : decode cX5_startJob 39 = .ok (.return_, 1) := by decide +kernel
theorem dX5_interruptJob_0 : decode cX5_interruptJob 0 = .ok (.aload_n 0, 1) := by decide +kernel
theorem dX5_interruptJob_1 : decode cX5_interruptJob 1 = .ok (.getfield 35, 3) := by decide +kernel
theorem dX5_interruptJob_4 : decode cX5_interruptJob 4 = .ok (.iload_n 1, 1) := by decide +kernel
theorem dX5_interruptJob_5 : decode cX5_interruptJob 5 = .ok (.invokevirtual 138, 3) := by decide +kernel
theorem dX5_interruptJob_8 : decode cX5_interruptJob 8 = .ok (.ifCond .ne 4, 3) := by decide +kernel
theorem dX5_interruptJob_11 : decode cX5_interruptJob 11 = .ok (.return_, 1) := by decide +kernel
theorem dX5_interruptJob_12 : decode cX5_interruptJob 12 = .ok (.aload_n 0, 1) := by decide +kernel
theorem dX5_interruptJob_13 : decode cX5_interruptJob 13 = .ok (.aload_n 0, 1) := by decide +kernel
theorem dX5_interruptJob_14 : decode cX5_interruptJob 14 = .ok (.getfield 35, 3) := by decide +kernel
theorem dX5_interruptJob_17 : decode cX5_interruptJob 17 = .ok (.getfield 148, 3) := by decide +kernel
theorem dX5_interruptJob_20 : decode cX5_interruptJob 20 = .ok (.iload_n 1, 1) := by decide +kernel
theorem dX5_interruptJob_21 : decode cX5_interruptJob 21 = .ok (.iaload, 1) := by decide +kernel
theorem dX5_interruptJob_22 : decode cX5_interruptJob 22 = .ok (.invokevirtual 151, 3) := by decide +kernel
theorem dX5_interruptJob_25 : decode cX5_interruptJob 25 = .ok (.istore_n 2, 1) := by decide +kernel
theorem dX5_interruptJob_26 : decode cX5_interruptJob 26 = .ok (.aload_n 0, 1) := by decide +kernel
theorem dX5_interruptJob_27 : decode cX5_interruptJob 27 = .ok (.dup, 1) := by decide +kernel
theorem dX5_interruptJob_28 : decode cX5_interruptJob 28 = .ok (.getfield 70, 3) := by decide +kernel
theorem dX5_interruptJob_31 : decode cX5_interruptJob 31 = .ok (.iconst 1, 1) := by decide +kernel
theorem dX5_interruptJob_32 : decode cX5_interruptJob 32 = .ok (.iadd, 1) := by decide +kernel
theorem dX5_interruptJob_33 : decode cX5_interruptJob 33 = .ok (.putfield 70, 3) := by decide +kernel
theorem dX5_interruptJob_36 : decode cX5_interruptJob 36 = .ok (.aload_n 0, 1) := by decide +kernel
theorem dX5_interruptJob_37 : decode cX5_interruptJob 37 = .ok (.dup, 1) := by decide +kernel
theorem dX5_interruptJob_38 : decode cX5_interruptJob 38 = .ok (.getfield 73, 3) := by decide +kernel
theorem dX5_interruptJob_41 : decode cX5_interruptJob 41 = .ok (.aload_n 0, 1) := by decide +kernel
theorem dX5_interruptJob_42 : decode cX5_interruptJob 42 = .ok (.getfield 35, 3) := by decide +kernel
theorem dX5_interruptJob_45 : decode cX5_interruptJob 45 = .ok (.getfield 148, 3) := by decide +kernel
theorem dX5_interruptJob_48 : decode cX5_interruptJob 48 = .ok (.iload_n 1, 1) := by decide +kernel
theorem dX5_interruptJob_49 : decode cX5_interruptJob 49 = .ok (.iaload, 1) := by decide +kernel
theorem dX5_interruptJob_50 : decode cX5_interruptJob 50 = .ok (.iload_n 2, 1) := by decide +kernel
theorem dX5_interruptJob_51 : decode cX5_interruptJob 51 = .ok (.isub, 1) := by decide +kernel
theorem dX5_interruptJob_52 : decode cX5_interruptJob 52 = .ok (.iadd, 1) := by decide +kernel
theorem dX5_interruptJob_53 : decode cX5_interruptJob 53 = .ok (.putfield 73, 3) := by decide +kernel
theorem dX5_interruptJob_56 : decode cX5_interruptJob 56 = .ok (.aload_n 0, 1) := by decide +kernel
theorem dX5_interruptJob_57 : decode cX5_interruptJob 57 = .ok (.getfield 42, 3) := by decide +kernel
theorem dX5_interruptJob_60 : decode cX5_interruptJob 60 = .ok (.aload_n 0, 1) := by decide +kernel
theorem dX5_interruptJob_61 : decode cX5_interruptJob 61 = .ok (.aload_n 0, 1) := by decide +kernel
theorem dX5_interruptJob_62 : decode cX5_interruptJob 62 = .ok (.getfield 35, 3) := by decide +kernel
theorem dX5_interruptJob_65 : decode cX5_interruptJob 65 = .ok (.getfield 124, 3) := by decide +kernel
theorem dX5_interruptJob_68 : decode cX5_interruptJob 68 = .ok (.iload_n 1, 1) := by decide +kernel
theorem dX5_interruptJob_69 : decode cX5_interruptJob 69 = .ok (.iaload, 1) := by decide +kernel
theorem dX5_interruptJob_70 : decode cX5_interruptJob 70 = .ok (.aload_n 0, 1) := by decide +kernel
theorem dX5_interruptJob_71 : decode cX5_interruptJob 71 = .ok (.getfield 35, 3) := by decide +kernel
theorem dX5_interruptJob_74 : decode cX5_interruptJob 74 = .ok (.getfield 155, 3) := by decide +kernel
theorem dX5_interruptJob_77 : decode cX5_interruptJob 77 = .ok (.iload_n 1, 1) := by decide +kernel
theorem dX5_interruptJob_78 : decode cX5_interruptJob 78 = .ok (.iaload, 1) := by decide +kernel
theorem dX5_interruptJob_79 : decode cX5_interruptJob 79 = .ok (.iconst (-1), 1) := by decide +kernel
theorem dX5_interruptJob_80 : decode cX5_interruptJob 80 = .ok (.invokevirtual 144, 3) := by decide +kernel
theorem dX5_interruptJob_83 : decode cX5_interruptJob 83 = .ok (.aload_n 0, 1) := by decide +kernel
theorem dX5_interruptJob_84 : decode cX5_interruptJob 84 = .ok (.getfield 35, 3) := by decide +kernel
theorem dX5_interruptJob_87 : decode cX5_interruptJob 87 = .ok (.iload_n 1, 1) := by decide +kernel
theorem dX5_interruptJob_88 : decode cX5_interruptJob 88 = .ok (.iload_n 2, 1) := by decide +kernel
theorem dX5_interruptJob_89 : decode cX5_interruptJob 89 = .ok (.invokevirtual 158, 3) := by decide +kernel
theorem dX5_interruptJob_92 : decode cX5_interruptJob 92 = .ok (.return_, 1) := by decide +kernel
theorem dX5_keptWork_0 : decode cX5_keptWork 0 = .ok (.aload_n 0, 1) := by decide +kernel
theorem dX5_keptWork_1 : decode cX5_keptWork 1 = .ok (.getfield 46, 3) := by decide +kernel
theorem dX5_keptWork_4 : decode cX5_keptWork 4 = .ok (.iconst 2, 1) := by decide +kernel
theorem dX5_keptWork_5 : decode cX5_keptWork 5 = .ok (.iaload, 1) := by decide +kernel
theorem dX5_keptWork_6 : decode cX5_keptWork 6 = .ok (.istore_n 2, 1) := by decide +kernel
theorem dX5_keptWork_7 : decode cX5_keptWork 7 = .ok (.iload_n 2, 1) := by decide +kernel
theorem dX5_keptWork_8 : decode cX5_keptWork 8 = .ok (.ifCond .le 11, 3) := by decide +kernel
theorem dX5_keptWork_11 : decode cX5_keptWork 11 = .ok (.iload_n 1, 1) := by decide +kernel
theorem dX5_keptWork_12 : decode cX5_keptWork 12 = .ok (.iload_n 1, 1) := by decide +kernel
theorem dX5_keptWork_13 : decode cX5_keptWork 13 = .ok (.iload_n 2, 1) := by decide +kernel
theorem dX5_keptWork_14 : decode cX5_keptWork 14 = .ok (.irem, 1) := by decide +kernel
theorem dX5_keptWork_15 : decode cX5_keptWork 15 = .ok (.isub, 1) := by decide +kernel
theorem dX5_keptWork_16 : decode cX5_keptWork 16 = .ok (.goto 4, 3) := by decide +kernel
theorem dX5_keptWork_19 : decode cX5_keptWork 19 = .ok (.iload_n 1, 1) := by decide +kernel
theorem dX5_keptWork_20 : decode cX5_keptWork 20 = .ok (.ireturn, 1) := by decide +kernel
theorem dX5_preemptJobs_0 : decode cX5_preemptJobs 0 = .ok (.aload_n 0, 1) := by decide +kernel
theorem dX5_preemptJobs_1 : decode cX5_preemptJobs 1 = .ok (.invokevirtual 100, 3) := by decide +kernel
theorem dX5_preemptJobs_4 : decode cX5_preemptJobs 4 = .ok (.istore_n 1, 1) := by decide +kernel
theorem dX5_preemptJobs_5 : decode cX5_preemptJobs 5 = .ok (.iconst 0, 1) := by decide +kernel
theorem dX5_preemptJobs_6 : decode cX5_preemptJobs 6 = .ok (.istore_n 2, 1) := by decide +kernel
theorem dX5_preemptJobs_7 : decode cX5_preemptJobs 7 = .ok (.iload_n 2, 1) := by decide +kernel
theorem dX5_preemptJobs_8 : decode cX5_preemptJobs 8 = .ok (.aload_n 0, 1) := by decide +kernel
theorem dX5_preemptJobs_9 : decode cX5_preemptJobs 9 = .ok (.getfield 28, 3) := by decide +kernel
theorem dX5_preemptJobs_12 : decode cX5_preemptJobs 12 = .ok (.getfield 107, 3) := by decide +kernel
theorem dX5_preemptJobs_15 : decode cX5_preemptJobs 15 = .ok (.if_icmp .ge 50, 3) := by decide +kernel
theorem dX5_preemptJobs_18 : decode cX5_preemptJobs 18 = .ok (.iload_n 1, 1) := by decide +kernel
theorem dX5_preemptJobs_19 : decode cX5_preemptJobs 19 = .ok (.iconst (-1), 1) := by decide +kernel
theorem dX5_preemptJobs_20 : decode cX5_preemptJobs 20 = .ok (.if_icmp .eq 45, 3) := by decide +kernel
theorem dX5_preemptJobs_23 : decode cX5_preemptJobs 23 = .ok (.aload_n 0, 1) := by decide +kernel
theorem dX5_preemptJobs_24 : decode cX5_preemptJobs 24 = .ok (.iload_n 2, 1) := by decide +kernel
theorem dX5_preemptJobs_25 : decode cX5_preemptJobs 25 = .ok (.invokevirtual 161, 3) := by decide +kernel
theorem dX5_preemptJobs_28 : decode cX5_preemptJobs 28 = .ok (.istore_n 3, 1) := by decide +kernel
theorem dX5_preemptJobs_29 : decode cX5_preemptJobs 29 = .ok (.iload_n 3, 1) := by decide +kernel
theorem dX5_preemptJobs_30 : decode cX5_preemptJobs 30 = .ok (.iconst (-1), 1) := by decide +kernel
theorem dX5_preemptJobs_31 : decode cX5_preemptJobs 31 = .ok (.if_icmp .eq 28, 3) := by decide +kernel
theorem dX5_preemptJobs_34 : decode cX5_preemptJobs 34 = .ok (.aload_n 0, 1) := by decide +kernel
theorem dX5_preemptJobs_35 : decode cX5_preemptJobs 35 = .ok (.iload_n 1, 1) := by decide +kernel
theorem dX5_preemptJobs_36 : decode cX5_preemptJobs 36 = .ok (.iload_n 3, 1) := by decide +kernel
theorem dX5_preemptJobs_37 : decode cX5_preemptJobs 37 = .ok (.invokevirtual 164, 3) := by decide +kernel
theorem dX5_preemptJobs_40 : decode cX5_preemptJobs 40 = .ok (.ifCond .eq 19, 3) := by decide +kernel
theorem dX5_preemptJobs_43 : decode cX5_preemptJobs 43 = .ok (.aload_n 0, 1) := by decide +kernel
theorem dX5_preemptJobs_44 : decode cX5_preemptJobs 44 = .ok (.iload_n 3, 1) := by decide +kernel
theorem dX5_preemptJobs_45 : decode cX5_preemptJobs 45 = .ok (.invokevirtual 167, 3) := by decide +kernel
theorem dX5_preemptJobs_48 : decode cX5_preemptJobs 48 = .ok (.aload_n 0, 1) := by decide +kernel
theorem dX5_preemptJobs_49 : decode cX5_preemptJobs 49 = .ok (.iload_n 1, 1) := by decide +kernel
theorem dX5_preemptJobs_50 : decode cX5_preemptJobs 50 = .ok (.iload_n 2, 1) := by decide +kernel
theorem dX5_preemptJobs_51 : decode cX5_preemptJobs 51 = .ok (.invokevirtual 103, 3) := by decide +kernel
theorem dX5_preemptJobs_54 : decode cX5_preemptJobs 54 = .ok (.aload_n 0, 1) := by decide +kernel
theorem dX5_preemptJobs_55 : decode cX5_preemptJobs 55 = .ok (.invokevirtual 100, 3) := by decide +kernel
theorem dX5_preemptJobs_58 : decode cX5_preemptJobs 58 = .ok (.istore_n 1, 1) := by decide +kernel
theorem dX5_preemptJobs_59 : decode cX5_preemptJobs 59 = .ok (.iinc 2 1, 3) := by decide +kernel
theorem dX5_preemptJobs_62 : decode cX5_preemptJobs 62 = .ok (.goto (-55), 3) := by decide +kernel
theorem dX5_preemptJobs_65 : decode cX5_preemptJobs 65 = .ok (.return_, 1) := by decide +kernel
theorem dX5_outweighs_0 : decode cX5_outweighs 0 = .ok (.aload_n 0, 1) := by decide +kernel
theorem dX5_outweighs_1 : decode cX5_outweighs 1 = .ok (.getfield 35, 3) := by decide +kernel
theorem dX5_outweighs_4 : decode cX5_outweighs 4 = .ok (.iload_n 1, 1) := by decide +kernel
theorem dX5_outweighs_5 : decode cX5_outweighs 5 = .ok (.invokevirtual 138, 3) := by decide +kernel
theorem dX5_outweighs_8 : decode cX5_outweighs 8 = .ok (.ifCond .eq 14, 3) := by decide +kernel
theorem dX5_outweighs_11 : decode cX5_outweighs 11 = .ok (.aload_n 0, 1) := by decide +kernel
theorem dX5_outweighs_12 : decode cX5_outweighs 12 = .ok (.getfield 35, 3) := by decide +kernel
theorem dX5_outweighs_15 : decode cX5_outweighs 15 = .ok (.iload_n 2, 1) := by decide +kernel
theorem dX5_outweighs_16 : decode cX5_outweighs 16 = .ok (.invokevirtual 138, 3) := by decide +kernel
theorem dX5_outweighs_19 : decode cX5_outweighs 19 = .ok (.ifCond .ne 5, 3) := by decide +kernel
theorem dX5_outweighs_22 : decode cX5_outweighs 22 = .ok (.iconst 0, 1) := by decide +kernel
theorem dX5_outweighs_23 : decode cX5_outweighs 23 = .ok (.ireturn, 1) := by decide +kernel
theorem dX5_outweighs_24 : decode cX5_outweighs 24 = .ok (.aload_n 0, 1) := by decide +kernel
theorem dX5_outweighs_25 : decode cX5_outweighs 25 = .ok (.getfield 42, 3) := by decide +kernel
theorem dX5_outweighs_28 : decode cX5_outweighs 28 = .ok (.aload_n 0, 1) := by decide +kernel
theorem dX5_outweighs_29 : decode cX5_outweighs 29 = .ok (.getfield 35, 3) := by decide +kernel
theorem dX5_outweighs_32 : decode cX5_outweighs 32 = .ok (.getfield 124, 3) := by decide +kernel
theorem dX5_outweighs_35 : decode cX5_outweighs 35 = .ok (.iload_n 1, 1) := by decide +kernel
theorem dX5_outweighs_36 : decode cX5_outweighs 36 = .ok (.iaload, 1) := by decide +kernel
theorem dX5_outweighs_37 : decode cX5_outweighs 37 = .ok (.invokevirtual 127, 3) := by decide +kernel
theorem dX5_outweighs_40 : decode cX5_outweighs 40 = .ok (.lstore_n 3, 1) := by decide +kernel
theorem dX5_outweighs_41 : decode cX5_outweighs 41 = .ok (.aload_n 0, 1) := by decide +kernel
theorem dX5_outweighs_42 : decode cX5_outweighs 42 = .ok (.getfield 42, 3) := by decide +kernel
theorem dX5_outweighs_45 : decode cX5_outweighs 45 = .ok (.aload_n 0, 1) := by decide +kernel
theorem dX5_outweighs_46 : decode cX5_outweighs 46 = .ok (.getfield 35, 3) := by decide +kernel
theorem dX5_outweighs_49 : decode cX5_outweighs 49 = .ok (.getfield 124, 3) := by decide +kernel
theorem dX5_outweighs_52 : decode cX5_outweighs 52 = .ok (.iload_n 2, 1) := by decide +kernel
theorem dX5_outweighs_53 : decode cX5_outweighs 53 = .ok (.iaload, 1) := by decide +kernel
theorem dX5_outweighs_54 : decode cX5_outweighs 54 = .ok (.invokevirtual 135, 3) := by decide +kernel
theorem dX5_outweighs_57 : decode cX5_outweighs 57 = .ok (.lstore 5, 2) := by decide +kernel
theorem dX5_outweighs_59 : decode cX5_outweighs 59 = .ok (.ldc2_w 171, 3) := by decide +kernel
theorem dX5_outweighs_62 : decode cX5_outweighs 62 = .ok (.lload_n 3, 1) := by decide +kernel
theorem dX5_outweighs_63 : decode cX5_outweighs 63 = .ok (.lmul, 1) := by decide +kernel
theorem dX5_outweighs_64 : decode cX5_outweighs 64 = .ok (.bipush 100, 2) := by decide +kernel
theorem dX5_outweighs_66 : decode cX5_outweighs 66 = .ok (.aload_n 0, 1) := by decide +kernel
theorem dX5_outweighs_67 : decode cX5_outweighs 67 = .ok (.getfield 46, 3) := by decide +kernel
theorem dX5_outweighs_70 : decode cX5_outweighs 70 = .ok (.iconst 1, 1) := by decide +kernel
theorem dX5_outweighs_71 : decode cX5_outweighs 71 = .ok (.iaload, 1) := by decide +kernel
theorem dX5_outweighs_72 : decode cX5_outweighs 72 = .ok (.iadd, 1) := by decide +kernel
theorem dX5_outweighs_73 : decode cX5_outweighs 73 = .ok (.i2l, 1) := by decide +kernel
theorem dX5_outweighs_74 : decode cX5_outweighs 74 = .ok (.lload 5, 2) := by decide +kernel
theorem dX5_outweighs_76 : decode cX5_outweighs 76 = .ok (.lmul, 1) := by decide +kernel
theorem dX5_outweighs_77 : decode cX5_outweighs 77 = .ok (.lcmp, 1) := by decide +kernel
theorem dX5_outweighs_78 : decode cX5_outweighs 78 = .ok (.ifCond .le 7, 3) := by decide +kernel
theorem dX5_outweighs_81 : decode cX5_outweighs 81 = .ok (.iconst 1, 1) := by decide +kernel
theorem dX5_outweighs_82 : decode cX5_outweighs 82 = .ok (.goto 4, 3) := by decide +kernel
theorem dX5_outweighs_85 : decode cX5_outweighs 85 = .ok (.iconst 0, 1) := by decide +kernel
theorem dX5_outweighs_86 : decode cX5_outweighs 86 = .ok (.ireturn, 1) := by decide +kernel
theorem dX5_switchMachine_0 : decode cX5_switchMachine 0 = .ok (.aload_n 0, 1) := by decide +kernel
theorem dX5_switchMachine_1 : decode cX5_switchMachine 1 = .ok (.getfield 28, 3) := by decide +kernel
theorem dX5_switchMachine_4 : decode cX5_switchMachine 4 = .ok (.iload_n 1, 1) := by decide +kernel
theorem dX5_switchMachine_5 : decode cX5_switchMachine 5 = .ok (.iload_n 2, 1) := by decide +kernel
theorem dX5_switchMachine_6 : decode cX5_switchMachine 6 = .ok (.invokevirtual 173, 3) := by decide +kernel
theorem dX5_switchMachine_9 : decode cX5_switchMachine 9 = .ok (.aload_n 0, 1) := by decide +kernel
theorem dX5_switchMachine_10 : decode cX5_switchMachine 10 = .ok (.getfield 42, 3) := by decide +kernel
theorem dX5_switchMachine_13 : decode cX5_switchMachine 13 = .ok (.aload_n 0, 1) := by decide +kernel
theorem dX5_switchMachine_14 : decode cX5_switchMachine 14 = .ok (.invokevirtual 89, 3) := by decide +kernel
theorem dX5_switchMachine_17 : decode cX5_switchMachine 17 = .ok (.iconst 0, 1) := by decide +kernel
theorem dX5_switchMachine_18 : decode cX5_switchMachine 18 = .ok (.istore_n 3, 1) := by decide +kernel
theorem dX5_switchMachine_19 : decode cX5_switchMachine 19 = .ok (.iload_n 3, 1) := by decide +kernel
theorem dX5_switchMachine_20 : decode cX5_switchMachine 20 = .ok (.aload_n 0, 1) := by decide +kernel
theorem dX5_switchMachine_21 : decode cX5_switchMachine 21 = .ok (.getfield 35, 3) := by decide +kernel
theorem dX5_switchMachine_24 : decode cX5_switchMachine 24 = .ok (.getfield 120, 3) := by decide +kernel
theorem dX5_switchMachine_27 : decode cX5_switchMachine 27 = .ok (.if_icmp .ge 30, 3) := by decide +kernel
theorem dX5_switchMachine_30 : decode cX5_switchMachine 30 = .ok (.iload_n 2, 1) := by decide +kernel
theorem dX5_switchMachine_31 : decode cX5_switchMachine 31 = .ok (.ifCond .ne 26, 3) := by decide +kernel
theorem dX5_switchMachine_34 : decode cX5_switchMachine 34 = .ok (.aload_n 0, 1) := by decide +kernel
theorem dX5_switchMachine_35 : decode cX5_switchMachine 35 = .ok (.getfield 35, 3) := by decide +kernel
theorem dX5_switchMachine_38 : decode cX5_switchMachine 38 = .ok (.iload_n 3, 1) := by decide +kernel
theorem dX5_switchMachine_39 : decode cX5_switchMachine 39 = .ok (.iload_n 1, 1) := by decide +kernel
theorem dX5_switchMachine_40 : decode cX5_switchMachine 40 = .ok (.invokevirtual 131, 3) := by decide +kernel
theorem dX5_switchMachine_43 : decode cX5_switchMachine 43 = .ok (.ifCond .eq 8, 3) := by decide +kernel
theorem dX5_switchMachine_46 : decode cX5_switchMachine 46 = .ok (.aload_n 0, 1) := by decide +kernel
theorem dX5_switchMachine_47 : decode cX5_switchMachine 47 = .ok (.iload_n 3, 1) := by decide +kernel
theorem dX5_switchMachine_48 : decode cX5_switchMachine 48 = .ok (.invokevirtual 167, 3) := by decide +kernel
theorem dX5_switchMachine_51 : decode cX5_switchMachine 51 = .ok (.iinc 3 1, 3) := by decide +kernel
theorem dX5_switchMachine_54 : decode cX5_switchMachine 54 = .ok (.goto (-35), 3) := by decide +kernel
theorem dX5_switchMachine_57 : decode cX5_switchMachine 57 = .ok (.aload_n 0, 1) := by decide +kernel
theorem dX5_switchMachine_58 : decode cX5_switchMachine 58 = .ok (.invokevirtual 93, 3) := by decide +kernel
theorem dX5_switchMachine_61 : decode cX5_switchMachine 61 = .ok (.return_, 1) := by decide +kernel
theorem dX5_passTick_0 : decode cX5_passTick 0 = .ok (.aload_n 0, 1) := by decide +kernel
theorem dX5_passTick_1 : decode cX5_passTick 1 = .ok (.dup, 1) := by decide +kernel
theorem dX5_passTick_2 : decode cX5_passTick 2 = .ok (.getfield 66, 3) := by decide +kernel
theorem dX5_passTick_5 : decode cX5_passTick 5 = .ok (.iconst 1, 1) := by decide +kernel
theorem dX5_passTick_6 : decode cX5_passTick 6 = .ok (.iadd, 1) := by decide +kernel
theorem dX5_passTick_7 : decode cX5_passTick 7 = .ok (.putfield 66, 3) := by decide +kernel
theorem dX5_passTick_10 : decode cX5_passTick 10 = .ok (.aload_n 0, 1) := by decide +kernel
theorem dX5_passTick_11 : decode cX5_passTick 11 = .ok (.invokevirtual 177, 3) := by decide +kernel
theorem dX5_passTick_14 : decode cX5_passTick 14 = .ok (.aload_n 0, 1) := by decide +kernel
theorem dX5_passTick_15 : decode cX5_passTick 15 = .ok (.getfield 46, 3) := by decide +kernel
theorem dX5_passTick_18 : decode cX5_passTick 18 = .ok (.iconst 0, 1) := by decide +kernel
theorem dX5_passTick_19 : decode cX5_passTick 19 = .ok (.iaload, 1) := by decide +kernel
theorem dX5_passTick_20 : decode cX5_passTick 20 = .ok (.istore_n 1, 1) := by decide +kernel
theorem dX5_passTick_21 : decode cX5_passTick 21 = .ok (.iload_n 1, 1) := by decide +kernel
theorem dX5_passTick_22 : decode cX5_passTick 22 = .ok (.ifCond .le 19, 3) := by decide +kernel
theorem dX5_passTick_25 : decode cX5_passTick 25 = .ok (.aload_n 0, 1) := by decide +kernel
theorem dX5_passTick_26 : decode cX5_passTick 26 = .ok (.getfield 66, 3) := by decide +kernel
theorem dX5_passTick_29 : decode cX5_passTick 29 = .ok (.iload_n 1, 1) := by decide +kernel
theorem dX5_passTick_30 : decode cX5_passTick 30 = .ok (.irem, 1) := by decide +kernel
theorem dX5_passTick_31 : decode cX5_passTick 31 = .ok (.ifCond .ne 10, 3) := by decide +kernel
theorem dX5_passTick_34 : decode cX5_passTick 34 = .ok (.aload_n 0, 1) := by decide +kernel
theorem dX5_passTick_35 : decode cX5_passTick 35 = .ok (.getfield 12, 3) := by decide +kernel
theorem dX5_passTick_38 : decode cX5_passTick 38 = .ok (.invokevirtual 180, 3) := by decide +kernel
theorem dX5_passTick_41 : decode cX5_passTick 41 = .ok (.aload_n 0, 1) := by decide +kernel
theorem dX5_passTick_42 : decode cX5_passTick 42 = .ok (.getfield 21, 3) := by decide +kernel
theorem dX5_passTick_45 : decode cX5_passTick 45 = .ok (.aload_n 0, 1) := by decide +kernel
theorem dX5_passTick_46 : decode cX5_passTick 46 = .ok (.getfield 66, 3) := by decide +kernel
theorem dX5_passTick_49 : decode cX5_passTick 49 = .ok (.invokevirtual 183, 3) := by decide +kernel
theorem dX5_passTick_52 : decode cX5_passTick 52 = .ok (.aload_n 0, 1) := by decide +kernel
theorem dX5_passTick_53 : decode cX5_passTick 53 = .ok (.getfield 42, 3) := by decide +kernel
theorem dX5_passTick_56 : decode cX5_passTick 56 = .ok (.aload_n 0, 1) := by decide +kernel
theorem dX5_passTick_57 : decode cX5_passTick 57 = .ok (.invokevirtual 89, 3) := by decide +kernel
theorem dX5_passTick_60 : decode cX5_passTick 60 = .ok (.aload_n 0, 1) := by decide +kernel
theorem dX5_passTick_61 : decode cX5_passTick 61 = .ok (.invokevirtual 93, 3) := by decide +kernel
theorem dX5_passTick_64 : decode cX5_passTick 64 = .ok (.aload_n 0, 1) := by decide +kernel
theorem dX5_passTick_65 : decode cX5_passTick 65 = .ok (.invokevirtual 186, 3) := by decide +kernel
theorem dX5_passTick_68 : decode cX5_passTick 68 = .ok (.return_, 1) := by decide +kernel
theorem dX5_workOn_0 : decode cX5_workOn 0 = .ok (.iconst 0, 1) := by decide +kernel
theorem dX5_workOn_1 : decode cX5_workOn 1 = .ok (.istore_n 1, 1) := by decide +kernel
theorem dX5_workOn_2 : decode cX5_workOn 2 = .ok (.iload_n 1, 1) := by decide +kernel
theorem dX5_workOn_3 : decode cX5_workOn 3 = .ok (.aload_n 0, 1) := by decide +kernel
theorem dX5_workOn_4 : decode cX5_workOn 4 = .ok (.getfield 35, 3) := by decide +kernel
theorem dX5_workOn_7 : decode cX5_workOn 7 = .ok (.getfield 120, 3) := by decide +kernel
theorem dX5_workOn_10 : decode cX5_workOn 10 = .ok (.if_icmp .ge 113, 3) := by decide +kernel
theorem dX5_workOn_13 : decode cX5_workOn 13 = .ok (.aload_n 0, 1) := by decide +kernel
theorem dX5_workOn_14 : decode cX5_workOn 14 = .ok (.getfield 35, 3) := by decide +kernel
theorem dX5_workOn_17 : decode cX5_workOn 17 = .ok (.getfield 121, 3) := by decide +kernel
theorem dX5_workOn_20 : decode cX5_workOn 20 = .ok (.iload_n 1, 1) := by decide +kernel
theorem dX5_workOn_21 : decode cX5_workOn 21 = .ok (.iaload, 1) := by decide +kernel
theorem dX5_workOn_22 : decode cX5_workOn 22 = .ok (.iconst 1, 1) := by decide +kernel
theorem dX5_workOn_23 : decode cX5_workOn 23 = .ok (.if_icmp .ne 69, 3) := by decide +kernel
theorem dX5_workOn_26 : decode cX5_workOn 26 = .ok (.aload_n 0, 1) := by decide +kernel
theorem dX5_workOn_27 : decode cX5_workOn 27 = .ok (.getfield 35, 3) := by decide +kernel
theorem dX5_workOn_30 : decode cX5_workOn 30 = .ok (.getfield 148, 3) := by decide +kernel
theorem dX5_workOn_33 : decode cX5_workOn 33 = .ok (.iload_n 1, 1) := by decide +kernel
theorem dX5_workOn_34 : decode cX5_workOn 34 = .ok (.dup2, 1) := by decide +kernel
theorem dX5_workOn_35 : decode cX5_workOn 35 = .ok (.iaload, 1) := by decide +kernel
theorem dX5_workOn_36 : decode cX5_workOn 36 = .ok (.iconst 1, 1) := by decide +kernel
theorem dX5_workOn_37 : decode cX5_workOn 37 = .ok (.iadd, 1) := by decide +kernel
theorem dX5_workOn_38 : decode cX5_workOn 38 = .ok (.iastore, 1) := by decide +kernel
theorem dX5_workOn_39 : decode cX5_workOn 39 = .ok (.aload_n 0, 1) := by decide +kernel
theorem dX5_workOn_40 : decode cX5_workOn 40 = .ok (.getfield 12, 3) := by decide +kernel
theorem dX5_workOn_43 : decode cX5_workOn 43 = .ok (.aload_n 0, 1) := by decide +kernel
theorem dX5_workOn_44 : decode cX5_workOn 44 = .ok (.getfield 35, 3) := by decide +kernel
theorem dX5_workOn_47 : decode cX5_workOn 47 = .ok (.getfield 124, 3) := by decide +kernel
theorem dX5_workOn_50 : decode cX5_workOn 50 = .ok (.iload_n 1, 1) := by decide +kernel
theorem dX5_workOn_51 : decode cX5_workOn 51 = .ok (.iaload, 1) := by decide +kernel
theorem dX5_workOn_52 : decode cX5_workOn 52 = .ok (.invokevirtual 189, 3) := by decide +kernel
theorem dX5_workOn_55 : decode cX5_workOn 55 = .ok (.aload_n 0, 1) := by decide +kernel
theorem dX5_workOn_56 : decode cX5_workOn 56 = .ok (.getfield 35, 3) := by decide +kernel
theorem dX5_workOn_59 : decode cX5_workOn 59 = .ok (.getfield 148, 3) := by decide +kernel
theorem dX5_workOn_62 : decode cX5_workOn 62 = .ok (.iload_n 1, 1) := by decide +kernel
theorem dX5_workOn_63 : decode cX5_workOn 63 = .ok (.iaload, 1) := by decide +kernel
theorem dX5_workOn_64 : decode cX5_workOn 64 = .ok (.aload_n 0, 1) := by decide +kernel
theorem dX5_workOn_65 : decode cX5_workOn 65 = .ok (.getfield 35, 3) := by decide +kernel
theorem dX5_workOn_68 : decode cX5_workOn 68 = .ok (.getfield 192, 3) := by decide +kernel
theorem dX5_workOn_71 : decode cX5_workOn 71 = .ok (.iload_n 1, 1) := by decide +kernel
theorem dX5_workOn_72 : decode cX5_workOn 72 = .ok (.iaload, 1) := by decide +kernel
theorem dX5_workOn_73 : decode cX5_workOn 73 = .ok (.if_icmp .lt 44, 3) := by decide +kernel
theorem dX5_workOn_76 : decode cX5_workOn 76 = .ok (.aload_n 0, 1) := by decide +kernel
theorem dX5_workOn_77 : decode cX5_workOn 77 = .ok (.getfield 35, 3) := by decide +kernel
theorem dX5_workOn_80 : decode cX5_workOn 80 = .ok (.iload_n 1, 1) := by decide +kernel
theorem dX5_workOn_81 : decode cX5_workOn 81 = .ok (.iconst 2, 1) := by decide +kernel
theorem dX5_workOn_82 : decode cX5_workOn 82 = .ok (.aload_n 0, 1) := by decide +kernel
theorem dX5_workOn_83 : decode cX5_workOn 83 = .ok (.getfield 66, 3) := by decide +kernel
theorem dX5_workOn_86 : decode cX5_workOn 86 = .ok (.invokevirtual 195, 3) := by decide +kernel
theorem dX5_workOn_89 : decode cX5_workOn 89 = .ok (.goto 28, 3) := by decide +kernel
theorem dX5_workOn_92 : decode cX5_workOn 92 = .ok (.aload_n 0, 1) := by decide +kernel
theorem dX5_workOn_93 : decode cX5_workOn 93 = .ok (.getfield 35, 3) := by decide +kernel
theorem dX5_workOn_96 : decode cX5_workOn 96 = .ok (.getfield 121, 3) := by decide +kernel
theorem dX5_workOn_99 : decode cX5_workOn 99 = .ok (.iload_n 1, 1) := by decide +kernel
theorem dX5_workOn_100 : decode cX5_workOn 100 = .ok (.iaload, 1) := by decide +kernel
theorem dX5_workOn_101 : decode cX5_workOn 101 = .ok (.ifCond .ne 16, 3) := by decide +kernel
theorem dX5_workOn_104 : decode cX5_workOn 104 = .ok (.aload_n 0, 1) := by decide +kernel
theorem dX5_workOn_105 : decode cX5_workOn 105 = .ok (.getfield 35, 3) := by decide +kernel
theorem dX5_workOn_108 : decode cX5_workOn 108 = .ok (.getfield 199, 3) := by decide +kernel
theorem dX5_workOn_111 : decode cX5_workOn 111 = .ok (.iload_n 1, 1) := by decide +kernel
theorem dX5_workOn_112 : decode cX5_workOn 112 = .ok (.dup2, 1) := by decide +kernel
theorem dX5_workOn_113 : decode cX5_workOn 113 = .ok (.iaload, 1) := by decide +kernel
theorem dX5_workOn_114 : decode cX5_workOn 114 = .ok (.iconst 1, 1) := by decide +kernel
theorem dX5_workOn_115 : decode cX5_workOn 115 = .ok (.iadd, 1) := by decide +kernel
theorem dX5_workOn_116 : decode cX5_workOn 116 = .ok (.iastore, 1) := by decide +kernel
theorem dX5_workOn_117 : decode cX5_workOn 117 = .ok (.iinc 1 1, 3) := by decide +kernel
theorem dX5_workOn_120 : decode cX5_workOn 120 = .ok (.goto (-118), 3) := by decide +kernel
theorem dX5_workOn_123 : decode cX5_workOn 123 = .ok (.return_, 1) := by decide +kernel
theorem dX5_leafRanked_0 : decode cX5_leafRanked 0 = .ok (.aload_n 0, 1) := by decide +kernel
theorem dX5_leafRanked_1 : decode cX5_leafRanked 1 = .ok (.getfield 42, 3) := by decide +kernel
theorem dX5_leafRanked_4 : decode cX5_leafRanked 4 = .ok (.aload_n 0, 1) := by decide +kernel
theorem dX5_leafRanked_5 : decode cX5_leafRanked 5 = .ok (.invokevirtual 89, 3) := by decide +kernel
theorem dX5_leafRanked_8 : decode cX5_leafRanked 8 = .ok (.iconst 0, 1) := by decide +kernel
theorem dX5_leafRanked_9 : decode cX5_leafRanked 9 = .ok (.istore_n 2, 1) := by decide +kernel
theorem dX5_leafRanked_10 : decode cX5_leafRanked 10 = .ok (.iload_n 2, 1) := by decide +kernel
theorem dX5_leafRanked_11 : decode cX5_leafRanked 11 = .ok (.aload_n 0, 1) := by decide +kernel
theorem dX5_leafRanked_12 : decode cX5_leafRanked 12 = .ok (.getfield 12, 3) := by decide +kernel
theorem dX5_leafRanked_15 : decode cX5_leafRanked 15 = .ok (.getfield 202, 3) := by decide +kernel
theorem dX5_leafRanked_18 : decode cX5_leafRanked 18 = .ok (.if_icmp .ge 31, 3) := by decide +kernel
theorem dX5_leafRanked_21 : decode cX5_leafRanked 21 = .ok (.aload_n 0, 1) := by decide +kernel
theorem dX5_leafRanked_22 : decode cX5_leafRanked 22 = .ok (.getfield 12, 3) := by decide +kernel
theorem dX5_leafRanked_25 : decode cX5_leafRanked 25 = .ok (.iload_n 2, 1) := by decide +kernel
theorem dX5_leafRanked_26 : decode cX5_leafRanked 26 = .ok (.invokevirtual 203, 3) := by decide +kernel
theorem dX5_leafRanked_29 : decode cX5_leafRanked 29 = .ok (.ifCond .eq 14, 3) := by decide +kernel
theorem dX5_leafRanked_32 : decode cX5_leafRanked 32 = .ok (.aload_n 0, 1) := by decide +kernel
theorem dX5_leafRanked_33 : decode cX5_leafRanked 33 = .ok (.iload_n 2, 1) := by decide +kernel
theorem dX5_leafRanked_34 : decode cX5_leafRanked 34 = .ok (.invokevirtual 206, 3) := by decide +kernel
theorem dX5_leafRanked_37 : decode cX5_leafRanked 37 = .ok (.iload_n 1, 1) := by decide +kernel
theorem dX5_leafRanked_38 : decode cX5_leafRanked 38 = .ok (.if_icmp .ne 5, 3) := by decide +kernel
theorem dX5_leafRanked_41 : decode cX5_leafRanked 41 = .ok (.iload_n 2, 1) := by decide +kernel
theorem dX5_leafRanked_42 : decode cX5_leafRanked 42 = .ok (.ireturn, 1) := by decide +kernel
theorem dX5_leafRanked_43 : decode cX5_leafRanked 43 = .ok (.iinc 2 1, 3) := by decide +kernel
theorem dX5_leafRanked_46 : decode cX5_leafRanked 46 = .ok (.goto (-36), 3) := by decide +kernel
theorem dX5_leafRanked_49 : decode cX5_leafRanked 49 = .ok (.iconst (-1), 1) := by decide +kernel
theorem dX5_leafRanked_50 : decode cX5_leafRanked 50 = .ok (.ireturn, 1) := by decide +kernel
theorem dX5_leavesBefore_0 : decode cX5_leavesBefore 0 = .ok (.iconst 0, 1) := by decide +kernel
theorem dX5_leavesBefore_1 : decode cX5_leavesBefore 1 = .ok (.istore_n 2, 1) := by decide +kernel
theorem dX5_leavesBefore_2 : decode cX5_leavesBefore 2 = .ok (.aload_n 0, 1) := by decide +kernel
theorem dX5_leavesBefore_3 : decode cX5_leavesBefore 3 = .ok (.getfield 42, 3) := by decide +kernel
theorem dX5_leavesBefore_6 : decode cX5_leavesBefore 6 = .ok (.iload_n 1, 1) := by decide +kernel
theorem dX5_leavesBefore_7 : decode cX5_leavesBefore 7 = .ok (.invokevirtual 127, 3) := by decide +kernel
theorem dX5_leavesBefore_10 : decode cX5_leavesBefore 10 = .ok (.lstore_n 3, 1) := by decide +kernel
theorem dX5_leavesBefore_11 : decode cX5_leavesBefore 11 = .ok (.iconst 0, 1) := by decide +kernel
theorem dX5_leavesBefore_12 : decode cX5_leavesBefore 12 = .ok (.istore 5, 2) := by decide +kernel
theorem dX5_leavesBefore_14 : decode cX5_leavesBefore 14 = .ok (.iload 5, 2) := by decide +kernel
theorem dX5_leavesBefore_16 : decode cX5_leavesBefore 16 = .ok (.aload_n 0, 1) := by decide +kernel
theorem dX5_leavesBefore_17 : decode cX5_leavesBefore 17 = .ok (.getfield 12, 3) := by decide +kernel
theorem dX5_leavesBefore_20 : decode cX5_leavesBefore 20 = .ok (.getfield 202, 3) := by decide +kernel
theorem dX5_leavesBefore_23 : decode cX5_leavesBefore 23 = .ok (.if_icmp .ge 55, 3) := by decide +kernel
theorem dX5_leavesBefore_26 : decode cX5_leavesBefore 26 = .ok (.aload_n 0, 1) := by decide +kernel
theorem dX5_leavesBefore_27 : decode cX5_leavesBefore 27 = .ok (.getfield 42, 3) := by decide +kernel
theorem dX5_leavesBefore_30 : decode cX5_leavesBefore 30 = .ok (.iload 5, 2) := by decide +kernel
theorem dX5_leavesBefore_32 : decode cX5_leavesBefore 32 = .ok (.invokevirtual 127, 3) := by decide +kernel
theorem dX5_leavesBefore_35 : decode cX5_leavesBefore 35 = .ok (.lstore 6, 2) := by decide +kernel
theorem dX5_leavesBefore_37 : decode cX5_leavesBefore 37 = .ok (.aload_n 0, 1) := by decide +kernel
theorem dX5_leavesBefore_38 : decode cX5_leavesBefore 38 = .ok (.getfield 12, 3) := by decide +kernel
theorem dX5_leavesBefore_41 : decode cX5_leavesBefore 41 = .ok (.iload 5, 2) := by decide +kernel
theorem dX5_leavesBefore_43 : decode cX5_leavesBefore 43 = .ok (.invokevirtual 203, 3) := by decide +kernel
theorem dX5_leavesBefore_46 : decode cX5_leavesBefore 46 = .ok (.ifCond .eq 26, 3) := by decide +kernel
theorem dX5_leavesBefore_49 : decode cX5_leavesBefore 49 = .ok (.lload 6, 2) := by decide +kernel
theorem dX5_leavesBefore_51 : decode cX5_leavesBefore 51 = .ok (.lload_n 3, 1) := by decide +kernel
theorem dX5_leavesBefore_52 : decode cX5_leavesBefore 52 = .ok (.lcmp, 1) := by decide +kernel
theorem dX5_leavesBefore_53 : decode cX5_leavesBefore 53 = .ok (.ifCond .gt 16, 3) := by decide +kernel
theorem dX5_leavesBefore_56 : decode cX5_leavesBefore 56 = .ok (.lload 6, 2) := by decide +kernel
theorem dX5_leavesBefore_58 : decode cX5_leavesBefore 58 = .ok (.lload_n 3, 1) := by decide +kernel
theorem dX5_leavesBefore_59 : decode cX5_leavesBefore 59 = .ok (.lcmp, 1) := by decide +kernel
theorem dX5_leavesBefore_60 : decode cX5_leavesBefore 60 = .ok (.ifCond .ne 12, 3) := by decide +kernel
theorem dX5_leavesBefore_63 : decode cX5_leavesBefore 63 = .ok (.iload 5, 2) := by decide +kernel
theorem dX5_leavesBefore_65 : decode cX5_leavesBefore 65 = .ok (.iload_n 1, 1) := by decide +kernel
theorem dX5_leavesBefore_66 : decode cX5_leavesBefore 66 = .ok (.if_icmp .ge 6, 3) := by decide +kernel
theorem dX5_leavesBefore_69 : decode cX5_leavesBefore 69 = .ok (.iinc 2 1, 3) := by decide +kernel
theorem dX5_leavesBefore_72 : decode cX5_leavesBefore 72 = .ok (.iinc 5 1, 3) := by decide +kernel
theorem dX5_leavesBefore_75 : decode cX5_leavesBefore 75 = .ok (.goto (-61), 3) := by decide +kernel
theorem dX5_leavesBefore_78 : decode cX5_leavesBefore 78 = .ok (.iload_n 2, 1) := by decide +kernel
theorem dX5_leavesBefore_79 : decode cX5_leavesBefore 79 = .ok (.ireturn, 1) := by decide +kernel
theorem dX6_init_0 : decode cX6_init 0 = .ok (.aload_n 0, 1) := by decide +kernel
theorem dX6_init_1 : decode cX6_init 1 = .ok (.invokespecial 3, 3) := by decide +kernel
theorem dX6_init_4 : decode cX6_init 4 = .ok (.aload_n 0, 1) := by decide +kernel
theorem dX6_init_5 : decode cX6_init 5 = .ok (.bipush 12, 2) := by decide +kernel
theorem dX6_init_7 : decode cX6_init 7 = .ok (.newarray .int, 2) := by decide +kernel
theorem dX6_init_9 : decode cX6_init 9 = .ok (.putfield 9, 3) := by decide +kernel
theorem dX6_init_12 : decode cX6_init 12 = .ok (.aload_n 0, 1) := by decide +kernel
theorem dX6_init_13 : decode cX6_init 13 = .ok (.bipush 12, 2) := by decide +kernel
theorem dX6_init_15 : decode cX6_init 15 = .ok (.newarray .int, 2) := by decide +kernel
theorem dX6_init_17 : decode cX6_init 17 = .ok (.putfield 15, 3) := by decide +kernel
theorem dX6_init_20 : decode cX6_init 20 = .ok (.aload_n 0, 1) := by decide +kernel
theorem dX6_init_21 : decode cX6_init 21 = .ok (.bipush 12, 2) := by decide +kernel
theorem dX6_init_23 : decode cX6_init 23 = .ok (.newarray .int, 2) := by decide +kernel
theorem dX6_init_25 : decode cX6_init 25 = .ok (.putfield 18, 3) := by decide +kernel
theorem dX6_init_28 : decode cX6_init 28 = .ok (.aload_n 0, 1) := by decide +kernel
theorem dX6_init_29 : decode cX6_init 29 = .ok (.bipush 6, 2) := by decide +kernel
theorem dX6_init_31 : decode cX6_init 31 = .ok (.newarray .int, 2) := by decide +kernel
theorem dX6_init_33 : decode cX6_init 33 = .ok (.putfield 21, 3) := by decide +kernel
theorem dX6_init_36 : decode cX6_init 36 = .ok (.aload_n 0, 1) := by decide +kernel
theorem dX6_init_37 : decode cX6_init 37 = .ok (.bipush 12, 2) := by decide +kernel
theorem dX6_init_39 : decode cX6_init 39 = .ok (.newarray .long, 2) := by decide +kernel
theorem dX6_init_41 : decode cX6_init 41 = .ok (.putfield 24, 3) := by decide +kernel
theorem dX6_init_44 : decode cX6_init 44 = .ok (.aload_n 0, 1) := by decide +kernel
theorem dX6_init_45 : decode cX6_init 45 = .ok (.bipush 12, 2) := by decide +kernel
theorem dX6_init_47 : decode cX6_init 47 = .ok (.newarray .long, 2) := by decide +kernel
theorem dX6_init_49 : decode cX6_init 49 = .ok (.putfield 28, 3) := by decide +kernel
theorem dX6_init_52 : decode cX6_init 52 = .ok (.return_, 1) := by decide +kernel
theorem dX6_survey_0 : decode cX6_survey 0 = .ok (.aload_n 0, 1) := by decide +kernel
theorem dX6_survey_1 : decode cX6_survey 1 = .ok (.aload_n 1, 1) := by decide +kernel
theorem dX6_survey_2 : decode cX6_survey 2 = .ok (.invokevirtual 31, 3) := by decide +kernel
theorem dX6_survey_5 : decode cX6_survey 5 = .ok (.aload_n 0, 1) := by decide +kernel
theorem dX6_survey_6 : decode cX6_survey 6 = .ok (.aload_n 1, 1) := by decide +kernel
theorem dX6_survey_7 : decode cX6_survey 7 = .ok (.invokevirtual 35, 3) := by decide +kernel
theorem dX6_survey_10 : decode cX6_survey 10 = .ok (.iconst 0, 1) := by decide +kernel
theorem dX6_survey_11 : decode cX6_survey 11 = .ok (.istore_n 2, 1) := by decide +kernel
theorem dX6_survey_12 : decode cX6_survey 12 = .ok (.iload_n 2, 1) := by decide +kernel
theorem dX6_survey_13 : decode cX6_survey 13 = .ok (.aload_n 1, 1) := by decide +kernel
theorem dX6_survey_14 : decode cX6_survey 14 = .ok (.getfield 38, 3) := by decide +kernel
theorem dX6_survey_17 : decode cX6_survey 17 = .ok (.getfield 44, 3) := by decide +kernel
theorem dX6_survey_20 : decode cX6_survey 20 = .ok (.if_icmp .ge 18, 3) := by decide +kernel
theorem dX6_survey_23 : decode cX6_survey 23 = .ok (.aload_n 0, 1) := by decide +kernel
theorem dX6_survey_24 : decode cX6_survey 24 = .ok (.aload_n 1, 1) := by decide +kernel
theorem dX6_survey_25 : decode cX6_survey 25 = .ok (.getfield 38, 3) := by decide +kernel
theorem dX6_survey_28 : decode cX6_survey 28 = .ok (.iload_n 2, 1) := by decide +kernel
theorem dX6_survey_29 : decode cX6_survey 29 = .ok (.invokevirtual 50, 3) := by decide +kernel
theorem dX6_survey_32 : decode cX6_survey 32 = .ok (.iinc 2 1, 3) := by decide +kernel
theorem dX6_survey_35 : decode cX6_survey 35 = .ok (.goto (-23), 3) := by decide +kernel
theorem dX6_survey_38 : decode cX6_survey 38 = .ok (.return_, 1) := by decide +kernel
theorem dX6_countJobs_0 : decode cX6_countJobs 0 = .ok (.iconst 0, 1) := by decide +kernel
theorem dX6_countJobs_1 : decode cX6_countJobs 1 = .ok (.istore_n 2, 1) := by decide +kernel
theorem dX6_countJobs_2 : decode cX6_countJobs 2 = .ok (.iload_n 2, 1) := by decide +kernel
theorem dX6_countJobs_3 : decode cX6_countJobs 3 = .ok (.bipush 12, 2) := by decide +kernel
theorem dX6_countJobs_5 : decode cX6_countJobs 5 = .ok (.if_icmp .ge 23, 3) := by decide +kernel
theorem dX6_countJobs_8 : decode cX6_countJobs 8 = .ok (.aload_n 0, 1) := by decide +kernel
theorem dX6_countJobs_9 : decode cX6_countJobs 9 = .ok (.getfield 9, 3) := by decide +kernel
theorem dX6_countJobs_12 : decode cX6_countJobs 12 = .ok (.iload_n 2, 1) := by decide +kernel
theorem dX6_countJobs_13 : decode cX6_countJobs 13 = .ok (.iconst 0, 1) := by decide +kernel
theorem dX6_countJobs_14 : decode cX6_countJobs 14 = .ok (.iastore, 1) := by decide +kernel
theorem dX6_countJobs_15 : decode cX6_countJobs 15 = .ok (.aload_n 0, 1) := by decide +kernel
theorem dX6_countJobs_16 : decode cX6_countJobs 16 = .ok (.getfield 15, 3) := by decide +kernel
theorem dX6_countJobs_19 : decode cX6_countJobs 19 = .ok (.iload_n 2, 1) := by decide +kernel
theorem dX6_countJobs_20 : decode cX6_countJobs 20 = .ok (.iconst 0, 1) := by decide +kernel
theorem dX6_countJobs_21 : decode cX6_countJobs 21 = .ok (.iastore, 1) := by decide +kernel
theorem dX6_countJobs_22 : decode cX6_countJobs 22 = .ok (.iinc 2 1, 3) := by decide +kernel
theorem dX6_countJobs_25 : decode cX6_countJobs 25 = .ok (.goto (-23), 3) := by decide +kernel
theorem dX6_countJobs_28 : decode cX6_countJobs 28 = .ok (.iconst 0, 1) := by decide +kernel
theorem dX6_countJobs_29 : decode cX6_countJobs 29 = .ok (.istore_n 2, 1) := by decide +kernel
theorem dX6_countJobs_30 : decode cX6_countJobs 30 = .ok (.iload_n 2, 1) := by decide +kernel
theorem dX6_countJobs_31 : decode cX6_countJobs 31 = .ok (.bipush 6, 2) := by decide +kernel
theorem dX6_countJobs_33 : decode cX6_countJobs 33 = .ok (.if_icmp .ge 16, 3) := by decide +kernel
theorem dX6_countJobs_36 : decode cX6_countJobs 36 = .ok (.aload_n 0, 1) := by decide +kernel
theorem dX6_countJobs_37 : decode cX6_countJobs 37 = .ok (.getfield 21, 3) := by decide +kernel
theorem dX6_countJobs_40 : decode cX6_countJobs 40 = .ok (.iload_n 2, 1) := by decide +kernel
theorem dX6_countJobs_41 : decode cX6_countJobs 41 = .ok (.iconst 0, 1) := by decide +kernel
theorem dX6_countJobs_42 : decode cX6_countJobs 42 = .ok (.iastore, 1) := by decide +kernel
theorem dX6_countJobs_43 : decode cX6_countJobs 43 = .ok (.iinc 2 1, 3) := by decide +kernel
theorem dX6_countJobs_46 : decode cX6_countJobs 46 = .ok (.goto (-16), 3) := by decide +kernel
theorem dX6_countJobs_49 : decode cX6_countJobs 49 = .ok (.aload_n 1, 1) := by decide +kernel
theorem dX6_countJobs_50 : decode cX6_countJobs 50 = .ok (.getfield 54, 3) := by decide +kernel
theorem dX6_countJobs_53 : decode cX6_countJobs 53 = .ok (.astore_n 2, 1) := by decide +kernel
theorem dX6_countJobs_54 : decode cX6_countJobs 54 = .ok (.iconst 0, 1) := by decide +kernel
theorem dX6_countJobs_55 : decode cX6_countJobs 55 = .ok (.istore_n 3, 1) := by decide +kernel
theorem dX6_countJobs_56 : decode cX6_countJobs 56 = .ok (.iload_n 3, 1) := by decide +kernel
theorem dX6_countJobs_57 : decode cX6_countJobs 57 = .ok (.aload_n 2, 1) := by decide +kernel
theorem dX6_countJobs_58 : decode cX6_countJobs 58 = .ok (.getfield 58, 3) := by decide +kernel
theorem dX6_countJobs_61 : decode cX6_countJobs 61 = .ok (.if_icmp .ge 107, 3) := by decide +kernel
theorem dX6_countJobs_64 : decode cX6_countJobs 64 = .ok (.aload_n 2, 1) := by decide +kernel
theorem dX6_countJobs_65 : decode cX6_countJobs 65 = .ok (.getfield 61, 3) := by decide +kernel
theorem dX6_countJobs_68 : decode cX6_countJobs 68 = .ok (.iload_n 3, 1) := by decide +kernel
theorem dX6_countJobs_69 : decode cX6_countJobs 69 = .ok (.iaload, 1) := by decide +kernel
theorem dX6_countJobs_70 : decode cX6_countJobs 70 = .ok (.istore 4, 2) := by decide +kernel
theorem dX6_countJobs_72 : decode cX6_countJobs 72 = .ok (.aload_n 2, 1) := by decide +kernel
theorem dX6_countJobs_73 : decode cX6_countJobs 73 = .ok (.getfield 64, 3) := by decide +kernel
theorem dX6_countJobs_76 : decode cX6_countJobs 76 = .ok (.iload_n 3, 1) := by decide +kernel
theorem dX6_countJobs_77 : decode cX6_countJobs 77 = .ok (.iaload, 1) := by decide +kernel
theorem dX6_countJobs_78 : decode cX6_countJobs 78 = .ok (.istore 5, 2) := by decide +kernel
theorem dX6_countJobs_80 : decode cX6_countJobs 80 = .ok (.aload_n 1, 1) := by decide +kernel
theorem dX6_countJobs_81 : decode cX6_countJobs 81 = .ok (.getfield 38, 3) := by decide +kernel
theorem dX6_countJobs_84 : decode cX6_countJobs 84 = .ok (.iload 4, 2) := by decide +kernel
theorem dX6_countJobs_86 : decode cX6_countJobs 86 = .ok (.invokevirtual 67, 3) := by decide +kernel
theorem dX6_countJobs_89 : decode cX6_countJobs 89 = .ok (.ifCond .ne 6, 3) := by decide +kernel
theorem dX6_countJobs_92 : decode cX6_countJobs 92 = .ok (.goto 70, 3) := by decide +kernel
theorem dX6_countJobs_95 : decode cX6_countJobs 95 = .ok (.aload_n 2, 1) := by decide +kernel
theorem dX6_countJobs_96 : decode cX6_countJobs 96 = .ok (.getfield 71, 3) := by decide +kernel
theorem dX6_countJobs_99 : decode cX6_countJobs 99 = .ok (.iload_n 3, 1) := by decide +kernel
theorem dX6_countJobs_100 : decode cX6_countJobs 100 = .ok (.iaload, 1) := by decide +kernel
theorem dX6_countJobs_101 : decode cX6_countJobs 101 = .ok (.ifCond .ne 17, 3) := by decide +kernel
theorem dX6_countJobs_104 : decode cX6_countJobs 104 = .ok (.aload_n 0, 1) := by decide +kernel
theorem dX6_countJobs_105 : decode cX6_countJobs 105 = .ok (.getfield 15, 3) := by decide +kernel
theorem dX6_countJobs_108 : decode cX6_countJobs 108 = .ok (.iload 4, 2) := by decide +kernel
theorem dX6_countJobs_110 : decode cX6_countJobs 110 = .ok (.dup2, 1) := by decide +kernel
theorem dX6_countJobs_111 : decode cX6_countJobs 111 = .ok (.iaload, 1) := by decide +kernel
theorem dX6_countJobs_112 : decode cX6_countJobs 112 = .ok (.iconst 1, 1) := by decide +kernel
theorem dX6_countJobs_113 : decode cX6_countJobs 113 = .ok (.iadd, 1) := by decide +kernel
theorem dX6_countJobs_114 : decode cX6_countJobs 114 = .ok (.iastore, 1) := by decide +kernel
theorem dX6_countJobs_115 : decode cX6_countJobs 115 = .ok (.goto 47, 3) := by decide +kernel
theorem dX6_countJobs_118 : decode cX6_countJobs 118 = .ok (.aload_n 2, 1) := by decide +kernel
theorem dX6_countJobs_119 : decode cX6_countJobs 119 = .ok (.getfield 71, 3) := by decide +kernel
theorem dX6_countJobs_122 : decode cX6_countJobs 122 = .ok (.iload_n 3, 1) := by decide +kernel
theorem dX6_countJobs_123 : decode cX6_countJobs 123 = .ok (.iaload, 1) := by decide +kernel
theorem dX6_countJobs_124 : decode cX6_countJobs 124 = .ok (.iconst 1, 1) := by decide +kernel
theorem dX6_countJobs_125 : decode cX6_countJobs 125 = .ok (.if_icmp .ne 37, 3) := by decide +kernel
theorem dX6_countJobs_128 : decode cX6_countJobs 128 = .ok (.aload_n 1, 1) := by decide +kernel
theorem dX6_countJobs_129 : decode cX6_countJobs 129 = .ok (.getfield 74, 3) := by decide +kernel
theorem dX6_countJobs_132 : decode cX6_countJobs 132 = .ok (.iload 5, 2) := by decide +kernel
theorem dX6_countJobs_134 : decode cX6_countJobs 134 = .ok (.invokevirtual 78, 3) := by decide +kernel
theorem dX6_countJobs_137 : decode cX6_countJobs 137 = .ok (.ifCond .eq 25, 3) := by decide +kernel
theorem dX6_countJobs_140 : decode cX6_countJobs 140 = .ok (.aload_n 0, 1) := by decide +kernel
theorem dX6_countJobs_141 : decode cX6_countJobs 141 = .ok (.getfield 9, 3) := by decide +kernel
theorem dX6_countJobs_144 : decode cX6_countJobs 144 = .ok (.iload 4, 2) := by decide +kernel
theorem dX6_countJobs_146 : decode cX6_countJobs 146 = .ok (.dup2, 1) := by decide +kernel
theorem dX6_countJobs_147 : decode cX6_countJobs 147 = .ok (.iaload, 1) := by decide +kernel
theorem dX6_countJobs_148 : decode cX6_countJobs 148 = .ok (.iconst 1, 1) := by decide +kernel
theorem dX6_countJobs_149 : decode cX6_countJobs 149 = .ok (.iadd, 1) := by decide +kernel
theorem dX6_countJobs_150 : decode cX6_countJobs 150 = .ok (.iastore, 1) := by decide +kernel
theorem dX6_countJobs_151 : decode cX6_countJobs 151 = .ok (.aload_n 0, 1) := by decide +kernel
theorem dX6_countJobs_152 : decode cX6_countJobs 152 = .ok (.getfield 21, 3) := by decide +kernel
theorem dX6_countJobs_155 : decode cX6_countJobs 155 = .ok (.iload 5, 2) := by decide +kernel
theorem dX6_countJobs_157 : decode cX6_countJobs 157 = .ok (.dup2, 1) := by decide +kernel
theorem dX6_countJobs_158 : decode cX6_countJobs 158 = .ok (.iaload, 1) := by decide +kernel
theorem dX6_countJobs_159 : decode cX6_countJobs 159 = .ok (.iconst 1, 1) := by decide +kernel
theorem dX6_countJobs_160 : decode cX6_countJobs 160 = .ok (.iadd, 1) := by decide +kernel
theorem dX6_countJobs_161 : decode cX6_countJobs 161 = .ok (.iastore, 1) := by decide +kernel
theorem dX6_countJobs_162 : decode cX6_countJobs 162 = .ok (.iinc 3 1, 3) := by decide +kernel
theorem dX6_countJobs_165 : decode cX6_countJobs 165 = .ok (.goto (-109), 3) := by decide +kernel
theorem dX6_countJobs_168 : decode cX6_countJobs 168 = .ok (.return_, 1) := by decide +kernel
theorem dX6_dealTickets_0 : decode cX6_dealTickets 0 = .ok (.aload_n 1, 1) := by decide +kernel
theorem dX6_dealTickets_1 : decode cX6_dealTickets 1 = .ok (.getfield 38, 3) := by decide +kernel
theorem dX6_dealTickets_4 : decode cX6_dealTickets 4 = .ok (.astore_n 2, 1) := by decide +kernel
theorem dX6_dealTickets_5 : decode cX6_dealTickets 5 = .ok (.aload_n 1, 1) := by decide +kernel
theorem dX6_dealTickets_6 : decode cX6_dealTickets 6 = .ok (.getfield 81, 3) := by decide +kernel
theorem dX6_dealTickets_9 : decode cX6_dealTickets 9 = .ok (.astore_n 3, 1) := by decide +kernel
theorem dX6_dealTickets_10 : decode cX6_dealTickets 10 = .ok (.aload_n 2, 1) := by decide +kernel
theorem dX6_dealTickets_11 : decode cX6_dealTickets 11 = .ok (.getfield 85, 3) := by decide +kernel
theorem dX6_dealTickets_14 : decode cX6_dealTickets 14 = .ok (.iconst 0, 1) := by decide +kernel
theorem dX6_dealTickets_15 : decode cX6_dealTickets 15 = .ok (.aload_n 0, 1) := by decide +kernel
theorem dX6_dealTickets_16 : decode cX6_dealTickets 16 = .ok (.getfield 18, 3) := by decide +kernel
theorem dX6_dealTickets_19 : decode cX6_dealTickets 19 = .ok (.iconst 0, 1) := by decide +kernel
theorem dX6_dealTickets_20 : decode cX6_dealTickets 20 = .ok (.bipush 12, 2) := by decide +kernel
theorem dX6_dealTickets_22 : decode cX6_dealTickets 22 = .ok (.invokestatic 88, 3) := by decide +kernel
theorem dX6_dealTickets_25 : decode cX6_dealTickets 25 = .ok (.iconst 0, 1) := by decide +kernel
theorem dX6_dealTickets_26 : decode cX6_dealTickets 26 = .ok (.istore 4, 2) := by decide +kernel
theorem dX6_dealTickets_28 : decode cX6_dealTickets 28 = .ok (.iload 4, 2) := by decide +kernel
theorem dX6_dealTickets_30 : decode cX6_dealTickets 30 = .ok (.aload_n 3, 1) := by decide +kernel
theorem dX6_dealTickets_31 : decode cX6_dealTickets 31 = .ok (.getfield 94, 3) := by decide +kernel
theorem dX6_dealTickets_34 : decode cX6_dealTickets 34 = .ok (.if_icmp .ge 102, 3) := by decide +kernel
theorem dX6_dealTickets_37 : decode cX6_dealTickets 37 = .ok (.aload_n 3, 1) := by decide +kernel
theorem dX6_dealTickets_38 : decode cX6_dealTickets 38 = .ok (.getfield 97, 3) := by decide +kernel
theorem dX6_dealTickets_41 : decode cX6_dealTickets 41 = .ok (.iload 4, 2) := by decide +kernel
theorem dX6_dealTickets_43 : decode cX6_dealTickets 43 = .ok (.iaload, 1) := by decide +kernel
theorem dX6_dealTickets_44 : decode cX6_dealTickets 44 = .ok (.istore 5, 2) := by decide +kernel
theorem dX6_dealTickets_46 : decode cX6_dealTickets 46 = .ok (.aload_n 3, 1) := by decide +kernel
theorem dX6_dealTickets_47 : decode cX6_dealTickets 47 = .ok (.getfield 100, 3) := by decide +kernel
theorem dX6_dealTickets_50 : decode cX6_dealTickets 50 = .ok (.iload 4, 2) := by decide +kernel
theorem dX6_dealTickets_52 : decode cX6_dealTickets 52 = .ok (.iaload, 1) := by decide +kernel
theorem dX6_dealTickets_53 : decode cX6_dealTickets 53 = .ok (.istore 6, 2) := by decide +kernel
theorem dX6_dealTickets_55 : decode cX6_dealTickets 55 = .ok (.aload_n 2, 1) := by decide +kernel
theorem dX6_dealTickets_56 : decode cX6_dealTickets 56 = .ok (.iload 5, 2) := by decide +kernel
theorem dX6_dealTickets_58 : decode cX6_dealTickets 58 = .ok (.invokevirtual 67, 3) := by decide +kernel
theorem dX6_dealTickets_61 : decode cX6_dealTickets 61 = .ok (.ifCond .eq 69, 3) := by decide +kernel
theorem dX6_dealTickets_64 : decode cX6_dealTickets 64 = .ok (.aload_n 2, 1) := by decide +kernel
theorem dX6_dealTickets_65 : decode cX6_dealTickets 65 = .ok (.iload 6, 2) := by decide +kernel
theorem dX6_dealTickets_67 : decode cX6_dealTickets 67 = .ok (.invokevirtual 67, 3) := by decide +kernel
theorem dX6_dealTickets_70 : decode cX6_dealTickets 70 = .ok (.ifCond .eq 60, 3) := by decide +kernel
theorem dX6_dealTickets_73 : decode cX6_dealTickets 73 = .ok (.aload_n 3, 1) := by decide +kernel
theorem dX6_dealTickets_74 : decode cX6_dealTickets 74 = .ok (.iload 4, 2) := by decide +kernel
theorem dX6_dealTickets_76 : decode cX6_dealTickets 76 = .ok (.aload_n 1, 1) := by decide +kernel
theorem dX6_dealTickets_77 : decode cX6_dealTickets 77 = .ok (.getfield 103, 3) := by decide +kernel
theorem dX6_dealTickets_80 : decode cX6_dealTickets 80 = .ok (.invokevirtual 106, 3) := by decide +kernel
theorem dX6_dealTickets_83 : decode cX6_dealTickets 83 = .ok (.ifCond .eq 13, 3) := by decide +kernel
theorem dX6_dealTickets_86 : decode cX6_dealTickets 86 = .ok (.aload_n 3, 1) := by decide +kernel
theorem dX6_dealTickets_87 : decode cX6_dealTickets 87 = .ok (.getfield 110, 3) := by decide +kernel
theorem dX6_dealTickets_90 : decode cX6_dealTickets 90 = .ok (.iload 4, 2) := by decide +kernel
theorem dX6_dealTickets_92 : decode cX6_dealTickets 92 = .ok (.iaload, 1) := by decide +kernel
theorem dX6_dealTickets_93 : decode cX6_dealTickets 93 = .ok (.goto 11, 3) := by decide +kernel
theorem dX6_dealTickets_96 : decode cX6_dealTickets 96 = .ok (.aload_n 3, 1) := by decide +kernel
theorem dX6_dealTickets_97 : decode cX6_dealTickets 97 = .ok (.getfield 110, 3) := by decide +kernel
theorem dX6_dealTickets_100 : decode cX6_dealTickets 100 = .ok (.iload 4, 2) := by decide +kernel
theorem dX6_dealTickets_102 : decode cX6_dealTickets 102 = .ok (.iaload, 1) := by decide +kernel
theorem dX6_dealTickets_103 : decode cX6_dealTickets 103 = .ok (.ineg, 1) := by decide +kernel
theorem dX6_dealTickets_104 : decode cX6_dealTickets 104 = .ok (.istore 7, 2) := by decide +kernel
theorem dX6_dealTickets_106 : decode cX6_dealTickets 106 = .ok (.aload_n 0, 1) := by decide +kernel
theorem dX6_dealTickets_107 : decode cX6_dealTickets 107 = .ok (.getfield 18, 3) := by decide +kernel
theorem dX6_dealTickets_110 : decode cX6_dealTickets 110 = .ok (.iload 5, 2) := by decide +kernel
theorem dX6_dealTickets_112 : decode cX6_dealTickets 112 = .ok (.dup2, 1) := by decide +kernel
theorem dX6_dealTickets_113 : decode cX6_dealTickets 113 = .ok (.iaload, 1) := by decide +kernel
theorem dX6_dealTickets_114 : decode cX6_dealTickets 114 = .ok (.iload 7, 2) := by decide +kernel
theorem dX6_dealTickets_116 : decode cX6_dealTickets 116 = .ok (.isub, 1) := by decide +kernel
theorem dX6_dealTickets_117 : decode cX6_dealTickets 117 = .ok (.iastore, 1) := by decide +kernel
theorem dX6_dealTickets_118 : decode cX6_dealTickets 118 = .ok (.aload_n 0, 1) := by decide +kernel
theorem dX6_dealTickets_119 : decode cX6_dealTickets 119 = .ok (.getfield 18, 3) := by decide +kernel
theorem dX6_dealTickets_122 : decode cX6_dealTickets 122 = .ok (.iload 6, 2) := by decide +kernel
theorem dX6_dealTickets_124 : decode cX6_dealTickets 124 = .ok (.dup2, 1) := by decide +kernel
theorem dX6_dealTickets_125 : decode cX6_dealTickets 125 = .ok (.iaload, 1) := by decide +kernel
theorem dX6_dealTickets_126 : decode cX6_dealTickets 126 = .ok (.iload 7, 2) := by decide +kernel
theorem dX6_dealTickets_128 : decode cX6_dealTickets 128 = .ok (.iadd, 1) := by decide +kernel
theorem dX6_dealTickets_129 : decode cX6_dealTickets 129 = .ok (.iastore, 1) := by decide +kernel
theorem dX6_dealTickets_130 : decode cX6_dealTickets 130 = .ok (.iinc 4 1, 3) := by decide +kernel
theorem dX6_dealTickets_133 : decode cX6_dealTickets 133 = .ok (.goto (-105), 3) := by decide +kernel
theorem dX6_dealTickets_136 : decode cX6_dealTickets 136 = .ok (.iconst 0, 1) := by decide +kernel
theorem dX6_dealTickets_137 : decode cX6_dealTickets 137 = .ok (.istore 4, 2) := by decide +kernel
theorem dX6_dealTickets_139 : decode cX6_dealTickets 139 = .ok (.iload 4, 2) := by decide +kernel
theorem dX6_dealTickets_141 : decode cX6_dealTickets 141 = .ok (.aload_n 2, 1) := by decide +kernel
theorem dX6_dealTickets_142 : decode cX6_dealTickets 142 = .ok (.getfield 44, 3) := by decide +kernel
theorem dX6_dealTickets_145 : decode cX6_dealTickets 145 = .ok (.if_icmp .ge 27, 3) := by decide +kernel
theorem dX6_dealTickets_148 : decode cX6_dealTickets 148 = .ok (.aload_n 0, 1) := by decide +kernel
theorem dX6_dealTickets_149 : decode cX6_dealTickets 149 = .ok (.getfield 18, 3) := by decide +kernel
theorem dX6_dealTickets_152 : decode cX6_dealTickets 152 = .ok (.iload 4, 2) := by decide +kernel
theorem dX6_dealTickets_154 : decode cX6_dealTickets 154 = .ok (.iconst 0, 1) := by decide +kernel
theorem dX6_dealTickets_155 : decode cX6_dealTickets 155 = .ok (.aload_n 0, 1) := by decide +kernel
theorem dX6_dealTickets_156 : decode cX6_dealTickets 156 = .ok (.getfield 18, 3) := by decide +kernel
theorem dX6_dealTickets_159 : decode cX6_dealTickets 159 = .ok (.iload 4, 2) := by decide +kernel
theorem dX6_dealTickets_161 : decode cX6_dealTickets 161 = .ok (.iaload, 1) := by decide +kernel
theorem dX6_dealTickets_162 : decode cX6_dealTickets 162 = .ok (.invokestatic 111, 3) := by decide +kernel
theorem dX6_dealTickets_165 : decode cX6_dealTickets 165 = .ok (.iastore, 1) := by decide +kernel
theorem dX6_dealTickets_166 : decode cX6_dealTickets 166 = .ok (.iinc 4 1, 3) := by decide +kernel
theorem dX6_dealTickets_169 : decode cX6_dealTickets 169 = .ok (.goto (-30), 3) := by decide +kernel
theorem dX6_dealTickets_172 : decode cX6_dealTickets 172 = .ok (.return_, 1) := by decide +kernel
theorem dX6_weigh_0 : decode cX6_weigh 0 = .ok (.aload_n 1, 1) := by decide +kernel
theorem dX6_weigh_1 : decode cX6_weigh 1 = .ok (.iload_n 2, 1) := by decide +kernel
theorem dX6_weigh_2 : decode cX6_weigh 2 = .ok (.invokevirtual 67, 3) := by decide +kernel
theorem dX6_weigh_5 : decode cX6_weigh 5 = .ok (.ifCond .eq 59, 3) := by decide +kernel
theorem dX6_weigh_8 : decode cX6_weigh 8 = .ok (.aload_n 0, 1) := by decide +kernel
theorem dX6_weigh_9 : decode cX6_weigh 9 = .ok (.getfield 24, 3) := by decide +kernel
theorem dX6_weigh_12 : decode cX6_weigh 12 = .ok (.iload_n 2, 1) := by decide +kernel
theorem dX6_weigh_13 : decode cX6_weigh 13 = .ok (.aload_n 0, 1) := by decide +kernel
theorem dX6_weigh_14 : decode cX6_weigh 14 = .ok (.getfield 18, 3) := by decide +kernel
theorem dX6_weigh_17 : decode cX6_weigh 17 = .ok (.iload_n 2, 1) := by decide +kernel
theorem dX6_weigh_18 : decode cX6_weigh 18 = .ok (.iaload, 1) := by decide +kernel
theorem dX6_weigh_19 : decode cX6_weigh 19 = .ok (.aload_n 1, 1) := by decide +kernel
theorem dX6_weigh_20 : decode cX6_weigh 20 = .ok (.getfield 117, 3) := by decide +kernel
theorem dX6_weigh_23 : decode cX6_weigh 23 = .ok (.iload_n 2, 1) := by decide +kernel
theorem dX6_weigh_24 : decode cX6_weigh 24 = .ok (.iaload, 1) := by decide +kernel
theorem dX6_weigh_25 : decode cX6_weigh 25 = .ok (.aload_n 0, 1) := by decide +kernel
theorem dX6_weigh_26 : decode cX6_weigh 26 = .ok (.getfield 9, 3) := by decide +kernel
theorem dX6_weigh_29 : decode cX6_weigh 29 = .ok (.iload_n 2, 1) := by decide +kernel
theorem dX6_weigh_30 : decode cX6_weigh 30 = .ok (.iaload, 1) := by decide +kernel
theorem dX6_weigh_31 : decode cX6_weigh 31 = .ok (.iconst 1, 1) := by decide +kernel
theorem dX6_weigh_32 : decode cX6_weigh 32 = .ok (.iadd, 1) := by decide +kernel
theorem dX6_weigh_33 : decode cX6_weigh 33 = .ok (.invokestatic 120, 3) := by decide +kernel
theorem dX6_weigh_36 : decode cX6_weigh 36 = .ok (.lastore, 1) := by decide +kernel
theorem dX6_weigh_37 : decode cX6_weigh 37 = .ok (.aload_n 0, 1) := by decide +kernel
theorem dX6_weigh_38 : decode cX6_weigh 38 = .ok (.getfield 28, 3) := by decide +kernel
theorem dX6_weigh_41 : decode cX6_weigh 41 = .ok (.iload_n 2, 1) := by decide +kernel
theorem dX6_weigh_42 : decode cX6_weigh 42 = .ok (.aload_n 0, 1) := by decide +kernel
theorem dX6_weigh_43 : decode cX6_weigh 43 = .ok (.getfield 18, 3) := by decide +kernel
theorem dX6_weigh_46 : decode cX6_weigh 46 = .ok (.iload_n 2, 1) := by decide +kernel
theorem dX6_weigh_47 : decode cX6_weigh 47 = .ok (.iaload, 1) := by decide +kernel
theorem dX6_weigh_48 : decode cX6_weigh 48 = .ok (.aload_n 1, 1) := by decide +kernel
theorem dX6_weigh_49 : decode cX6_weigh 49 = .ok (.getfield 117, 3) := by decide +kernel
theorem dX6_weigh_52 : decode cX6_weigh 52 = .ok (.iload_n 2, 1) := by decide +kernel
theorem dX6_weigh_53 : decode cX6_weigh 53 = .ok (.iaload, 1) := by decide +kernel
theorem dX6_weigh_54 : decode cX6_weigh 54 = .ok (.aload_n 0, 1) := by decide +kernel
theorem dX6_weigh_55 : decode cX6_weigh 55 = .ok (.getfield 9, 3) := by decide +kernel
theorem dX6_weigh_58 : decode cX6_weigh 58 = .ok (.iload_n 2, 1) := by decide +kernel
theorem dX6_weigh_59 : decode cX6_weigh 59 = .ok (.iaload, 1) := by decide +kernel
theorem dX6_weigh_60 : decode cX6_weigh 60 = .ok (.invokestatic 120, 3) := by decide +kernel
theorem dX6_weigh_63 : decode cX6_weigh 63 = .ok (.lastore, 1) := by decide +kernel
theorem dX6_weigh_64 : decode cX6_weigh 64 = .ok (.return_, 1) := by decide +kernel
theorem dX6_shift_0 : decode cX6_shift 0 = .ok (.aload_n 1, 1) := by decide +kernel
theorem dX6_shift_1 : decode cX6_shift 1 = .ok (.getfield 38, 3) := by decide +kernel
theorem dX6_shift_4 : decode cX6_shift 4 = .ok (.iload_n 2, 1) := by decide +kernel
theorem dX6_shift_5 : decode cX6_shift 5 = .ok (.invokevirtual 67, 3) := by decide +kernel
theorem dX6_shift_8 : decode cX6_shift 8 = .ok (.ifCond .eq 45, 3) := by decide +kernel
theorem dX6_shift_11 : decode cX6_shift 11 = .ok (.aload_n 1, 1) := by decide +kernel
theorem dX6_shift_12 : decode cX6_shift 12 = .ok (.getfield 74, 3) := by decide +kernel
theorem dX6_shift_15 : decode cX6_shift 15 = .ok (.iload_n 3, 1) := by decide +kernel
theorem dX6_shift_16 : decode cX6_shift 16 = .ok (.invokevirtual 78, 3) := by decide +kernel
theorem dX6_shift_19 : decode cX6_shift 19 = .ok (.ifCond .eq 34, 3) := by decide +kernel
theorem dX6_shift_22 : decode cX6_shift 22 = .ok (.aload_n 0, 1) := by decide +kernel
theorem dX6_shift_23 : decode cX6_shift 23 = .ok (.getfield 9, 3) := by decide +kernel
theorem dX6_shift_26 : decode cX6_shift 26 = .ok (.iload_n 2, 1) := by decide +kernel
theorem dX6_shift_27 : decode cX6_shift 27 = .ok (.dup2, 1) := by decide +kernel
theorem dX6_shift_28 : decode cX6_shift 28 = .ok (.iaload, 1) := by decide +kernel
theorem dX6_shift_29 : decode cX6_shift 29 = .ok (.iload 4, 2) := by decide +kernel
theorem dX6_shift_31 : decode cX6_shift 31 = .ok (.iadd, 1) := by decide +kernel
theorem dX6_shift_32 : decode cX6_shift 32 = .ok (.iastore, 1) := by decide +kernel
theorem dX6_shift_33 : decode cX6_shift 33 = .ok (.aload_n 0, 1) := by decide +kernel
theorem dX6_shift_34 : decode cX6_shift 34 = .ok (.getfield 21, 3) := by decide +kernel
theorem dX6_shift_37 : decode cX6_shift 37 = .ok (.iload_n 3, 1) := by decide +kernel
theorem dX6_shift_38 : decode cX6_shift 38 = .ok (.dup2, 1) := by decide +kernel
theorem dX6_shift_39 : decode cX6_shift 39 = .ok (.iaload, 1) := by decide +kernel
theorem dX6_shift_40 : decode cX6_shift 40 = .ok (.iload 4, 2) := by decide +kernel
theorem dX6_shift_42 : decode cX6_shift 42 = .ok (.iadd, 1) := by decide +kernel
theorem dX6_shift_43 : decode cX6_shift 43 = .ok (.iastore, 1) := by decide +kernel
theorem dX6_shift_44 : decode cX6_shift 44 = .ok (.aload_n 0, 1) := by decide +kernel
theorem dX6_shift_45 : decode cX6_shift 45 = .ok (.aload_n 1, 1) := by decide +kernel
theorem dX6_shift_46 : decode cX6_shift 46 = .ok (.getfield 38, 3) := by decide +kernel
theorem dX6_shift_49 : decode cX6_shift 49 = .ok (.iload_n 2, 1) := by decide +kernel
theorem dX6_shift_50 : decode cX6_shift 50 = .ok (.invokevirtual 50, 3) := by decide +kernel
theorem dX6_shift_53 : decode cX6_shift 53 = .ok (.return_, 1) := by decide +kernel
theorem dX6_nextWorthOf_0 : decode cX6_nextWorthOf 0 = .ok (.iload_n 1, 1) := by decide +kernel
theorem dX6_nextWorthOf_1 : decode cX6_nextWorthOf 1 = .ok (.ifCond .lt 18, 3) := by decide +kernel
theorem dX6_nextWorthOf_4 : decode cX6_nextWorthOf 4 = .ok (.iload_n 1, 1) := by decide +kernel
theorem dX6_nextWorthOf_5 : decode cX6_nextWorthOf 5 = .ok (.bipush 12, 2) := by decide +kernel
theorem dX6_nextWorthOf_7 : decode cX6_nextWorthOf 7 = .ok (.if_icmp .ge 12, 3) := by decide +kernel
theorem dX6_nextWorthOf_10 : decode cX6_nextWorthOf 10 = .ok (.aload_n 0, 1) := by decide +kernel
theorem dX6_nextWorthOf_11 : decode cX6_nextWorthOf 11 = .ok (.getfield 24, 3) := by decide +kernel
theorem dX6_nextWorthOf_14 : decode cX6_nextWorthOf 14 = .ok (.iload_n 1, 1) := by decide +kernel
theorem dX6_nextWorthOf_15 : decode cX6_nextWorthOf 15 = .ok (.laload, 1) := by decide +kernel
theorem dX6_nextWorthOf_16 : decode cX6_nextWorthOf 16 = .ok (.goto 4, 3) := by decide +kernel
theorem dX6_nextWorthOf_19 : decode cX6_nextWorthOf 19 = .ok (.lconst 0, 1) := by decide +kernel
theorem dX6_nextWorthOf_20 : decode cX6_nextWorthOf 20 = .ok (.lreturn, 1) := by decide +kernel
theorem dX6_nowWorthOf_0 : decode cX6_nowWorthOf 0 = .ok (.iload_n 1, 1) := by decide +kernel
theorem dX6_nowWorthOf_1 : decode cX6_nowWorthOf 1 = .ok (.ifCond .lt 18, 3) := by decide +kernel
theorem dX6_nowWorthOf_4 : decode cX6_nowWorthOf 4 = .ok (.iload_n 1, 1) := by decide +kernel
theorem dX6_nowWorthOf_5 : decode cX6_nowWorthOf 5 = .ok (.bipush 12, 2) := by decide +kernel
theorem dX6_nowWorthOf_7 : decode cX6_nowWorthOf 7 = .ok (.if_icmp .ge 12, 3) := by decide +kernel
theorem dX6_nowWorthOf_10 : decode cX6_nowWorthOf 10 = .ok (.aload_n 0, 1) := by decide +kernel
theorem dX6_nowWorthOf_11 : decode cX6_nowWorthOf 11 = .ok (.getfield 28, 3) := by decide +kernel
theorem dX6_nowWorthOf_14 : decode cX6_nowWorthOf 14 = .ok (.iload_n 1, 1) := by decide +kernel
theorem dX6_nowWorthOf_15 : decode cX6_nowWorthOf 15 = .ok (.laload, 1) := by decide +kernel
theorem dX6_nowWorthOf_16 : decode cX6_nowWorthOf 16 = .ok (.goto 4, 3) := by decide +kernel
theorem dX6_nowWorthOf_19 : decode cX6_nowWorthOf 19 = .ok (.lconst 0, 1) := by decide +kernel
theorem dX6_nowWorthOf_20 : decode cX6_nowWorthOf 20 = .ok (.lreturn, 1) := by decide +kernel
theorem dX7_init_0 : decode cX7_init 0 = .ok (.aload_n 0, 1) := by decide +kernel
theorem dX7_init_1 : decode cX7_init 1 = .ok (.invokespecial 3, 3) := by decide +kernel
theorem dX7_init_4 : decode cX7_init 4 = .ok (.aload_n 0, 1) := by decide +kernel
theorem dX7_init_5 : decode cX7_init 5 = .ok (.iconst (-1), 1) := by decide +kernel
theorem dX7_init_6 : decode cX7_init 6 = .ok (.putfield 9, 3) := by decide +kernel
theorem dX7_init_9 : decode cX7_init 9 = .ok (.aload_n 0, 1) := by decide +kernel
theorem dX7_init_10 : decode cX7_init 10 = .ok (.sipush 600, 3) := by decide +kernel
theorem dX7_init_13 : decode cX7_init 13 = .ok (.newarray .byte, 2) := by decide +kernel
theorem dX7_init_15 : decode cX7_init 15 = .ok (.putfield 15, 3) := by decide +kernel
theorem dX7_init_18 : decode cX7_init 18 = .ok (.return_, 1) := by decide +kernel
theorem dX7_put_0 : decode cX7_put 0 = .ok (.bipush 24, 2) := by decide +kernel
theorem dX7_put_2 : decode cX7_put 2 = .ok (.istore_n 2, 1) := by decide +kernel
theorem dX7_put_3 : decode cX7_put 3 = .ok (.iload_n 2, 1) := by decide +kernel
theorem dX7_put_4 : decode cX7_put 4 = .ok (.ifCond .lt 42, 3) := by decide +kernel
theorem dX7_put_7 : decode cX7_put 7 = .ok (.aload_n 0, 1) := by decide +kernel
theorem dX7_put_8 : decode cX7_put 8 = .ok (.getfield 19, 3) := by decide +kernel
theorem dX7_put_11 : decode cX7_put 11 = .ok (.sipush 600, 3) := by decide +kernel
theorem dX7_put_14 : decode cX7_put 14 = .ok (.if_icmp .ge 26, 3) := by decide +kernel
theorem dX7_put_17 : decode cX7_put 17 = .ok (.aload_n 0, 1) := by decide +kernel
theorem dX7_put_18 : decode cX7_put 18 = .ok (.getfield 15, 3) := by decide +kernel
theorem dX7_put_21 : decode cX7_put 21 = .ok (.aload_n 0, 1) := by decide +kernel
theorem dX7_put_22 : decode cX7_put 22 = .ok (.getfield 19, 3) := by decide +kernel
theorem dX7_put_25 : decode cX7_put 25 = .ok (.iload_n 1, 1) := by decide +kernel
theorem dX7_put_26 : decode cX7_put 26 = .ok (.iload_n 2, 1) := by decide +kernel
theorem dX7_put_27 : decode cX7_put 27 = .ok (.ishr, 1) := by decide +kernel
theorem dX7_put_28 : decode cX7_put 28 = .ok (.i2b, 1) := by decide +kernel
theorem dX7_put_29 : decode cX7_put 29 = .ok (.bastore, 1) := by decide +kernel
theorem dX7_put_30 : decode cX7_put 30 = .ok (.aload_n 0, 1) := by decide +kernel
theorem dX7_put_31 : decode cX7_put 31 = .ok (.dup, 1) := by decide +kernel
theorem dX7_put_32 : decode cX7_put 32 = .ok (.getfield 19, 3) := by decide +kernel
theorem dX7_put_35 : decode cX7_put 35 = .ok (.iconst 1, 1) := by decide +kernel
theorem dX7_put_36 : decode cX7_put 36 = .ok (.iadd, 1) := by decide +kernel
theorem dX7_put_37 : decode cX7_put 37 = .ok (.putfield 19, 3) := by decide +kernel
theorem dX7_put_40 : decode cX7_put 40 = .ok (.iinc 2 (-8), 3) := by decide +kernel
theorem dX7_put_43 : decode cX7_put 43 = .ok (.goto (-40), 3) := by decide +kernel
theorem dX7_put_46 : decode cX7_put 46 = .ok (.return_, 1) := by decide +kernel
theorem dX7_read_0 : decode cX7_read 0 = .ok (.aload_n 0, 1) := by decide +kernel
theorem dX7_read_1 : decode cX7_read 1 = .ok (.iload_n 1, 1) := by decide +kernel
theorem dX7_read_2 : decode cX7_read 2 = .ok (.sipush 600, 3) := by decide +kernel
theorem dX7_read_5 : decode cX7_read 5 = .ok (.invokestatic 22, 3) := by decide +kernel
theorem dX7_read_8 : decode cX7_read 8 = .ok (.putfield 28, 3) := by decide +kernel
theorem dX7_read_11 : decode cX7_read 11 = .ok (.aload_n 0, 1) := by decide +kernel
theorem dX7_read_12 : decode cX7_read 12 = .ok (.iconst 0, 1) := by decide +kernel
theorem dX7_read_13 : decode cX7_read 13 = .ok (.putfield 31, 3) := by decide +kernel
theorem dX7_read_16 : decode cX7_read 16 = .ok (.aload_n 0, 1) := by decide +kernel
theorem dX7_read_17 : decode cX7_read 17 = .ok (.iconst 0, 1) := by decide +kernel
theorem dX7_read_18 : decode cX7_read 18 = .ok (.putfield 34, 3) := by decide +kernel
theorem dX7_read_21 : decode cX7_read 21 = .ok (.aload_n 0, 1) := by decide +kernel
theorem dX7_read_22 : decode cX7_read 22 = .ok (.iconst (-1), 1) := by decide +kernel
theorem dX7_read_23 : decode cX7_read 23 = .ok (.putfield 9, 3) := by decide +kernel
theorem dX7_read_26 : decode cX7_read 26 = .ok (.aload_n 2, 1) := by decide +kernel
theorem dX7_read_27 : decode cX7_read 27 = .ok (.invokevirtual 37, 3) := by decide +kernel
theorem dX7_read_30 : decode cX7_read 30 = .ok (.iconst 0, 1) := by decide +kernel
theorem dX7_read_31 : decode cX7_read 31 = .ok (.istore_n 3, 1) := by decide +kernel
theorem dX7_read_32 : decode cX7_read 32 = .ok (.iload_n 3, 1) := by decide +kernel
theorem dX7_read_33 : decode cX7_read 33 = .ok (.aload_n 0, 1) := by decide +kernel
theorem dX7_read_34 : decode cX7_read 34 = .ok (.getfield 28, 3) := by decide +kernel
theorem dX7_read_37 : decode cX7_read 37 = .ok (.if_icmp .gt 28, 3) := by decide +kernel
theorem dX7_read_40 : decode cX7_read 40 = .ok (.aload_n 0, 1) := by decide +kernel
theorem dX7_read_41 : decode cX7_read 41 = .ok (.getfield 34, 3) := by decide +kernel
theorem dX7_read_44 : decode cX7_read 44 = .ok (.ifCond .ne 21, 3) := by decide +kernel
theorem dX7_read_47 : decode cX7_read 47 = .ok (.aload_n 0, 1) := by decide +kernel
theorem dX7_read_48 : decode cX7_read 48 = .ok (.invokevirtual 42, 3) := by decide +kernel
theorem dX7_read_51 : decode cX7_read 51 = .ok (.ifCond .ne 14, 3) := by decide +kernel
theorem dX7_read_54 : decode cX7_read 54 = .ok (.aload_n 0, 1) := by decide +kernel
theorem dX7_read_55 : decode cX7_read 55 = .ok (.aload_n 2, 1) := by decide +kernel
theorem dX7_read_56 : decode cX7_read 56 = .ok (.invokevirtual 46, 3) := by decide +kernel
theorem dX7_read_59 : decode cX7_read 59 = .ok (.iinc 3 1, 3) := by decide +kernel
theorem dX7_read_62 : decode cX7_read 62 = .ok (.goto (-30), 3) := by decide +kernel
theorem dX7_read_65 : decode cX7_read 65 = .ok (.aload_n 0, 1) := by decide +kernel
theorem dX7_read_66 : decode cX7_read 66 = .ok (.iconst 0, 1) := by decide +kernel
theorem dX7_read_67 : decode cX7_read 67 = .ok (.putfield 19, 3) := by decide +kernel
theorem dX7_read_70 : decode cX7_read 70 = .ok (.return_, 1) := by decide +kernel
theorem dX7_isOver_0 : decode cX7_isOver 0 = .ok (.aload_n 0, 1) := by decide +kernel
theorem dX7_isOver_1 : decode cX7_isOver 1 = .ok (.invokevirtual 50, 3) := by decide +kernel
theorem dX7_isOver_4 : decode cX7_isOver 4 = .ok (.aload_n 0, 1) := by decide +kernel
theorem dX7_isOver_5 : decode cX7_isOver 5 = .ok (.getfield 31, 3) := by decide +kernel
theorem dX7_isOver_8 : decode cX7_isOver 8 = .ok (.aload_n 0, 1) := by decide +kernel
theorem dX7_isOver_9 : decode cX7_isOver 9 = .ok (.getfield 28, 3) := by decide +kernel
theorem dX7_isOver_12 : decode cX7_isOver 12 = .ok (.if_icmp .lt 7, 3) := by decide +kernel
theorem dX7_isOver_15 : decode cX7_isOver 15 = .ok (.iconst 1, 1) := by decide +kernel
theorem dX7_isOver_16 : decode cX7_isOver 16 = .ok (.goto 4, 3) := by decide +kernel
theorem dX7_isOver_19 : decode cX7_isOver 19 = .ok (.iconst 0, 1) := by decide +kernel
theorem dX7_isOver_20 : decode cX7_isOver 20 = .ok (.ireturn, 1) := by decide +kernel
theorem dX7_readStatement_0 : decode cX7_readStatement 0 = .ok (.aload_n 0, 1) := by decide +kernel
theorem dX7_readStatement_1 : decode cX7_readStatement 1 = .ok (.getfield 31, 3) := by decide +kernel
theorem dX7_readStatement_4 : decode cX7_readStatement 4 = .ok (.istore_n 2, 1) := by decide +kernel
theorem dX7_readStatement_5 : decode cX7_readStatement 5 = .ok (.aload_n 0, 1) := by decide +kernel
theorem dX7_readStatement_6 : decode cX7_readStatement 6 = .ok (.invokevirtual 53, 3) := by decide +kernel
theorem dX7_readStatement_9 : decode cX7_readStatement 9 = .ok (.aload_n 0, 1) := by decide +kernel
theorem dX7_readStatement_10 : decode cX7_readStatement 10 = .ok (.ldc 56, 2) := by decide +kernel
theorem dX7_readStatement_12 : decode cX7_readStatement 12 = .ok (.iload_n 2, 1) := by decide +kernel
theorem dX7_readStatement_13 : decode cX7_readStatement 13 = .ok (.invokevirtual 58, 3) := by decide +kernel
theorem dX7_readStatement_16 : decode cX7_readStatement 16 = .ok (.ifCond .eq 12, 3) := by decide +kernel
theorem dX7_readStatement_19 : decode cX7_readStatement 19 = .ok (.aload_n 0, 1) := by decide +kernel
theorem dX7_readStatement_20 : decode cX7_readStatement 20 = .ok (.aload_n 1, 1) := by decide +kernel
theorem dX7_readStatement_21 : decode cX7_readStatement 21 = .ok (.iload_n 2, 1) := by decide +kernel
theorem dX7_readStatement_22 : decode cX7_readStatement 22 = .ok (.invokevirtual 62, 3) := by decide +kernel
theorem dX7_readStatement_25 : decode cX7_readStatement 25 = .ok (.goto 105, 3) := by decide +kernel
theorem dX7_readStatement_28 : decode cX7_readStatement 28 = .ok (.aload_n 0, 1) := by decide +kernel
theorem dX7_readStatement_29 : decode cX7_readStatement 29 = .ok (.ldc 66, 2) := by decide +kernel
theorem dX7_readStatement_31 : decode cX7_readStatement 31 = .ok (.iload_n 2, 1) := by decide +kernel
theorem dX7_readStatement_32 : decode cX7_readStatement 32 = .ok (.invokevirtual 58, 3) := by decide +kernel
theorem dX7_readStatement_35 : decode cX7_readStatement 35 = .ok (.ifCond .eq 12, 3) := by decide +kernel
theorem dX7_readStatement_38 : decode cX7_readStatement 38 = .ok (.aload_n 0, 1) := by decide +kernel
theorem dX7_readStatement_39 : decode cX7_readStatement 39 = .ok (.aload_n 1, 1) := by decide +kernel
theorem dX7_readStatement_40 : decode cX7_readStatement 40 = .ok (.iload_n 2, 1) := by decide +kernel
theorem dX7_readStatement_41 : decode cX7_readStatement 41 = .ok (.invokevirtual 68, 3) := by decide +kernel
theorem dX7_readStatement_44 : decode cX7_readStatement 44 = .ok (.goto 86, 3) := by decide +kernel
theorem dX7_readStatement_47 : decode cX7_readStatement 47 = .ok (.aload_n 0, 1) := by decide +kernel
theorem dX7_readStatement_48 : decode cX7_readStatement 48 = .ok (.ldc 71, 2) := by decide +kernel
theorem dX7_readStatement_50 : decode cX7_readStatement 50 = .ok (.iload_n 2, 1) := by decide +kernel
theorem dX7_readStatement_51 : decode cX7_readStatement 51 = .ok (.invokevirtual 58, 3) := by decide +kernel
theorem dX7_readStatement_54 : decode cX7_readStatement 54 = .ok (.ifCond .eq 12, 3) := by decide +kernel
theorem dX7_readStatement_57 : decode cX7_readStatement 57 = .ok (.aload_n 0, 1) := by decide +kernel
theorem dX7_readStatement_58 : decode cX7_readStatement 58 = .ok (.aload_n 1, 1) := by decide +kernel
theorem dX7_readStatement_59 : decode cX7_readStatement 59 = .ok (.iload_n 2, 1) := by decide +kernel
theorem dX7_readStatement_60 : decode cX7_readStatement 60 = .ok (.invokevirtual 73, 3) := by decide +kernel
theorem dX7_readStatement_63 : decode cX7_readStatement 63 = .ok (.goto 67, 3) := by decide +kernel
theorem dX7_readStatement_66 : decode cX7_readStatement 66 = .ok (.aload_n 0, 1) := by decide +kernel
theorem dX7_readStatement_67 : decode cX7_readStatement 67 = .ok (.ldc 76, 2) := by decide +kernel
theorem dX7_readStatement_69 : decode cX7_readStatement 69 = .ok (.iload_n 2, 1) := by decide +kernel
theorem dX7_readStatement_70 : decode cX7_readStatement 70 = .ok (.invokevirtual 58, 3) := by decide +kernel
theorem dX7_readStatement_73 : decode cX7_readStatement 73 = .ok (.ifCond .eq 12, 3) := by decide +kernel
theorem dX7_readStatement_76 : decode cX7_readStatement 76 = .ok (.aload_n 0, 1) := by decide +kernel
theorem dX7_readStatement_77 : decode cX7_readStatement 77 = .ok (.aload_n 1, 1) := by decide +kernel
theorem dX7_readStatement_78 : decode cX7_readStatement 78 = .ok (.iconst 0, 1) := by decide +kernel
theorem dX7_readStatement_79 : decode cX7_readStatement 79 = .ok (.invokevirtual 78, 3) := by decide +kernel
theorem dX7_readStatement_82 : decode cX7_readStatement 82 = .ok (.goto 48, 3) := by decide +kernel
theorem dX7_readStatement_85 : decode cX7_readStatement 85 = .ok (.aload_n 0, 1) := by decide +kernel
theorem dX7_readStatement_86 : decode cX7_readStatement 86 = .ok (.ldc 81, 2) := by decide +kernel
theorem dX7_readStatement_88 : decode cX7_readStatement 88 = .ok (.iload_n 2, 1) := by decide +kernel
theorem dX7_readStatement_89 : decode cX7_readStatement 89 = .ok (.invokevirtual 58, 3) := by decide +kernel
theorem dX7_readStatement_92 : decode cX7_readStatement 92 = .ok (.ifCond .eq 12, 3) := by decide +kernel
theorem dX7_readStatement_95 : decode cX7_readStatement 95 = .ok (.aload_n 0, 1) := by decide +kernel
theorem dX7_readStatement_96 : decode cX7_readStatement 96 = .ok (.aload_n 1, 1) := by decide +kernel
theorem dX7_readStatement_97 : decode cX7_readStatement 97 = .ok (.iconst 1, 1) := by decide +kernel
theorem dX7_readStatement_98 : decode cX7_readStatement 98 = .ok (.invokevirtual 78, 3) := by decide +kernel
theorem dX7_readStatement_101 : decode cX7_readStatement 101 = .ok (.goto 29, 3) := by decide +kernel
theorem dX7_readStatement_104 : decode cX7_readStatement 104 = .ok (.aload_n 0, 1) := by decide +kernel
theorem dX7_readStatement_105 : decode cX7_readStatement 105 = .ok (.ldc 83, 2) := by decide +kernel
theorem dX7_readStatement_107 : decode cX7_readStatement 107 = .ok (.iload_n 2, 1) := by decide +kernel
theorem dX7_readStatement_108 : decode cX7_readStatement 108 = .ok (.invokevirtual 58, 3) := by decide +kernel
theorem dX7_readStatement_111 : decode cX7_readStatement 111 = .ok (.ifCond .eq 12, 3) := by decide +kernel
theorem dX7_readStatement_114 : decode cX7_readStatement 114 = .ok (.aload_n 0, 1) := by decide +kernel
theorem dX7_readStatement_115 : decode cX7_readStatement 115 = .ok (.aload_n 1, 1) := by decide +kernel
theorem dX7_readStatement_116 : decode cX7_readStatement 116 = .ok (.iconst 2, 1) := by decide +kernel
theorem dX7_readStatement_117 : decode cX7_readStatement 117 = .ok (.invokevirtual 78, 3) := by decide +kernel
theorem dX7_readStatement_120 : decode cX7_readStatement 120 = .ok (.goto 10, 3) := by decide +kernel
theorem dX7_readStatement_123 : decode cX7_readStatement 123 = .ok (.aload_n 0, 1) := by decide +kernel
theorem dX7_readStatement_124 : decode cX7_readStatement 124 = .ok (.bipush (-2), 2) := by decide +kernel
theorem dX7_readStatement_126 : decode cX7_readStatement 126 = .ok (.iload_n 2, 1) := by decide +kernel
theorem dX7_readStatement_127 : decode cX7_readStatement 127 = .ok (.invokevirtual 85, 3) := by decide +kernel
theorem dX7_readStatement_130 : decode cX7_readStatement 130 = .ok (.aload_n 0, 1) := by decide +kernel
theorem dX7_readStatement_131 : decode cX7_readStatement 131 = .ok (.invokevirtual 89, 3) := by decide +kernel
theorem dX7_readStatement_134 : decode cX7_readStatement 134 = .ok (.return_, 1) := by decide +kernel
theorem dX7_readUser_0 : decode cX7_readUser 0 = .ok (.aload_n 1, 1) := by decide +kernel
theorem dX7_readUser_1 : decode cX7_readUser 1 = .ok (.getfield 92, 3) := by decide +kernel
theorem dX7_readUser_4 : decode cX7_readUser 4 = .ok (.invokevirtual 96, 3) := by decide +kernel
theorem dX7_readUser_7 : decode cX7_readUser 7 = .ok (.ifCond .eq 10, 3) := by decide +kernel
theorem dX7_readUser_10 : decode cX7_readUser 10 = .ok (.aload_n 0, 1) := by decide +kernel
theorem dX7_readUser_11 : decode cX7_readUser 11 = .ok (.bipush (-4), 2) := by decide +kernel
theorem dX7_readUser_13 : decode cX7_readUser 13 = .ok (.iload_n 2, 1) := by decide +kernel
theorem dX7_readUser_14 : decode cX7_readUser 14 = .ok (.invokevirtual 85, 3) := by decide +kernel
theorem dX7_readUser_17 : decode cX7_readUser 17 = .ok (.aload_n 0, 1) := by decide +kernel
theorem dX7_readUser_18 : decode cX7_readUser 18 = .ok (.iconst 0, 1) := by decide +kernel
theorem dX7_readUser_19 : decode cX7_readUser 19 = .ok (.aload_n 1, 1) := by decide +kernel
theorem dX7_readUser_20 : decode cX7_readUser 20 = .ok (.getfield 92, 3) := by decide +kernel
theorem dX7_readUser_23 : decode cX7_readUser 23 = .ok (.getfield 101, 3) := by decide +kernel
theorem dX7_readUser_26 : decode cX7_readUser 26 = .ok (.iconst 1, 1) := by decide +kernel
theorem dX7_readUser_27 : decode cX7_readUser 27 = .ok (.isub, 1) := by decide +kernel
theorem dX7_readUser_28 : decode cX7_readUser 28 = .ok (.invokevirtual 104, 3) := by decide +kernel
theorem dX7_readUser_31 : decode cX7_readUser 31 = .ok (.istore_n 3, 1) := by decide +kernel
theorem dX7_readUser_32 : decode cX7_readUser 32 = .ok (.aload_n 0, 1) := by decide +kernel
theorem dX7_readUser_33 : decode cX7_readUser 33 = .ok (.getfield 34, 3) := by decide +kernel
theorem dX7_readUser_36 : decode cX7_readUser 36 = .ok (.ifCond .ne 24, 3) := by decide +kernel
theorem dX7_readUser_39 : decode cX7_readUser 39 = .ok (.aload_n 1, 1) := by decide +kernel
theorem dX7_readUser_40 : decode cX7_readUser 40 = .ok (.getfield 107, 3) := by decide +kernel
theorem dX7_readUser_43 : decode cX7_readUser 43 = .ok (.iload_n 3, 1) := by decide +kernel
theorem dX7_readUser_44 : decode cX7_readUser 44 = .ok (.invokevirtual 111, 3) := by decide +kernel
theorem dX7_readUser_47 : decode cX7_readUser 47 = .ok (.ifCond .eq 13, 3) := by decide +kernel
theorem dX7_readUser_50 : decode cX7_readUser 50 = .ok (.aload_n 0, 1) := by decide +kernel
theorem dX7_readUser_51 : decode cX7_readUser 51 = .ok (.bipush (-3), 2) := by decide +kernel
theorem dX7_readUser_53 : decode cX7_readUser 53 = .ok (.aload_n 0, 1) := by decide +kernel
theorem dX7_readUser_54 : decode cX7_readUser 54 = .ok (.getfield 117, 3) := by decide +kernel
theorem dX7_readUser_57 : decode cX7_readUser 57 = .ok (.invokevirtual 85, 3) := by decide +kernel
theorem dX7_readUser_60 : decode cX7_readUser 60 = .ok (.aload_n 0, 1) := by decide +kernel
theorem dX7_readUser_61 : decode cX7_readUser 61 = .ok (.iconst 1, 1) := by decide +kernel
theorem dX7_readUser_62 : decode cX7_readUser 62 = .ok (.bipush 99, 2) := by decide +kernel
theorem dX7_readUser_64 : decode cX7_readUser 64 = .ok (.invokevirtual 104, 3) := by decide +kernel
theorem dX7_readUser_67 : decode cX7_readUser 67 = .ok (.istore 4, 2) := by decide +kernel
theorem dX7_readUser_69 : decode cX7_readUser 69 = .ok (.aload_n 0, 1) := by decide +kernel
theorem dX7_readUser_70 : decode cX7_readUser 70 = .ok (.getfield 34, 3) := by decide +kernel
theorem dX7_readUser_73 : decode cX7_readUser 73 = .ok (.ifCond .ne 13, 3) := by decide +kernel
theorem dX7_readUser_76 : decode cX7_readUser 76 = .ok (.aload_n 1, 1) := by decide +kernel
theorem dX7_readUser_77 : decode cX7_readUser 77 = .ok (.getfield 92, 3) := by decide +kernel
theorem dX7_readUser_80 : decode cX7_readUser 80 = .ok (.iload_n 3, 1) := by decide +kernel
theorem dX7_readUser_81 : decode cX7_readUser 81 = .ok (.iload 4, 2) := by decide +kernel
theorem dX7_readUser_83 : decode cX7_readUser 83 = .ok (.invokevirtual 120, 3) := by decide +kernel
theorem dX7_readUser_86 : decode cX7_readUser 86 = .ok (.return_, 1) := by decide +kernel
theorem dX7_readMachine_0 : decode cX7_readMachine 0 = .ok (.aload_n 1, 1) := by decide +kernel
theorem dX7_readMachine_1 : decode cX7_readMachine 1 = .ok (.getfield 123, 3) := by decide +kernel
theorem dX7_readMachine_4 : decode cX7_readMachine 4 = .ok (.invokevirtual 127, 3) := by decide +kernel
theorem dX7_readMachine_7 : decode cX7_readMachine 7 = .ok (.ifCond .eq 10, 3) := by decide +kernel
theorem dX7_readMachine_10 : decode cX7_readMachine 10 = .ok (.aload_n 0, 1) := by decide +kernel
theorem dX7_readMachine_11 : decode cX7_readMachine 11 = .ok (.bipush (-4), 2) := by decide +kernel
theorem dX7_readMachine_13 : decode cX7_readMachine 13 = .ok (.iload_n 2, 1) := by decide +kernel
theorem dX7_readMachine_14 : decode cX7_readMachine 14 = .ok (.invokevirtual 85, 3) := by decide +kernel
theorem dX7_readMachine_17 : decode cX7_readMachine 17 = .ok (.aload_n 0, 1) := by decide +kernel
theorem dX7_readMachine_18 : decode cX7_readMachine 18 = .ok (.iconst 1, 1) := by decide +kernel
theorem dX7_readMachine_19 : decode cX7_readMachine 19 = .ok (.iconst 4, 1) := by decide +kernel
theorem dX7_readMachine_20 : decode cX7_readMachine 20 = .ok (.invokevirtual 104, 3) := by decide +kernel
theorem dX7_readMachine_23 : decode cX7_readMachine 23 = .ok (.istore_n 3, 1) := by decide +kernel
theorem dX7_readMachine_24 : decode cX7_readMachine 24 = .ok (.aload_n 0, 1) := by decide +kernel
theorem dX7_readMachine_25 : decode cX7_readMachine 25 = .ok (.getfield 34, 3) := by decide +kernel
theorem dX7_readMachine_28 : decode cX7_readMachine 28 = .ok (.ifCond .ne 11, 3) := by decide +kernel
theorem dX7_readMachine_31 : decode cX7_readMachine 31 = .ok (.aload_n 1, 1) := by decide +kernel
theorem dX7_readMachine_32 : decode cX7_readMachine 32 = .ok (.getfield 123, 3) := by decide +kernel
theorem dX7_readMachine_35 : decode cX7_readMachine 35 = .ok (.iload_n 3, 1) := by decide +kernel
theorem dX7_readMachine_36 : decode cX7_readMachine 36 = .ok (.invokevirtual 130, 3) := by decide +kernel
theorem dX7_readMachine_39 : decode cX7_readMachine 39 = .ok (.return_, 1) := by decide +kernel
theorem dX7_readJob_0 : decode cX7_readJob 0 = .ok (.aload_n 1, 1) := by decide +kernel
theorem dX7_readJob_1 : decode cX7_readJob 1 = .ok (.getfield 107, 3) := by decide +kernel
theorem dX7_readJob_4 : decode cX7_readJob 4 = .ok (.invokevirtual 133, 3) := by decide +kernel
theorem dX7_readJob_7 : decode cX7_readJob 7 = .ok (.ifCond .eq 10, 3) := by decide +kernel
theorem dX7_readJob_10 : decode cX7_readJob 10 = .ok (.aload_n 0, 1) := by decide +kernel
theorem dX7_readJob_11 : decode cX7_readJob 11 = .ok (.bipush (-4), 2) := by decide +kernel
theorem dX7_readJob_13 : decode cX7_readJob 13 = .ok (.iload_n 2, 1) := by decide +kernel
theorem dX7_readJob_14 : decode cX7_readJob 14 = .ok (.invokevirtual 85, 3) := by decide +kernel
theorem dX7_readJob_17 : decode cX7_readJob 17 = .ok (.aload_n 0, 1) := by decide +kernel
theorem dX7_readJob_18 : decode cX7_readJob 18 = .ok (.iconst 0, 1) := by decide +kernel
theorem dX7_readJob_19 : decode cX7_readJob 19 = .ok (.aload_n 1, 1) := by decide +kernel
theorem dX7_readJob_20 : decode cX7_readJob 20 = .ok (.getfield 92, 3) := by decide +kernel
theorem dX7_readJob_23 : decode cX7_readJob 23 = .ok (.getfield 101, 3) := by decide +kernel
theorem dX7_readJob_26 : decode cX7_readJob 26 = .ok (.iconst 1, 1) := by decide +kernel
theorem dX7_readJob_27 : decode cX7_readJob 27 = .ok (.isub, 1) := by decide +kernel
theorem dX7_readJob_28 : decode cX7_readJob 28 = .ok (.invokevirtual 104, 3) := by decide +kernel
theorem dX7_readJob_31 : decode cX7_readJob 31 = .ok (.istore_n 3, 1) := by decide +kernel
theorem dX7_readJob_32 : decode cX7_readJob 32 = .ok (.aload_n 0, 1) := by decide +kernel
theorem dX7_readJob_33 : decode cX7_readJob 33 = .ok (.getfield 34, 3) := by decide +kernel
theorem dX7_readJob_36 : decode cX7_readJob 36 = .ok (.ifCond .ne 24, 3) := by decide +kernel
theorem dX7_readJob_39 : decode cX7_readJob 39 = .ok (.aload_n 1, 1) := by decide +kernel
theorem dX7_readJob_40 : decode cX7_readJob 40 = .ok (.getfield 92, 3) := by decide +kernel
theorem dX7_readJob_43 : decode cX7_readJob 43 = .ok (.iload_n 3, 1) := by decide +kernel
theorem dX7_readJob_44 : decode cX7_readJob 44 = .ok (.invokevirtual 134, 3) := by decide +kernel
theorem dX7_readJob_47 : decode cX7_readJob 47 = .ok (.ifCond .ne 13, 3) := by decide +kernel
theorem dX7_readJob_50 : decode cX7_readJob 50 = .ok (.aload_n 0, 1) := by decide +kernel
theorem dX7_readJob_51 : decode cX7_readJob 51 = .ok (.bipush (-3), 2) := by decide +kernel
theorem dX7_readJob_53 : decode cX7_readJob 53 = .ok (.aload_n 0, 1) := by decide +kernel
theorem dX7_readJob_54 : decode cX7_readJob 54 = .ok (.getfield 117, 3) := by decide +kernel
theorem dX7_readJob_57 : decode cX7_readJob 57 = .ok (.invokevirtual 85, 3) := by decide +kernel
theorem dX7_readJob_60 : decode cX7_readJob 60 = .ok (.aload_n 0, 1) := by decide +kernel
theorem dX7_readJob_61 : decode cX7_readJob 61 = .ok (.iconst 1, 1) := by decide +kernel
theorem dX7_readJob_62 : decode cX7_readJob 62 = .ok (.bipush 60, 2) := by decide +kernel
theorem dX7_readJob_64 : decode cX7_readJob 64 = .ok (.invokevirtual 104, 3) := by decide +kernel
theorem dX7_readJob_67 : decode cX7_readJob 67 = .ok (.istore 4, 2) := by decide +kernel
theorem dX7_readJob_69 : decode cX7_readJob 69 = .ok (.aload_n 0, 1) := by decide +kernel
theorem dX7_readJob_70 : decode cX7_readJob 70 = .ok (.getfield 34, 3) := by decide +kernel
theorem dX7_readJob_73 : decode cX7_readJob 73 = .ok (.ifCond .ne 13, 3) := by decide +kernel
theorem dX7_readJob_76 : decode cX7_readJob 76 = .ok (.aload_n 1, 1) := by decide +kernel
theorem dX7_readJob_77 : decode cX7_readJob 77 = .ok (.getfield 107, 3) := by decide +kernel
theorem dX7_readJob_80 : decode cX7_readJob 80 = .ok (.iload_n 3, 1) := by decide +kernel
theorem dX7_readJob_81 : decode cX7_readJob 81 = .ok (.iload 4, 2) := by decide +kernel
theorem dX7_readJob_83 : decode cX7_readJob 83 = .ok (.invokevirtual 137, 3) := by decide +kernel
theorem dX7_readJob_86 : decode cX7_readJob 86 = .ok (.return_, 1) := by decide +kernel
theorem dX7_readSetting_0 : decode cX7_readSetting 0 = .ok (.iload_n 2, 1) := by decide +kernel
theorem dX7_readSetting_1 : decode cX7_readSetting 1 = .ok (.ifCond .lt 8, 3) := by decide +kernel
theorem dX7_readSetting_4 : decode cX7_readSetting 4 = .ok (.iload_n 2, 1) := by decide +kernel
theorem dX7_readSetting_5 : decode cX7_readSetting 5 = .ok (.iconst 3, 1) := by decide +kernel
theorem dX7_readSetting_6 : decode cX7_readSetting 6 = .ok (.if_icmp .lt 4, 3) := by decide +kernel
theorem dX7_readSetting_9 : decode cX7_readSetting 9 = .ok (.return_, 1) := by decide +kernel
theorem dX7_readSetting_10 : decode cX7_readSetting 10 = .ok (.aload_n 0, 1) := by decide +kernel
theorem dX7_readSetting_11 : decode cX7_readSetting 11 = .ok (.getstatic 138, 3) := by decide +kernel
theorem dX7_readSetting_14 : decode cX7_readSetting 14 = .ok (.iload_n 2, 1) := by decide +kernel
theorem dX7_readSetting_15 : decode cX7_readSetting 15 = .ok (.iaload, 1) := by decide +kernel
theorem dX7_readSetting_16 : decode cX7_readSetting 16 = .ok (.getstatic 142, 3) := by decide +kernel
theorem dX7_readSetting_19 : decode cX7_readSetting 19 = .ok (.iload_n 2, 1) := by decide +kernel
theorem dX7_readSetting_20 : decode cX7_readSetting 20 = .ok (.iaload, 1) := by decide +kernel
theorem dX7_readSetting_21 : decode cX7_readSetting 21 = .ok (.invokevirtual 104, 3) := by decide +kernel
theorem dX7_readSetting_24 : decode cX7_readSetting 24 = .ok (.istore_n 3, 1) := by decide +kernel
theorem dX7_readSetting_25 : decode cX7_readSetting 25 = .ok (.aload_n 0, 1) := by decide +kernel
theorem dX7_readSetting_26 : decode cX7_readSetting 26 = .ok (.getfield 34, 3) := by decide +kernel
theorem dX7_readSetting_29 : decode cX7_readSetting 29 = .ok (.ifCond .ne 10, 3) := by decide +kernel
theorem dX7_readSetting_32 : decode cX7_readSetting 32 = .ok (.aload_n 1, 1) := by decide +kernel
theorem dX7_readSetting_33 : decode cX7_readSetting 33 = .ok (.getfield 145, 3) := by decide +kernel
theorem dX7_readSetting_36 : decode cX7_readSetting 36 = .ok (.iload_n 2, 1) := by decide +kernel
theorem dX7_readSetting_37 : decode cX7_readSetting 37 = .ok (.iload_n 3, 1) := by decide +kernel
theorem dX7_readSetting_38 : decode cX7_readSetting 38 = .ok (.iastore, 1) := by decide +kernel
theorem dX7_readSetting_39 : decode cX7_readSetting 39 = .ok (.return_, 1) := by decide +kernel
theorem dX7_readNumber_0 : decode cX7_readNumber 0 = .ok (.aload_n 0, 1) := by decide +kernel
theorem dX7_readNumber_1 : decode cX7_readNumber 1 = .ok (.getfield 34, 3) := by decide +kernel
theorem dX7_readNumber_4 : decode cX7_readNumber 4 = .ok (.ifCond .eq 5, 3) := by decide +kernel
theorem dX7_readNumber_7 : decode cX7_readNumber 7 = .ok (.iconst (-1), 1) := by decide +kernel
theorem dX7_readNumber_8 : decode cX7_readNumber 8 = .ok (.ireturn, 1) := by decide +kernel
theorem dX7_readNumber_9 : decode cX7_readNumber 9 = .ok (.aload_n 0, 1) := by decide +kernel
theorem dX7_readNumber_10 : decode cX7_readNumber 10 = .ok (.invokevirtual 50, 3) := by decide +kernel
theorem dX7_readNumber_13 : decode cX7_readNumber 13 = .ok (.aload_n 0, 1) := by decide +kernel
theorem dX7_readNumber_14 : decode cX7_readNumber 14 = .ok (.aload_n 0, 1) := by decide +kernel
theorem dX7_readNumber_15 : decode cX7_readNumber 15 = .ok (.getfield 31, 3) := by decide +kernel
theorem dX7_readNumber_18 : decode cX7_readNumber 18 = .ok (.putfield 117, 3) := by decide +kernel
theorem dX7_readNumber_21 : decode cX7_readNumber 21 = .ok (.iconst 0, 1) := by decide +kernel
theorem dX7_readNumber_22 : decode cX7_readNumber 22 = .ok (.istore_n 3, 1) := by decide +kernel
theorem dX7_readNumber_23 : decode cX7_readNumber 23 = .ok (.aload_n 0, 1) := by decide +kernel
theorem dX7_readNumber_24 : decode cX7_readNumber 24 = .ok (.getfield 31, 3) := by decide +kernel
theorem dX7_readNumber_27 : decode cX7_readNumber 27 = .ok (.aload_n 0, 1) := by decide +kernel
theorem dX7_readNumber_28 : decode cX7_readNumber 28 = .ok (.getfield 28, 3) := by decide +kernel
theorem dX7_readNumber_31 : decode cX7_readNumber 31 = .ok (.if_icmp .ge 53, 3) := by decide +kernel
theorem dX7_readNumber_34 : decode cX7_readNumber 34 = .ok (.aload_n 0, 1) := by decide +kernel
theorem dX7_readNumber_35 : decode cX7_readNumber 35 = .ok (.aload_n 0, 1) := by decide +kernel
theorem dX7_readNumber_36 : decode cX7_readNumber 36 = .ok (.getfield 31, 3) := by decide +kernel
theorem dX7_readNumber_39 : decode cX7_readNumber 39 = .ok (.invokevirtual 148, 3) := by decide +kernel
theorem dX7_readNumber_42 : decode cX7_readNumber 42 = .ok (.invokestatic 152, 3) := by decide +kernel
theorem dX7_readNumber_45 : decode cX7_readNumber 45 = .ok (.ifCond .eq 39, 3) := by decide +kernel
theorem dX7_readNumber_48 : decode cX7_readNumber 48 = .ok (.sipush 10000, 3) := by decide +kernel
theorem dX7_readNumber_51 : decode cX7_readNumber 51 = .ok (.iload_n 3, 1) := by decide +kernel
theorem dX7_readNumber_52 : decode cX7_readNumber 52 = .ok (.bipush 10, 2) := by decide +kernel
theorem dX7_readNumber_54 : decode cX7_readNumber 54 = .ok (.imul, 1) := by decide +kernel
theorem dX7_readNumber_55 : decode cX7_readNumber 55 = .ok (.aload_n 0, 1) := by decide +kernel
theorem dX7_readNumber_56 : decode cX7_readNumber 56 = .ok (.aload_n 0, 1) := by decide +kernel
theorem dX7_readNumber_57 : decode cX7_readNumber 57 = .ok (.getfield 31, 3) := by decide +kernel
theorem dX7_readNumber_60 : decode cX7_readNumber 60 = .ok (.invokevirtual 148, 3) := by decide +kernel
theorem dX7_readNumber_63 : decode cX7_readNumber 63 = .ok (.iadd, 1) := by decide +kernel
theorem dX7_readNumber_64 : decode cX7_readNumber 64 = .ok (.bipush 48, 2) := by decide +kernel
theorem dX7_readNumber_66 : decode cX7_readNumber 66 = .ok (.isub, 1) := by decide +kernel
theorem dX7_readNumber_67 : decode cX7_readNumber 67 = .ok (.invokestatic 22, 3) := by decide +kernel
theorem dX7_readNumber_70 : decode cX7_readNumber 70 = .ok (.istore_n 3, 1) := by decide +kernel
theorem dX7_readNumber_71 : decode cX7_readNumber 71 = .ok (.aload_n 0, 1) := by decide +kernel
theorem dX7_readNumber_72 : decode cX7_readNumber 72 = .ok (.dup, 1) := by decide +kernel
theorem dX7_readNumber_73 : decode cX7_readNumber 73 = .ok (.getfield 31, 3) := by decide +kernel
theorem dX7_readNumber_76 : decode cX7_readNumber 76 = .ok (.iconst 1, 1) := by decide +kernel
theorem dX7_readNumber_77 : decode cX7_readNumber 77 = .ok (.iadd, 1) := by decide +kernel
theorem dX7_readNumber_78 : decode cX7_readNumber 78 = .ok (.putfield 31, 3) := by decide +kernel
theorem dX7_readNumber_81 : decode cX7_readNumber 81 = .ok (.goto (-58), 3) := by decide +kernel
theorem dX7_readNumber_84 : decode cX7_readNumber 84 = .ok (.aload_n 0, 1) := by decide +kernel
theorem dX7_readNumber_85 : decode cX7_readNumber 85 = .ok (.getfield 31, 3) := by decide +kernel
theorem dX7_readNumber_88 : decode cX7_readNumber 88 = .ok (.aload_n 0, 1) := by decide +kernel
theorem dX7_readNumber_89 : decode cX7_readNumber 89 = .ok (.getfield 117, 3) := by decide +kernel
theorem dX7_readNumber_92 : decode cX7_readNumber 92 = .ok (.if_icmp .ne 16, 3) := by decide +kernel
theorem dX7_readNumber_95 : decode cX7_readNumber 95 = .ok (.aload_n 0, 1) := by decide +kernel
theorem dX7_readNumber_96 : decode cX7_readNumber 96 = .ok (.bipush (-2), 2) := by decide +kernel
theorem dX7_readNumber_98 : decode cX7_readNumber 98 = .ok (.aload_n 0, 1) := by decide +kernel
theorem dX7_readNumber_99 : decode cX7_readNumber 99 = .ok (.getfield 31, 3) := by decide +kernel
theorem dX7_readNumber_102 : decode cX7_readNumber 102 = .ok (.invokevirtual 85, 3) := by decide +kernel
theorem dX7_readNumber_105 : decode cX7_readNumber 105 = .ok (.goto 23, 3) := by decide +kernel
theorem dX7_readNumber_108 : decode cX7_readNumber 108 = .ok (.iload_n 3, 1) := by decide +kernel
theorem dX7_readNumber_109 : decode cX7_readNumber 109 = .ok (.iload_n 1, 1) := by decide +kernel
theorem dX7_readNumber_110 : decode cX7_readNumber 110 = .ok (.if_icmp .lt 8, 3) := by decide +kernel
theorem dX7_readNumber_113 : decode cX7_readNumber 113 = .ok (.iload_n 3, 1) := by decide +kernel
theorem dX7_readNumber_114 : decode cX7_readNumber 114 = .ok (.iload_n 2, 1) := by decide +kernel
theorem dX7_readNumber_115 : decode cX7_readNumber 115 = .ok (.if_icmp .le 13, 3) := by decide +kernel
theorem dX7_readNumber_118 : decode cX7_readNumber 118 = .ok (.aload_n 0, 1) := by decide +kernel
theorem dX7_readNumber_119 : decode cX7_readNumber 119 = .ok (.bipush (-3), 2) := by decide +kernel
theorem dX7_readNumber_121 : decode cX7_readNumber 121 = .ok (.aload_n 0, 1) := by decide +kernel
theorem dX7_readNumber_122 : decode cX7_readNumber 122 = .ok (.getfield 117, 3) := by decide +kernel
theorem dX7_readNumber_125 : decode cX7_readNumber 125 = .ok (.invokevirtual 85, 3) := by decide +kernel
theorem dX7_readNumber_128 : decode cX7_readNumber 128 = .ok (.iload_n 3, 1) := by decide +kernel
theorem dX7_readNumber_129 : decode cX7_readNumber 129 = .ok (.ireturn, 1) := by decide +kernel
theorem dX7_readSemicolon_0 : decode cX7_readSemicolon 0 = .ok (.aload_n 0, 1) := by decide +kernel
theorem dX7_readSemicolon_1 : decode cX7_readSemicolon 1 = .ok (.getfield 34, 3) := by decide +kernel
theorem dX7_readSemicolon_4 : decode cX7_readSemicolon 4 = .ok (.ifCond .eq 4, 3) := by decide +kernel
theorem dX7_readSemicolon_7 : decode cX7_readSemicolon 7 = .ok (.return_, 1) := by decide +kernel
theorem dX7_readSemicolon_8 : decode cX7_readSemicolon 8 = .ok (.aload_n 0, 1) := by decide +kernel
theorem dX7_readSemicolon_9 : decode cX7_readSemicolon 9 = .ok (.invokevirtual 50, 3) := by decide +kernel
theorem dX7_readSemicolon_12 : decode cX7_readSemicolon 12 = .ok (.aload_n 0, 1) := by decide +kernel
theorem dX7_readSemicolon_13 : decode cX7_readSemicolon 13 = .ok (.aload_n 0, 1) := by decide +kernel
theorem dX7_readSemicolon_14 : decode cX7_readSemicolon 14 = .ok (.getfield 31, 3) := by decide +kernel
theorem dX7_readSemicolon_17 : decode cX7_readSemicolon 17 = .ok (.invokevirtual 148, 3) := by decide +kernel
theorem dX7_readSemicolon_20 : decode cX7_readSemicolon 20 = .ok (.bipush 59, 2) := by decide +kernel
theorem dX7_readSemicolon_22 : decode cX7_readSemicolon 22 = .ok (.if_icmp .ne 16, 3) := by decide +kernel
theorem dX7_readSemicolon_25 : decode cX7_readSemicolon 25 = .ok (.aload_n 0, 1) := by decide +kernel
theorem dX7_readSemicolon_26 : decode cX7_readSemicolon 26 = .ok (.dup, 1) := by decide +kernel
theorem dX7_readSemicolon_27 : decode cX7_readSemicolon 27 = .ok (.getfield 31, 3) := by decide +kernel
theorem dX7_readSemicolon_30 : decode cX7_readSemicolon 30 = .ok (.iconst 1, 1) := by decide +kernel
theorem dX7_readSemicolon_31 : decode cX7_readSemicolon 31 = .ok (.iadd, 1) := by decide +kernel
theorem dX7_readSemicolon_32 : decode cX7_readSemicolon 32 = .ok (.putfield 31, 3) := by decide +kernel
theorem dX7_readSemicolon_35 : decode cX7_readSemicolon 35 = .ok (.goto 13, 3) := by decide +kernel
theorem dX7_readSemicolon_38 : decode cX7_readSemicolon 38 = .ok (.aload_n 0, 1) := by decide +kernel
theorem dX7_readSemicolon_39 : decode cX7_readSemicolon 39 = .ok (.bipush (-2), 2) := by decide +kernel
theorem dX7_readSemicolon_41 : decode cX7_readSemicolon 41 = .ok (.aload_n 0, 1) := by decide +kernel
theorem dX7_readSemicolon_42 : decode cX7_readSemicolon 42 = .ok (.getfield 31, 3) := by decide +kernel
theorem dX7_readSemicolon_45 : decode cX7_readSemicolon 45 = .ok (.invokevirtual 85, 3) := by decide +kernel
theorem dX7_readSemicolon_48 : decode cX7_readSemicolon 48 = .ok (.return_, 1) := by decide +kernel
theorem dX7_skipSpaces_0 : decode cX7_skipSpaces 0 = .ok (.aload_n 0, 1) := by decide +kernel
theorem dX7_skipSpaces_1 : decode cX7_skipSpaces 1 = .ok (.getfield 31, 3) := by decide +kernel
theorem dX7_skipSpaces_4 : decode cX7_skipSpaces 4 = .ok (.aload_n 0, 1) := by decide +kernel
theorem dX7_skipSpaces_5 : decode cX7_skipSpaces 5 = .ok (.getfield 28, 3) := by decide +kernel
theorem dX7_skipSpaces_8 : decode cX7_skipSpaces 8 = .ok (.if_icmp .ge 29, 3) := by decide +kernel
theorem dX7_skipSpaces_11 : decode cX7_skipSpaces 11 = .ok (.aload_n 0, 1) := by decide +kernel
theorem dX7_skipSpaces_12 : decode cX7_skipSpaces 12 = .ok (.aload_n 0, 1) := by decide +kernel
theorem dX7_skipSpaces_13 : decode cX7_skipSpaces 13 = .ok (.getfield 31, 3) := by decide +kernel
theorem dX7_skipSpaces_16 : decode cX7_skipSpaces 16 = .ok (.invokevirtual 148, 3) := by decide +kernel
theorem dX7_skipSpaces_19 : decode cX7_skipSpaces 19 = .ok (.bipush 32, 2) := by decide +kernel
theorem dX7_skipSpaces_21 : decode cX7_skipSpaces 21 = .ok (.if_icmp .ne 16, 3) := by decide +kernel
theorem dX7_skipSpaces_24 : decode cX7_skipSpaces 24 = .ok (.aload_n 0, 1) := by decide +kernel
theorem dX7_skipSpaces_25 : decode cX7_skipSpaces 25 = .ok (.dup, 1) := by decide +kernel
theorem dX7_skipSpaces_26 : decode cX7_skipSpaces 26 = .ok (.getfield 31, 3) := by decide +kernel
theorem dX7_skipSpaces_29 : decode cX7_skipSpaces 29 = .ok (.iconst 1, 1) := by decide +kernel
theorem dX7_skipSpaces_30 : decode cX7_skipSpaces 30 = .ok (.iadd, 1) := by decide +kernel
theorem dX7_skipSpaces_31 : decode cX7_skipSpaces 31 = .ok (.putfield 31, 3) := by decide +kernel
theorem dX7_skipSpaces_34 : decode cX7_skipSpaces 34 = .ok (.goto (-34), 3) := by decide +kernel
theorem dX7_skipSpaces_37 : decode cX7_skipSpaces 37 = .ok (.return_, 1) := by decide +kernel
theorem dX7_skipWord_0 : decode cX7_skipWord 0 = .ok (.aload_n 0, 1) := by decide +kernel
theorem dX7_skipWord_1 : decode cX7_skipWord 1 = .ok (.getfield 31, 3) := by decide +kernel
theorem dX7_skipWord_4 : decode cX7_skipWord 4 = .ok (.aload_n 0, 1) := by decide +kernel
theorem dX7_skipWord_5 : decode cX7_skipWord 5 = .ok (.getfield 28, 3) := by decide +kernel
theorem dX7_skipWord_8 : decode cX7_skipWord 8 = .ok (.if_icmp .ge 42, 3) := by decide +kernel
theorem dX7_skipWord_11 : decode cX7_skipWord 11 = .ok (.aload_n 0, 1) := by decide +kernel
theorem dX7_skipWord_12 : decode cX7_skipWord 12 = .ok (.aload_n 0, 1) := by decide +kernel
theorem dX7_skipWord_13 : decode cX7_skipWord 13 = .ok (.getfield 31, 3) := by decide +kernel
theorem dX7_skipWord_16 : decode cX7_skipWord 16 = .ok (.invokevirtual 148, 3) := by decide +kernel
theorem dX7_skipWord_19 : decode cX7_skipWord 19 = .ok (.bipush 97, 2) := by decide +kernel
theorem dX7_skipWord_21 : decode cX7_skipWord 21 = .ok (.if_icmp .lt 29, 3) := by decide +kernel
theorem dX7_skipWord_24 : decode cX7_skipWord 24 = .ok (.aload_n 0, 1) := by decide +kernel
theorem dX7_skipWord_25 : decode cX7_skipWord 25 = .ok (.aload_n 0, 1) := by decide +kernel
theorem dX7_skipWord_26 : decode cX7_skipWord 26 = .ok (.getfield 31, 3) := by decide +kernel
theorem dX7_skipWord_29 : decode cX7_skipWord 29 = .ok (.invokevirtual 148, 3) := by decide +kernel
theorem dX7_skipWord_32 : decode cX7_skipWord 32 = .ok (.bipush 122, 2) := by decide +kernel
theorem dX7_skipWord_34 : decode cX7_skipWord 34 = .ok (.if_icmp .gt 16, 3) := by decide +kernel
theorem dX7_skipWord_37 : decode cX7_skipWord 37 = .ok (.aload_n 0, 1) := by decide +kernel
theorem dX7_skipWord_38 : decode cX7_skipWord 38 = .ok (.dup, 1) := by decide +kernel
theorem dX7_skipWord_39 : decode cX7_skipWord 39 = .ok (.getfield 31, 3) := by decide +kernel
theorem dX7_skipWord_42 : decode cX7_skipWord 42 = .ok (.iconst 1, 1) := by decide +kernel
theorem dX7_skipWord_43 : decode cX7_skipWord 43 = .ok (.iadd, 1) := by decide +kernel
theorem dX7_skipWord_44 : decode cX7_skipWord 44 = .ok (.putfield 31, 3) := by decide +kernel
theorem dX7_skipWord_47 : decode cX7_skipWord 47 = .ok (.goto (-47), 3) := by decide +kernel
theorem dX7_skipWord_50 : decode cX7_skipWord 50 = .ok (.return_, 1) := by decide +kernel
theorem dX7_isWord_0 : decode cX7_isWord 0 = .ok (.aload_n 0, 1) := by decide +kernel
theorem dX7_isWord_1 : decode cX7_isWord 1 = .ok (.getfield 31, 3) := by decide +kernel
theorem dX7_isWord_4 : decode cX7_isWord 4 = .ok (.iload_n 2, 1) := by decide +kernel
theorem dX7_isWord_5 : decode cX7_isWord 5 = .ok (.isub, 1) := by decide +kernel
theorem dX7_isWord_6 : decode cX7_isWord 6 = .ok (.aload_n 1, 1) := by decide +kernel
theorem dX7_isWord_7 : decode cX7_isWord 7 = .ok (.invokevirtual 155, 3) := by decide +kernel
theorem dX7_isWord_10 : decode cX7_isWord 10 = .ok (.if_icmp .eq 5, 3) := by decide +kernel
theorem dX7_isWord_13 : decode cX7_isWord 13 = .ok (.iconst 0, 1) := by decide +kernel
theorem dX7_isWord_14 : decode cX7_isWord 14 = .ok (.ireturn, 1) := by decide +kernel
theorem dX7_isWord_15 : decode cX7_isWord 15 = .ok (.iconst 0, 1) := by decide +kernel
theorem dX7_isWord_16 : decode cX7_isWord 16 = .ok (.istore_n 3, 1) := by decide +kernel
theorem dX7_isWord_17 : decode cX7_isWord 17 = .ok (.iload_n 3, 1) := by decide +kernel
theorem dX7_isWord_18 : decode cX7_isWord 18 = .ok (.aload_n 1, 1) := by decide +kernel
theorem dX7_isWord_19 : decode cX7_isWord 19 = .ok (.invokevirtual 155, 3) := by decide +kernel
theorem dX7_isWord_22 : decode cX7_isWord 22 = .ok (.if_icmp .ge 26, 3) := by decide +kernel
theorem dX7_isWord_25 : decode cX7_isWord 25 = .ok (.aload_n 0, 1) := by decide +kernel
theorem dX7_isWord_26 : decode cX7_isWord 26 = .ok (.iload_n 2, 1) := by decide +kernel
theorem dX7_isWord_27 : decode cX7_isWord 27 = .ok (.iload_n 3, 1) := by decide +kernel
theorem dX7_isWord_28 : decode cX7_isWord 28 = .ok (.iadd, 1) := by decide +kernel
theorem dX7_isWord_29 : decode cX7_isWord 29 = .ok (.invokevirtual 148, 3) := by decide +kernel
theorem dX7_isWord_32 : decode cX7_isWord 32 = .ok (.aload_n 1, 1) := by decide +kernel
theorem dX7_isWord_33 : decode cX7_isWord 33 = .ok (.iload_n 3, 1) := by decide +kernel
theorem dX7_isWord_34 : decode cX7_isWord 34 = .ok (.invokevirtual 160, 3) := by decide +kernel
theorem dX7_isWord_37 : decode cX7_isWord 37 = .ok (.if_icmp .eq 5, 3) := by decide +kernel
theorem dX7_isWord_40 : decode cX7_isWord 40 = .ok (.iconst 0, 1) := by decide +kernel
theorem dX7_isWord_41 : decode cX7_isWord 41 = .ok (.ireturn, 1) := by decide +kernel
theorem dX7_isWord_42 : decode cX7_isWord 42 = .ok (.iinc 3 1, 3) := by decide +kernel
theorem dX7_isWord_45 : decode cX7_isWord 45 = .ok (.goto (-28), 3) := by decide +kernel
theorem dX7_isWord_48 : decode cX7_isWord 48 = .ok (.iconst 1, 1) := by decide +kernel
theorem dX7_isWord_49 : decode cX7_isWord 49 = .ok (.ireturn, 1) := by decide +kernel
theorem dX7_isDigit_0 : decode cX7_isDigit 0 = .ok (.iload_n 0, 1) := by decide +kernel
theorem dX7_isDigit_1 : decode cX7_isDigit 1 = .ok (.bipush 48, 2) := by decide +kernel
theorem dX7_isDigit_3 : decode cX7_isDigit 3 = .ok (.if_icmp .lt 13, 3) := by decide +kernel
theorem dX7_isDigit_6 : decode cX7_isDigit 6 = .ok (.iload_n 0, 1) := by decide +kernel
theorem dX7_isDigit_7 : decode cX7_isDigit 7 = .ok (.bipush 57, 2) := by decide +kernel
theorem dX7_isDigit_9 : decode cX7_isDigit 9 = .ok (.if_icmp .gt 7, 3) := by decide +kernel
theorem dX7_isDigit_12 : decode cX7_isDigit 12 = .ok (.iconst 1, 1) := by decide +kernel
theorem dX7_isDigit_13 : decode cX7_isDigit 13 = .ok (.goto 4, 3) := by decide +kernel
theorem dX7_isDigit_16 : decode cX7_isDigit 16 = .ok (.iconst 0, 1) := by decide +kernel
theorem dX7_isDigit_17 : decode cX7_isDigit 17 = .ok (.ireturn, 1) := by decide +kernel
theorem dX7_byteAt_0 : decode cX7_byteAt 0 = .ok (.iload_n 1, 1) := by decide +kernel
theorem dX7_byteAt_1 : decode cX7_byteAt 1 = .ok (.ifCond .lt 27, 3) := by decide +kernel
theorem dX7_byteAt_4 : decode cX7_byteAt 4 = .ok (.iload_n 1, 1) := by decide +kernel
theorem dX7_byteAt_5 : decode cX7_byteAt 5 = .ok (.aload_n 0, 1) := by decide +kernel
theorem dX7_byteAt_6 : decode cX7_byteAt 6 = .ok (.getfield 28, 3) := by decide +kernel
theorem dX7_byteAt_9 : decode cX7_byteAt 9 = .ok (.if_icmp .ge 19, 3) := by decide +kernel
theorem dX7_byteAt_12 : decode cX7_byteAt 12 = .ok (.iload_n 1, 1) := by decide +kernel
theorem dX7_byteAt_13 : decode cX7_byteAt 13 = .ok (.sipush 600, 3) := by decide +kernel
theorem dX7_byteAt_16 : decode cX7_byteAt 16 = .ok (.if_icmp .ge 12, 3) := by decide +kernel
theorem dX7_byteAt_19 : decode cX7_byteAt 19 = .ok (.aload_n 0, 1) := by decide +kernel
theorem dX7_byteAt_20 : decode cX7_byteAt 20 = .ok (.getfield 15, 3) := by decide +kernel
theorem dX7_byteAt_23 : decode cX7_byteAt 23 = .ok (.iload_n 1, 1) := by decide +kernel
theorem dX7_byteAt_24 : decode cX7_byteAt 24 = .ok (.baload, 1) := by decide +kernel
theorem dX7_byteAt_25 : decode cX7_byteAt 25 = .ok (.goto 4, 3) := by decide +kernel
theorem dX7_byteAt_28 : decode cX7_byteAt 28 = .ok (.iconst 0, 1) := by decide +kernel
theorem dX7_byteAt_29 : decode cX7_byteAt 29 = .ok (.ireturn, 1) := by decide +kernel
theorem dX7_fail_0 : decode cX7_fail 0 = .ok (.aload_n 0, 1) := by decide +kernel
theorem dX7_fail_1 : decode cX7_fail 1 = .ok (.getfield 34, 3) := by decide +kernel
theorem dX7_fail_4 : decode cX7_fail 4 = .ok (.ifCond .ne 13, 3) := by decide +kernel
theorem dX7_fail_7 : decode cX7_fail 7 = .ok (.aload_n 0, 1) := by decide +kernel
theorem dX7_fail_8 : decode cX7_fail 8 = .ok (.iload_n 1, 1) := by decide +kernel
theorem dX7_fail_9 : decode cX7_fail 9 = .ok (.putfield 34, 3) := by decide +kernel
theorem dX7_fail_12 : decode cX7_fail 12 = .ok (.aload_n 0, 1) := by decide +kernel
theorem dX7_fail_13 : decode cX7_fail 13 = .ok (.iload_n 2, 1) := by decide +kernel
theorem dX7_fail_14 : decode cX7_fail 14 = .ok (.putfield 9, 3) := by decide +kernel
theorem dX7_fail_17 : decode cX7_fail 17 = .ok (.return_, 1) := by decide +kernel
theorem dX8_init_0 : decode cX8_init 0 = .ok (.aload_n 0, 1) := by decide +kernel
theorem dX8_init_1 : decode cX8_init 1 = .ok (.invokespecial 3, 3) := by decide +kernel
theorem dX8_init_4 : decode cX8_init 4 = .ok (.aload_n 0, 1) := by decide +kernel
theorem dX8_init_5 : decode cX8_init 5 = .ok (.bipush 12, 2) := by decide +kernel
theorem dX8_init_7 : decode cX8_init 7 = .ok (.newarray .int, 2) := by decide +kernel
theorem dX8_init_9 : decode cX8_init 9 = .ok (.putfield 9, 3) := by decide +kernel
theorem dX8_init_12 : decode cX8_init 12 = .ok (.aload_n 0, 1) := by decide +kernel
theorem dX8_init_13 : decode cX8_init 13 = .ok (.bipush 12, 2) := by decide +kernel
theorem dX8_init_15 : decode cX8_init 15 = .ok (.newarray .int, 2) := by decide +kernel
theorem dX8_init_17 : decode cX8_init 17 = .ok (.putfield 15, 3) := by decide +kernel
theorem dX8_init_20 : decode cX8_init 20 = .ok (.aload_n 0, 1) := by decide +kernel
theorem dX8_init_21 : decode cX8_init 21 = .ok (.bipush 12, 2) := by decide +kernel
theorem dX8_init_23 : decode cX8_init 23 = .ok (.newarray .int, 2) := by decide +kernel
theorem dX8_init_25 : decode cX8_init 25 = .ok (.putfield 18, 3) := by decide +kernel
theorem dX8_init_28 : decode cX8_init 28 = .ok (.aload_n 0, 1) := by decide +kernel
theorem dX8_init_29 : decode cX8_init 29 = .ok (.bipush 12, 2) := by decide +kernel
theorem dX8_init_31 : decode cX8_init 31 = .ok (.newarray .int, 2) := by decide +kernel
theorem dX8_init_33 : decode cX8_init 33 = .ok (.putfield 21, 3) := by decide +kernel
theorem dX8_init_36 : decode cX8_init 36 = .ok (.aload_n 0, 1) := by decide +kernel
theorem dX8_init_37 : decode cX8_init 37 = .ok (.invokevirtual 24, 3) := by decide +kernel
theorem dX8_init_40 : decode cX8_init 40 = .ok (.return_, 1) := by decide +kernel
theorem dX8_clear_0 : decode cX8_clear 0 = .ok (.aload_n 0, 1) := by decide +kernel
theorem dX8_clear_1 : decode cX8_clear 1 = .ok (.iconst 1, 1) := by decide +kernel
theorem dX8_clear_2 : decode cX8_clear 2 = .ok (.putfield 27, 3) := by decide +kernel
theorem dX8_clear_5 : decode cX8_clear 5 = .ok (.aload_n 0, 1) := by decide +kernel
theorem dX8_clear_6 : decode cX8_clear 6 = .ok (.getfield 9, 3) := by decide +kernel
theorem dX8_clear_9 : decode cX8_clear 9 = .ok (.iconst 0, 1) := by decide +kernel
theorem dX8_clear_10 : decode cX8_clear 10 = .ok (.iconst (-1), 1) := by decide +kernel
theorem dX8_clear_11 : decode cX8_clear 11 = .ok (.iastore, 1) := by decide +kernel
theorem dX8_clear_12 : decode cX8_clear 12 = .ok (.aload_n 0, 1) := by decide +kernel
theorem dX8_clear_13 : decode cX8_clear 13 = .ok (.getfield 15, 3) := by decide +kernel
theorem dX8_clear_16 : decode cX8_clear 16 = .ok (.iconst 0, 1) := by decide +kernel
theorem dX8_clear_17 : decode cX8_clear 17 = .ok (.iconst 0, 1) := by decide +kernel
theorem dX8_clear_18 : decode cX8_clear 18 = .ok (.iastore, 1) := by decide +kernel
theorem dX8_clear_19 : decode cX8_clear 19 = .ok (.aload_n 0, 1) := by decide +kernel
theorem dX8_clear_20 : decode cX8_clear 20 = .ok (.getfield 18, 3) := by decide +kernel
theorem dX8_clear_23 : decode cX8_clear 23 = .ok (.iconst 0, 1) := by decide +kernel
theorem dX8_clear_24 : decode cX8_clear 24 = .ok (.iconst 0, 1) := by decide +kernel
theorem dX8_clear_25 : decode cX8_clear 25 = .ok (.iastore, 1) := by decide +kernel
theorem dX8_clear_26 : decode cX8_clear 26 = .ok (.aload_n 0, 1) := by decide +kernel
theorem dX8_clear_27 : decode cX8_clear 27 = .ok (.getfield 21, 3) := by decide +kernel
theorem dX8_clear_30 : decode cX8_clear 30 = .ok (.iconst 0, 1) := by decide +kernel
theorem dX8_clear_31 : decode cX8_clear 31 = .ok (.ldc 31, 2) := by decide +kernel
theorem dX8_clear_33 : decode cX8_clear 33 = .ok (.iastore, 1) := by decide +kernel
theorem dX8_clear_34 : decode cX8_clear 34 = .ok (.return_, 1) := by decide +kernel
theorem dX8_copyFrom_0 : decode cX8_copyFrom 0 = .ok (.aload_n 0, 1) := by decide +kernel
theorem dX8_copyFrom_1 : decode cX8_copyFrom 1 = .ok (.aload_n 1, 1) := by decide +kernel
theorem dX8_copyFrom_2 : decode cX8_copyFrom 2 = .ok (.getfield 27, 3) := by decide +kernel
theorem dX8_copyFrom_5 : decode cX8_copyFrom 5 = .ok (.putfield 27, 3) := by decide +kernel
theorem dX8_copyFrom_8 : decode cX8_copyFrom 8 = .ok (.aload_n 1, 1) := by decide +kernel
theorem dX8_copyFrom_9 : decode cX8_copyFrom 9 = .ok (.getfield 9, 3) := by decide +kernel
theorem dX8_copyFrom_12 : decode cX8_copyFrom 12 = .ok (.iconst 0, 1) := by decide +kernel
theorem dX8_copyFrom_13 : decode cX8_copyFrom 13 = .ok (.aload_n 0, 1) := by decide +kernel
theorem dX8_copyFrom_14 : decode cX8_copyFrom 14 = .ok (.getfield 9, 3) := by decide +kernel
theorem dX8_copyFrom_17 : decode cX8_copyFrom 17 = .ok (.iconst 0, 1) := by decide +kernel
theorem dX8_copyFrom_18 : decode cX8_copyFrom 18 = .ok (.bipush 12, 2) := by decide +kernel
theorem dX8_copyFrom_20 : decode cX8_copyFrom 20 = .ok (.invokestatic 32, 3) := by decide +kernel
theorem dX8_copyFrom_23 : decode cX8_copyFrom 23 = .ok (.aload_n 1, 1) := by decide +kernel
theorem dX8_copyFrom_24 : decode cX8_copyFrom 24 = .ok (.getfield 15, 3) := by decide +kernel
theorem dX8_copyFrom_27 : decode cX8_copyFrom 27 = .ok (.iconst 0, 1) := by decide +kernel
theorem dX8_copyFrom_28 : decode cX8_copyFrom 28 = .ok (.aload_n 0, 1) := by decide +kernel
theorem dX8_copyFrom_29 : decode cX8_copyFrom 29 = .ok (.getfield 15, 3) := by decide +kernel
theorem dX8_copyFrom_32 : decode cX8_copyFrom 32 = .ok (.iconst 0, 1) := by decide +kernel
theorem dX8_copyFrom_33 : decode cX8_copyFrom 33 = .ok (.bipush 12, 2) := by decide +kernel
theorem dX8_copyFrom_35 : decode cX8_copyFrom 35 = .ok (.invokestatic 32, 3) := by decide +kernel
theorem dX8_copyFrom_38 : decode cX8_copyFrom 38 = .ok (.aload_n 1, 1) := by decide +kernel
theorem dX8_copyFrom_39 : decode cX8_copyFrom 39 = .ok (.getfield 18, 3) := by decide +kernel
theorem dX8_copyFrom_42 : decode cX8_copyFrom 42 = .ok (.iconst 0, 1) := by decide +kernel
theorem dX8_copyFrom_43 : decode cX8_copyFrom 43 = .ok (.aload_n 0, 1) := by decide +kernel
theorem dX8_copyFrom_44 : decode cX8_copyFrom 44 = .ok (.getfield 18, 3) := by decide +kernel
theorem dX8_copyFrom_47 : decode cX8_copyFrom 47 = .ok (.iconst 0, 1) := by decide +kernel
theorem dX8_copyFrom_48 : decode cX8_copyFrom 48 = .ok (.bipush 12, 2) := by decide +kernel
theorem dX8_copyFrom_50 : decode cX8_copyFrom 50 = .ok (.invokestatic 32, 3) := by decide +kernel
theorem dX8_copyFrom_53 : decode cX8_copyFrom 53 = .ok (.aload_n 1, 1) := by decide +kernel
theorem dX8_copyFrom_54 : decode cX8_copyFrom 54 = .ok (.getfield 21, 3) := by decide +kernel
theorem dX8_copyFrom_57 : decode cX8_copyFrom 57 = .ok (.iconst 0, 1) := by decide +kernel
theorem dX8_copyFrom_58 : decode cX8_copyFrom 58 = .ok (.aload_n 0, 1) := by decide +kernel
theorem dX8_copyFrom_59 : decode cX8_copyFrom 59 = .ok (.getfield 21, 3) := by decide +kernel
theorem dX8_copyFrom_62 : decode cX8_copyFrom 62 = .ok (.iconst 0, 1) := by decide +kernel
theorem dX8_copyFrom_63 : decode cX8_copyFrom 63 = .ok (.bipush 12, 2) := by decide +kernel
theorem dX8_copyFrom_65 : decode cX8_copyFrom 65 = .ok (.invokestatic 32, 3) := by decide +kernel
theorem dX8_copyFrom_68 : decode cX8_copyFrom 68 = .ok (.return_, 1) := by decide +kernel
theorem dX8_has_0 : decode cX8_has 0 = .ok (.iload_n 1, 1) := by decide +kernel
theorem dX8_has_1 : decode cX8_has 1 = .ok (.ifCond .lt 15, 3) := by decide +kernel
theorem dX8_has_4 : decode cX8_has 4 = .ok (.iload_n 1, 1) := by decide +kernel
theorem dX8_has_5 : decode cX8_has 5 = .ok (.aload_n 0, 1) := by decide +kernel
theorem dX8_has_6 : decode cX8_has 6 = .ok (.getfield 27, 3) := by decide +kernel
theorem dX8_has_9 : decode cX8_has 9 = .ok (.if_icmp .ge 7, 3) := by decide +kernel
theorem dX8_has_12 : decode cX8_has 12 = .ok (.iconst 1, 1) := by decide +kernel
theorem dX8_has_13 : decode cX8_has 13 = .ok (.goto 4, 3) := by decide +kernel
theorem dX8_has_16 : decode cX8_has 16 = .ok (.iconst 0, 1) := by decide +kernel
theorem dX8_has_17 : decode cX8_has 17 = .ok (.ireturn, 1) := by decide +kernel
theorem dX8_isFull_0 : decode cX8_isFull 0 = .ok (.aload_n 0, 1) := by decide +kernel
theorem dX8_isFull_1 : decode cX8_isFull 1 = .ok (.getfield 27, 3) := by decide +kernel
theorem dX8_isFull_4 : decode cX8_isFull 4 = .ok (.bipush 12, 2) := by decide +kernel
theorem dX8_isFull_6 : decode cX8_isFull 6 = .ok (.if_icmp .lt 7, 3) := by decide +kernel
theorem dX8_isFull_9 : decode cX8_isFull 9 = .ok (.iconst 1, 1) := by decide +kernel
theorem dX8_isFull_10 : decode cX8_isFull 10 = .ok (.goto 4, 3) := by decide +kernel
theorem dX8_isFull_13 : decode cX8_isFull 13 = .ok (.iconst 0, 1) := by decide +kernel
theorem dX8_isFull_14 : decode cX8_isFull 14 = .ok (.ireturn, 1) := by decide +kernel
theorem dX8_isLeaf_0 : decode cX8_isLeaf 0 = .ok (.aload_n 0, 1) := by decide +kernel
theorem dX8_isLeaf_1 : decode cX8_isLeaf 1 = .ok (.iload_n 1, 1) := by decide +kernel
theorem dX8_isLeaf_2 : decode cX8_isLeaf 2 = .ok (.invokevirtual 38, 3) := by decide +kernel
theorem dX8_isLeaf_5 : decode cX8_isLeaf 5 = .ok (.ifCond .ne 7, 3) := by decide +kernel
theorem dX8_isLeaf_8 : decode cX8_isLeaf 8 = .ok (.iconst 1, 1) := by decide +kernel
theorem dX8_isLeaf_9 : decode cX8_isLeaf 9 = .ok (.goto 4, 3) := by decide +kernel
theorem dX8_isLeaf_12 : decode cX8_isLeaf 12 = .ok (.iconst 0, 1) := by decide +kernel
theorem dX8_isLeaf_13 : decode cX8_isLeaf 13 = .ok (.ireturn, 1) := by decide +kernel
theorem dX8_childrenOf_0 : decode cX8_childrenOf 0 = .ok (.iconst 0, 1) := by decide +kernel
theorem dX8_childrenOf_1 : decode cX8_childrenOf 1 = .ok (.istore_n 2, 1) := by decide +kernel
theorem dX8_childrenOf_2 : decode cX8_childrenOf 2 = .ok (.iconst 1, 1) := by decide +kernel
theorem dX8_childrenOf_3 : decode cX8_childrenOf 3 = .ok (.istore_n 3, 1) := by decide +kernel
theorem dX8_childrenOf_4 : decode cX8_childrenOf 4 = .ok (.iload_n 3, 1) := by decide +kernel
theorem dX8_childrenOf_5 : decode cX8_childrenOf 5 = .ok (.aload_n 0, 1) := by decide +kernel
theorem dX8_childrenOf_6 : decode cX8_childrenOf 6 = .ok (.getfield 27, 3) := by decide +kernel
theorem dX8_childrenOf_9 : decode cX8_childrenOf 9 = .ok (.if_icmp .ge 22, 3) := by decide +kernel
theorem dX8_childrenOf_12 : decode cX8_childrenOf 12 = .ok (.aload_n 0, 1) := by decide +kernel
theorem dX8_childrenOf_13 : decode cX8_childrenOf 13 = .ok (.getfield 9, 3) := by decide +kernel
theorem dX8_childrenOf_16 : decode cX8_childrenOf 16 = .ok (.iload_n 3, 1) := by decide +kernel
theorem dX8_childrenOf_17 : decode cX8_childrenOf 17 = .ok (.iaload, 1) := by decide +kernel
theorem dX8_childrenOf_18 : decode cX8_childrenOf 18 = .ok (.iload_n 1, 1) := by decide +kernel
theorem dX8_childrenOf_19 : decode cX8_childrenOf 19 = .ok (.if_icmp .ne 6, 3) := by decide +kernel
theorem dX8_childrenOf_22 : decode cX8_childrenOf 22 = .ok (.iinc 2 1, 3) := by decide +kernel
theorem dX8_childrenOf_25 : decode cX8_childrenOf 25 = .ok (.iinc 3 1, 3) := by decide +kernel
theorem dX8_childrenOf_28 : decode cX8_childrenOf 28 = .ok (.goto (-24), 3) := by decide +kernel
theorem dX8_childrenOf_31 : decode cX8_childrenOf 31 = .ok (.iload_n 2, 1) := by decide +kernel
theorem dX8_childrenOf_32 : decode cX8_childrenOf 32 = .ok (.ireturn, 1) := by decide +kernel
theorem dX8_add_0 : decode cX8_add 0 = .ok (.aload_n 0, 1) := by decide +kernel
theorem dX8_add_1 : decode cX8_add 1 = .ok (.invokevirtual 42, 3) := by decide +kernel
theorem dX8_add_4 : decode cX8_add 4 = .ok (.ifCond .ne 11, 3) := by decide +kernel
theorem dX8_add_7 : decode cX8_add 7 = .ok (.aload_n 0, 1) := by decide +kernel
theorem dX8_add_8 : decode cX8_add 8 = .ok (.iload_n 1, 1) := by decide +kernel
theorem dX8_add_9 : decode cX8_add 9 = .ok (.invokevirtual 46, 3) := by decide +kernel
theorem dX8_add_12 : decode cX8_add 12 = .ok (.ifCond .ne 4, 3) := by decide +kernel
theorem dX8_add_15 : decode cX8_add 15 = .ok (.return_, 1) := by decide +kernel
theorem dX8_add_16 : decode cX8_add 16 = .ok (.aload_n 0, 1) := by decide +kernel
theorem dX8_add_17 : decode cX8_add 17 = .ok (.getfield 9, 3) := by decide +kernel
theorem dX8_add_20 : decode cX8_add 20 = .ok (.aload_n 0, 1) := by decide +kernel
theorem dX8_add_21 : decode cX8_add 21 = .ok (.getfield 27, 3) := by decide +kernel
theorem dX8_add_24 : decode cX8_add 24 = .ok (.iload_n 1, 1) := by decide +kernel
theorem dX8_add_25 : decode cX8_add 25 = .ok (.iastore, 1) := by decide +kernel
theorem dX8_add_26 : decode cX8_add 26 = .ok (.aload_n 0, 1) := by decide +kernel
theorem dX8_add_27 : decode cX8_add 27 = .ok (.getfield 15, 3) := by decide +kernel
theorem dX8_add_30 : decode cX8_add 30 = .ok (.aload_n 0, 1) := by decide +kernel
theorem dX8_add_31 : decode cX8_add 31 = .ok (.getfield 27, 3) := by decide +kernel
theorem dX8_add_34 : decode cX8_add 34 = .ok (.iload_n 2, 1) := by decide +kernel
theorem dX8_add_35 : decode cX8_add 35 = .ok (.iastore, 1) := by decide +kernel
theorem dX8_add_36 : decode cX8_add 36 = .ok (.aload_n 0, 1) := by decide +kernel
theorem dX8_add_37 : decode cX8_add 37 = .ok (.getfield 18, 3) := by decide +kernel
theorem dX8_add_40 : decode cX8_add 40 = .ok (.aload_n 0, 1) := by decide +kernel
theorem dX8_add_41 : decode cX8_add 41 = .ok (.getfield 27, 3) := by decide +kernel
theorem dX8_add_44 : decode cX8_add 44 = .ok (.iconst 0, 1) := by decide +kernel
theorem dX8_add_45 : decode cX8_add 45 = .ok (.iastore, 1) := by decide +kernel
theorem dX8_add_46 : decode cX8_add 46 = .ok (.aload_n 0, 1) := by decide +kernel
theorem dX8_add_47 : decode cX8_add 47 = .ok (.dup, 1) := by decide +kernel
theorem dX8_add_48 : decode cX8_add 48 = .ok (.getfield 27, 3) := by decide +kernel
theorem dX8_add_51 : decode cX8_add 51 = .ok (.iconst 1, 1) := by decide +kernel
theorem dX8_add_52 : decode cX8_add 52 = .ok (.iadd, 1) := by decide +kernel
theorem dX8_add_53 : decode cX8_add 53 = .ok (.putfield 27, 3) := by decide +kernel
theorem dX8_add_56 : decode cX8_add 56 = .ok (.aload_n 0, 1) := by decide +kernel
theorem dX8_add_57 : decode cX8_add 57 = .ok (.invokevirtual 50, 3) := by decide +kernel
theorem dX8_add_60 : decode cX8_add 60 = .ok (.return_, 1) := by decide +kernel
theorem dX8_changeShares_0 : decode cX8_changeShares 0 = .ok (.aload_n 0, 1) := by decide +kernel
theorem dX8_changeShares_1 : decode cX8_changeShares 1 = .ok (.iload_n 1, 1) := by decide +kernel
theorem dX8_changeShares_2 : decode cX8_changeShares 2 = .ok (.invokevirtual 46, 3) := by decide +kernel
theorem dX8_changeShares_5 : decode cX8_changeShares 5 = .ok (.ifCond .eq 14, 3) := by decide +kernel
theorem dX8_changeShares_8 : decode cX8_changeShares 8 = .ok (.aload_n 0, 1) := by decide +kernel
theorem dX8_changeShares_9 : decode cX8_changeShares 9 = .ok (.getfield 15, 3) := by decide +kernel
theorem dX8_changeShares_12 : decode cX8_changeShares 12 = .ok (.iload_n 1, 1) := by decide +kernel
theorem dX8_changeShares_13 : decode cX8_changeShares 13 = .ok (.iload_n 2, 1) := by decide +kernel
theorem dX8_changeShares_14 : decode cX8_changeShares 14 = .ok (.iastore, 1) := by decide +kernel
theorem dX8_changeShares_15 : decode cX8_changeShares 15 = .ok (.aload_n 0, 1) := by decide +kernel
theorem dX8_changeShares_16 : decode cX8_changeShares 16 = .ok (.invokevirtual 50, 3) := by decide +kernel
theorem dX8_changeShares_19 : decode cX8_changeShares 19 = .ok (.return_, 1) := by decide +kernel
theorem dX8_dealBase_0 : decode cX8_dealBase 0 = .ok (.iconst 1, 1) := by decide +kernel
theorem dX8_dealBase_1 : decode cX8_dealBase 1 = .ok (.istore_n 1, 1) := by decide +kernel
theorem dX8_dealBase_2 : decode cX8_dealBase 2 = .ok (.iload_n 1, 1) := by decide +kernel
theorem dX8_dealBase_3 : decode cX8_dealBase 3 = .ok (.aload_n 0, 1) := by decide +kernel
theorem dX8_dealBase_4 : decode cX8_dealBase 4 = .ok (.getfield 27, 3) := by decide +kernel
theorem dX8_dealBase_7 : decode cX8_dealBase 7 = .ok (.if_icmp .ge 59, 3) := by decide +kernel
theorem dX8_dealBase_10 : decode cX8_dealBase 10 = .ok (.aload_n 0, 1) := by decide +kernel
theorem dX8_dealBase_11 : decode cX8_dealBase 11 = .ok (.getfield 9, 3) := by decide +kernel
theorem dX8_dealBase_14 : decode cX8_dealBase 14 = .ok (.iload_n 1, 1) := by decide +kernel
theorem dX8_dealBase_15 : decode cX8_dealBase 15 = .ok (.iaload, 1) := by decide +kernel
theorem dX8_dealBase_16 : decode cX8_dealBase 16 = .ok (.istore_n 2, 1) := by decide +kernel
theorem dX8_dealBase_17 : decode cX8_dealBase 17 = .ok (.aload_n 0, 1) := by decide +kernel
theorem dX8_dealBase_18 : decode cX8_dealBase 18 = .ok (.iload_n 2, 1) := by decide +kernel
theorem dX8_dealBase_19 : decode cX8_dealBase 19 = .ok (.invokevirtual 53, 3) := by decide +kernel
theorem dX8_dealBase_22 : decode cX8_dealBase 22 = .ok (.istore_n 3, 1) := by decide +kernel
theorem dX8_dealBase_23 : decode cX8_dealBase 23 = .ok (.aload_n 0, 1) := by decide +kernel
theorem dX8_dealBase_24 : decode cX8_dealBase 24 = .ok (.getfield 21, 3) := by decide +kernel
theorem dX8_dealBase_27 : decode cX8_dealBase 27 = .ok (.iload_n 1, 1) := by decide +kernel
theorem dX8_dealBase_28 : decode cX8_dealBase 28 = .ok (.aload_n 0, 1) := by decide +kernel
theorem dX8_dealBase_29 : decode cX8_dealBase 29 = .ok (.iload_n 2, 1) := by decide +kernel
theorem dX8_dealBase_30 : decode cX8_dealBase 30 = .ok (.invokevirtual 46, 3) := by decide +kernel
theorem dX8_dealBase_33 : decode cX8_dealBase 33 = .ok (.ifCond .eq 25, 3) := by decide +kernel
theorem dX8_dealBase_36 : decode cX8_dealBase 36 = .ok (.iload_n 3, 1) := by decide +kernel
theorem dX8_dealBase_37 : decode cX8_dealBase 37 = .ok (.ifCond .le 21, 3) := by decide +kernel
theorem dX8_dealBase_40 : decode cX8_dealBase 40 = .ok (.aload_n 0, 1) := by decide +kernel
theorem dX8_dealBase_41 : decode cX8_dealBase 41 = .ok (.getfield 21, 3) := by decide +kernel
theorem dX8_dealBase_44 : decode cX8_dealBase 44 = .ok (.iload_n 2, 1) := by decide +kernel
theorem dX8_dealBase_45 : decode cX8_dealBase 45 = .ok (.iaload, 1) := by decide +kernel
theorem dX8_dealBase_46 : decode cX8_dealBase 46 = .ok (.aload_n 0, 1) := by decide +kernel
theorem dX8_dealBase_47 : decode cX8_dealBase 47 = .ok (.getfield 15, 3) := by decide +kernel
theorem dX8_dealBase_50 : decode cX8_dealBase 50 = .ok (.iload_n 1, 1) := by decide +kernel
theorem dX8_dealBase_51 : decode cX8_dealBase 51 = .ok (.iaload, 1) := by decide +kernel
theorem dX8_dealBase_52 : decode cX8_dealBase 52 = .ok (.imul, 1) := by decide +kernel
theorem dX8_dealBase_53 : decode cX8_dealBase 53 = .ok (.iload_n 3, 1) := by decide +kernel
theorem dX8_dealBase_54 : decode cX8_dealBase 54 = .ok (.idiv, 1) := by decide +kernel
theorem dX8_dealBase_55 : decode cX8_dealBase 55 = .ok (.goto 4, 3) := by decide +kernel
theorem dX8_dealBase_58 : decode cX8_dealBase 58 = .ok (.iconst 0, 1) := by decide +kernel
theorem dX8_dealBase_59 : decode cX8_dealBase 59 = .ok (.iastore, 1) := by decide +kernel
theorem dX8_dealBase_60 : decode cX8_dealBase 60 = .ok (.iinc 1 1, 3) := by decide +kernel
theorem dX8_dealBase_63 : decode cX8_dealBase 63 = .ok (.goto (-61), 3) := by decide +kernel
theorem dX8_dealBase_66 : decode cX8_dealBase 66 = .ok (.return_, 1) := by decide +kernel
theorem dX8_sharesUnder_0 : decode cX8_sharesUnder 0 = .ok (.iconst 0, 1) := by decide +kernel
theorem dX8_sharesUnder_1 : decode cX8_sharesUnder 1 = .ok (.istore_n 2, 1) := by decide +kernel
theorem dX8_sharesUnder_2 : decode cX8_sharesUnder 2 = .ok (.iconst 1, 1) := by decide +kernel
theorem dX8_sharesUnder_3 : decode cX8_sharesUnder 3 = .ok (.istore_n 3, 1) := by decide +kernel
theorem dX8_sharesUnder_4 : decode cX8_sharesUnder 4 = .ok (.iload_n 3, 1) := by decide +kernel
theorem dX8_sharesUnder_5 : decode cX8_sharesUnder 5 = .ok (.aload_n 0, 1) := by decide +kernel
theorem dX8_sharesUnder_6 : decode cX8_sharesUnder 6 = .ok (.getfield 27, 3) := by decide +kernel
theorem dX8_sharesUnder_9 : decode cX8_sharesUnder 9 = .ok (.if_icmp .ge 28, 3) := by decide +kernel
theorem dX8_sharesUnder_12 : decode cX8_sharesUnder 12 = .ok (.aload_n 0, 1) := by decide +kernel
theorem dX8_sharesUnder_13 : decode cX8_sharesUnder 13 = .ok (.getfield 9, 3) := by decide +kernel
theorem dX8_sharesUnder_16 : decode cX8_sharesUnder 16 = .ok (.iload_n 3, 1) := by decide +kernel
theorem dX8_sharesUnder_17 : decode cX8_sharesUnder 17 = .ok (.iaload, 1) := by decide +kernel
theorem dX8_sharesUnder_18 : decode cX8_sharesUnder 18 = .ok (.iload_n 1, 1) := by decide +kernel
theorem dX8_sharesUnder_19 : decode cX8_sharesUnder 19 = .ok (.if_icmp .ne 12, 3) := by decide +kernel
theorem dX8_sharesUnder_22 : decode cX8_sharesUnder 22 = .ok (.iload_n 2, 1) := by decide +kernel
theorem dX8_sharesUnder_23 : decode cX8_sharesUnder 23 = .ok (.aload_n 0, 1) := by decide +kernel
theorem dX8_sharesUnder_24 : decode cX8_sharesUnder 24 = .ok (.getfield 15, 3) := by decide +kernel
theorem dX8_sharesUnder_27 : decode cX8_sharesUnder 27 = .ok (.iload_n 3, 1) := by decide +kernel
theorem dX8_sharesUnder_28 : decode cX8_sharesUnder 28 = .ok (.iaload, 1) := by decide +kernel
theorem dX8_sharesUnder_29 : decode cX8_sharesUnder 29 = .ok (.iadd, 1) := by decide +kernel
theorem dX8_sharesUnder_30 : decode cX8_sharesUnder 30 = .ok (.istore_n 2, 1) := by decide +kernel
theorem dX8_sharesUnder_31 : decode cX8_sharesUnder 31 = .ok (.iinc 3 1, 3) := by decide +kernel
theorem dX8_sharesUnder_34 : decode cX8_sharesUnder 34 = .ok (.goto (-30), 3) := by decide +kernel
theorem dX8_sharesUnder_37 : decode cX8_sharesUnder 37 = .ok (.iload_n 2, 1) := by decide +kernel
theorem dX8_sharesUnder_38 : decode cX8_sharesUnder 38 = .ok (.ireturn, 1) := by decide +kernel
theorem dX8_sumBelow_0 : decode cX8_sumBelow 0 = .ok (.iconst 0, 1) := by decide +kernel
theorem dX8_sumBelow_1 : decode cX8_sumBelow 1 = .ok (.istore_n 3, 1) := by decide +kernel
theorem dX8_sumBelow_2 : decode cX8_sumBelow 2 = .ok (.iconst 0, 1) := by decide +kernel
theorem dX8_sumBelow_3 : decode cX8_sumBelow 3 = .ok (.istore 4, 2) := by decide +kernel
theorem dX8_sumBelow_5 : decode cX8_sumBelow 5 = .ok (.iload 4, 2) := by decide +kernel
theorem dX8_sumBelow_7 : decode cX8_sumBelow 7 = .ok (.aload_n 0, 1) := by decide +kernel
theorem dX8_sumBelow_8 : decode cX8_sumBelow 8 = .ok (.getfield 27, 3) := by decide +kernel
theorem dX8_sumBelow_11 : decode cX8_sumBelow 11 = .ok (.if_icmp .ge 42, 3) := by decide +kernel
theorem dX8_sumBelow_14 : decode cX8_sumBelow 14 = .ok (.iload 4, 2) := by decide +kernel
theorem dX8_sumBelow_16 : decode cX8_sumBelow 16 = .ok (.aload_n 2, 1) := by decide +kernel
theorem dX8_sumBelow_17 : decode cX8_sumBelow 17 = .ok (.arraylength, 1) := by decide +kernel
theorem dX8_sumBelow_18 : decode cX8_sumBelow 18 = .ok (.if_icmp .ge 35, 3) := by decide +kernel
theorem dX8_sumBelow_21 : decode cX8_sumBelow 21 = .ok (.aload_n 0, 1) := by decide +kernel
theorem dX8_sumBelow_22 : decode cX8_sumBelow 22 = .ok (.iload 4, 2) := by decide +kernel
theorem dX8_sumBelow_24 : decode cX8_sumBelow 24 = .ok (.invokevirtual 56, 3) := by decide +kernel
theorem dX8_sumBelow_27 : decode cX8_sumBelow 27 = .ok (.ifCond .eq 20, 3) := by decide +kernel
theorem dX8_sumBelow_30 : decode cX8_sumBelow 30 = .ok (.aload_n 0, 1) := by decide +kernel
theorem dX8_sumBelow_31 : decode cX8_sumBelow 31 = .ok (.iload 4, 2) := by decide +kernel
theorem dX8_sumBelow_33 : decode cX8_sumBelow 33 = .ok (.iload_n 1, 1) := by decide +kernel
theorem dX8_sumBelow_34 : decode cX8_sumBelow 34 = .ok (.invokevirtual 59, 3) := by decide +kernel
theorem dX8_sumBelow_37 : decode cX8_sumBelow 37 = .ok (.ifCond .eq 10, 3) := by decide +kernel
theorem dX8_sumBelow_40 : decode cX8_sumBelow 40 = .ok (.iload_n 3, 1) := by decide +kernel
theorem dX8_sumBelow_41 : decode cX8_sumBelow 41 = .ok (.aload_n 2, 1) := by decide +kernel
theorem dX8_sumBelow_42 : decode cX8_sumBelow 42 = .ok (.iload 4, 2) := by decide +kernel
theorem dX8_sumBelow_44 : decode cX8_sumBelow 44 = .ok (.iaload, 1) := by decide +kernel
theorem dX8_sumBelow_45 : decode cX8_sumBelow 45 = .ok (.iadd, 1) := by decide +kernel
theorem dX8_sumBelow_46 : decode cX8_sumBelow 46 = .ok (.istore_n 3, 1) := by decide +kernel
theorem dX8_sumBelow_47 : decode cX8_sumBelow 47 = .ok (.iinc 4 1, 3) := by decide +kernel
theorem dX8_sumBelow_50 : decode cX8_sumBelow 50 = .ok (.goto (-45), 3) := by decide +kernel
theorem dX8_sumBelow_53 : decode cX8_sumBelow 53 = .ok (.iload_n 3, 1) := by decide +kernel
theorem dX8_sumBelow_54 : decode cX8_sumBelow 54 = .ok (.ireturn, 1) := by decide +kernel
theorem dX8_isUnder_0 : decode cX8_isUnder 0 = .ok (.iload_n 1, 1) := by decide +kernel
theorem dX8_isUnder_1 : decode cX8_isUnder 1 = .ok (.istore_n 3, 1) := by decide +kernel
theorem dX8_isUnder_2 : decode cX8_isUnder 2 = .ok (.iconst 0, 1) := by decide +kernel
theorem dX8_isUnder_3 : decode cX8_isUnder 3 = .ok (.istore 4, 2) := by decide +kernel
theorem dX8_isUnder_5 : decode cX8_isUnder 5 = .ok (.iload 4, 2) := by decide +kernel
theorem dX8_isUnder_7 : decode cX8_isUnder 7 = .ok (.bipush 12, 2) := by decide +kernel
theorem dX8_isUnder_9 : decode cX8_isUnder 9 = .ok (.if_icmp .ge 31, 3) := by decide +kernel
theorem dX8_isUnder_12 : decode cX8_isUnder 12 = .ok (.aload_n 0, 1) := by decide +kernel
theorem dX8_isUnder_13 : decode cX8_isUnder 13 = .ok (.iload_n 3, 1) := by decide +kernel
theorem dX8_isUnder_14 : decode cX8_isUnder 14 = .ok (.invokevirtual 46, 3) := by decide +kernel
theorem dX8_isUnder_17 : decode cX8_isUnder 17 = .ok (.ifCond .eq 23, 3) := by decide +kernel
theorem dX8_isUnder_20 : decode cX8_isUnder 20 = .ok (.iload_n 3, 1) := by decide +kernel
theorem dX8_isUnder_21 : decode cX8_isUnder 21 = .ok (.iload_n 2, 1) := by decide +kernel
theorem dX8_isUnder_22 : decode cX8_isUnder 22 = .ok (.if_icmp .ne 5, 3) := by decide +kernel
theorem dX8_isUnder_25 : decode cX8_isUnder 25 = .ok (.iconst 1, 1) := by decide +kernel
theorem dX8_isUnder_26 : decode cX8_isUnder 26 = .ok (.ireturn, 1) := by decide +kernel
theorem dX8_isUnder_27 : decode cX8_isUnder 27 = .ok (.aload_n 0, 1) := by decide +kernel
theorem dX8_isUnder_28 : decode cX8_isUnder 28 = .ok (.getfield 9, 3) := by decide +kernel
theorem dX8_isUnder_31 : decode cX8_isUnder 31 = .ok (.iload_n 3, 1) := by decide +kernel
theorem dX8_isUnder_32 : decode cX8_isUnder 32 = .ok (.iaload, 1) := by decide +kernel
theorem dX8_isUnder_33 : decode cX8_isUnder 33 = .ok (.istore_n 3, 1) := by decide +kernel
theorem dX8_isUnder_34 : decode cX8_isUnder 34 = .ok (.iinc 4 1, 3) := by decide +kernel
theorem dX8_isUnder_37 : decode cX8_isUnder 37 = .ok (.goto (-32), 3) := by decide +kernel
theorem dX8_isUnder_40 : decode cX8_isUnder 40 = .ok (.iconst 0, 1) := by decide +kernel
theorem dX8_isUnder_41 : decode cX8_isUnder 41 = .ok (.ireturn, 1) := by decide +kernel
theorem dX8_addUse_0 : decode cX8_addUse 0 = .ok (.aload_n 0, 1) := by decide +kernel
theorem dX8_addUse_1 : decode cX8_addUse 1 = .ok (.iload_n 1, 1) := by decide +kernel
theorem dX8_addUse_2 : decode cX8_addUse 2 = .ok (.invokevirtual 46, 3) := by decide +kernel
theorem dX8_addUse_5 : decode cX8_addUse 5 = .ok (.ifCond .eq 15, 3) := by decide +kernel
theorem dX8_addUse_8 : decode cX8_addUse 8 = .ok (.aload_n 0, 1) := by decide +kernel
theorem dX8_addUse_9 : decode cX8_addUse 9 = .ok (.getfield 18, 3) := by decide +kernel
theorem dX8_addUse_12 : decode cX8_addUse 12 = .ok (.iload_n 1, 1) := by decide +kernel
theorem dX8_addUse_13 : decode cX8_addUse 13 = .ok (.dup2, 1) := by decide +kernel
theorem dX8_addUse_14 : decode cX8_addUse 14 = .ok (.iaload, 1) := by decide +kernel
theorem dX8_addUse_15 : decode cX8_addUse 15 = .ok (.sipush 1000, 3) := by decide +kernel
theorem dX8_addUse_18 : decode cX8_addUse 18 = .ok (.iadd, 1) := by decide +kernel
theorem dX8_addUse_19 : decode cX8_addUse 19 = .ok (.iastore, 1) := by decide +kernel
theorem dX8_addUse_20 : decode cX8_addUse 20 = .ok (.return_, 1) := by decide +kernel
theorem dX8_halveUses_0 : decode cX8_halveUses 0 = .ok (.iconst 0, 1) := by decide +kernel
theorem dX8_halveUses_1 : decode cX8_halveUses 1 = .ok (.istore_n 1, 1) := by decide +kernel
theorem dX8_halveUses_2 : decode cX8_halveUses 2 = .ok (.iload_n 1, 1) := by decide +kernel
theorem dX8_halveUses_3 : decode cX8_halveUses 3 = .ok (.aload_n 0, 1) := by decide +kernel
theorem dX8_halveUses_4 : decode cX8_halveUses 4 = .ok (.getfield 27, 3) := by decide +kernel
theorem dX8_halveUses_7 : decode cX8_halveUses 7 = .ok (.if_icmp .ge 19, 3) := by decide +kernel
theorem dX8_halveUses_10 : decode cX8_halveUses 10 = .ok (.aload_n 0, 1) := by decide +kernel
theorem dX8_halveUses_11 : decode cX8_halveUses 11 = .ok (.getfield 18, 3) := by decide +kernel
theorem dX8_halveUses_14 : decode cX8_halveUses 14 = .ok (.iload_n 1, 1) := by decide +kernel
theorem dX8_halveUses_15 : decode cX8_halveUses 15 = .ok (.dup2, 1) := by decide +kernel
theorem dX8_halveUses_16 : decode cX8_halveUses 16 = .ok (.iaload, 1) := by decide +kernel
theorem dX8_halveUses_17 : decode cX8_halveUses 17 = .ok (.iconst 2, 1) := by decide +kernel
theorem dX8_halveUses_18 : decode cX8_halveUses 18 = .ok (.idiv, 1) := by decide +kernel
theorem dX8_halveUses_19 : decode cX8_halveUses 19 = .ok (.iastore, 1) := by decide +kernel
theorem dX8_halveUses_20 : decode cX8_halveUses 20 = .ok (.iinc 1 1, 3) := by decide +kernel
theorem dX8_halveUses_23 : decode cX8_halveUses 23 = .ok (.goto (-21), 3) := by decide +kernel
theorem dX8_halveUses_26 : decode cX8_halveUses 26 = .ok (.return_, 1) := by decide +kernel
theorem dX8_need_0 : decode cX8_need 0 = .ok (.aload_n 0, 1) := by decide +kernel
theorem dX8_need_1 : decode cX8_need 1 = .ok (.iload_n 1, 1) := by decide +kernel
theorem dX8_need_2 : decode cX8_need 2 = .ok (.invokevirtual 46, 3) := by decide +kernel
theorem dX8_need_5 : decode cX8_need 5 = .ok (.ifCond .ne 5, 3) := by decide +kernel
theorem dX8_need_8 : decode cX8_need 8 = .ok (.iconst 0, 1) := by decide +kernel
theorem dX8_need_9 : decode cX8_need 9 = .ok (.ireturn, 1) := by decide +kernel
theorem dX8_need_10 : decode cX8_need 10 = .ok (.iload_n 2, 1) := by decide +kernel
theorem dX8_need_11 : decode cX8_need 11 = .ok (.ifCond .le 20, 3) := by decide +kernel
theorem dX8_need_14 : decode cX8_need 14 = .ok (.ldc2_w 63, 3) := by decide +kernel
theorem dX8_need_17 : decode cX8_need 17 = .ok (.aload_n 0, 1) := by decide +kernel
theorem dX8_need_18 : decode cX8_need 18 = .ok (.getfield 18, 3) := by decide +kernel
theorem dX8_need_21 : decode cX8_need 21 = .ok (.iload_n 1, 1) := by decide +kernel
theorem dX8_need_22 : decode cX8_need 22 = .ok (.iaload, 1) := by decide +kernel
theorem dX8_need_23 : decode cX8_need 23 = .ok (.i2l, 1) := by decide +kernel
theorem dX8_need_24 : decode cX8_need 24 = .ok (.lmul, 1) := by decide +kernel
theorem dX8_need_25 : decode cX8_need 25 = .ok (.iload_n 2, 1) := by decide +kernel
theorem dX8_need_26 : decode cX8_need 26 = .ok (.i2l, 1) := by decide +kernel
theorem dX8_need_27 : decode cX8_need 27 = .ok (.ldiv, 1) := by decide +kernel
theorem dX8_need_28 : decode cX8_need 28 = .ok (.goto 4, 3) := by decide +kernel
theorem dX8_need_31 : decode cX8_need 31 = .ok (.lconst 0, 1) := by decide +kernel
theorem dX8_need_32 : decode cX8_need 32 = .ok (.lstore_n 3, 1) := by decide +kernel
theorem dX8_need_33 : decode cX8_need 33 = .ok (.aload_n 0, 1) := by decide +kernel
theorem dX8_need_34 : decode cX8_need 34 = .ok (.getfield 21, 3) := by decide +kernel
theorem dX8_need_37 : decode cX8_need 37 = .ok (.iload_n 1, 1) := by decide +kernel
theorem dX8_need_38 : decode cX8_need 38 = .ok (.iaload, 1) := by decide +kernel
theorem dX8_need_39 : decode cX8_need 39 = .ok (.lload_n 3, 1) := by decide +kernel
theorem dX8_need_40 : decode cX8_need 40 = .ok (.l2i, 1) := by decide +kernel
theorem dX8_need_41 : decode cX8_need 41 = .ok (.isub, 1) := by decide +kernel
theorem dX8_need_42 : decode cX8_need 42 = .ok (.ireturn, 1) := by decide +kernel
theorem dX9_init_0 : decode cX9_init 0 = .ok (.aload_n 0, 1) := by decide +kernel
theorem dX9_init_1 : decode cX9_init 1 = .ok (.invokespecial 1, 3) := by decide +kernel
theorem dX9_init_4 : decode cX9_init 4 = .ok (.aload_n 0, 1) := by decide +kernel
theorem dX9_init_5 : decode cX9_init 5 = .ok (.new 7, 3) := by decide +kernel
theorem dX9_init_8 : decode cX9_init 8 = .ok (.dup, 1) := by decide +kernel
theorem dX9_init_9 : decode cX9_init 9 = .ok (.invokespecial 9, 3) := by decide +kernel
theorem dX9_init_12 : decode cX9_init 12 = .ok (.putfield 10, 3) := by decide +kernel
theorem dX9_init_15 : decode cX9_init 15 = .ok (.aload_n 0, 1) := by decide +kernel
theorem dX9_init_16 : decode cX9_init 16 = .ok (.new 7, 3) := by decide +kernel
theorem dX9_init_19 : decode cX9_init 19 = .ok (.dup, 1) := by decide +kernel
theorem dX9_init_20 : decode cX9_init 20 = .ok (.invokespecial 9, 3) := by decide +kernel
theorem dX9_init_23 : decode cX9_init 23 = .ok (.putfield 16, 3) := by decide +kernel
theorem dX9_init_26 : decode cX9_init 26 = .ok (.aload_n 0, 1) := by decide +kernel
theorem dX9_init_27 : decode cX9_init 27 = .ok (.new 19, 3) := by decide +kernel
theorem dX9_init_30 : decode cX9_init 30 = .ok (.dup, 1) := by decide +kernel
theorem dX9_init_31 : decode cX9_init 31 = .ok (.invokespecial 21, 3) := by decide +kernel
theorem dX9_init_34 : decode cX9_init 34 = .ok (.putfield 22, 3) := by decide +kernel
theorem dX9_init_37 : decode cX9_init 37 = .ok (.aload_n 0, 1) := by decide +kernel
theorem dX9_init_38 : decode cX9_init 38 = .ok (.new 26, 3) := by decide +kernel
theorem dX9_init_41 : decode cX9_init 41 = .ok (.dup, 1) := by decide +kernel
theorem dX9_init_42 : decode cX9_init 42 = .ok (.invokespecial 28, 3) := by decide +kernel
theorem dX9_init_45 : decode cX9_init 45 = .ok (.putfield 29, 3) := by decide +kernel
theorem dX9_init_48 : decode cX9_init 48 = .ok (.aload_n 0, 1) := by decide +kernel
theorem dX9_init_49 : decode cX9_init 49 = .ok (.new 33, 3) := by decide +kernel
theorem dX9_init_52 : decode cX9_init 52 = .ok (.dup, 1) := by decide +kernel
theorem dX9_init_53 : decode cX9_init 53 = .ok (.invokespecial 35, 3) := by decide +kernel
theorem dX9_init_56 : decode cX9_init 56 = .ok (.putfield 36, 3) := by decide +kernel
theorem dX9_init_59 : decode cX9_init 59 = .ok (.return_, 1) := by decide +kernel
theorem dX9_append_0 : decode cX9_append 0 = .ok (.aload_n 0, 1) := by decide +kernel
theorem dX9_append_1 : decode cX9_append 1 = .ok (.getfield 29, 3) := by decide +kernel
theorem dX9_append_4 : decode cX9_append 4 = .ok (.getfield 40, 3) := by decide +kernel
theorem dX9_append_7 : decode cX9_append 7 = .ok (.sipush 580, 3) := by decide +kernel
theorem dX9_append_10 : decode cX9_append 10 = .ok (.if_icmp .le 13, 3) := by decide +kernel
theorem dX9_append_13 : decode cX9_append 13 = .ok (.new 44, 3) := by decide +kernel
theorem dX9_append_16 : decode cX9_append 16 = .ok (.dup, 1) := by decide +kernel
theorem dX9_append_17 : decode cX9_append 17 = .ok (.ldc 46, 2) := by decide +kernel
theorem dX9_append_19 : decode cX9_append 19 = .ok (.invokespecial 48, 3) := by decide +kernel
theorem dX9_append_22 : decode cX9_append 22 = .ok (.athrow, 1) := by decide +kernel
theorem dX9_append_23 : decode cX9_append 23 = .ok (.aload_n 0, 1) := by decide +kernel
theorem dX9_append_24 : decode cX9_append 24 = .ok (.getfield 29, 3) := by decide +kernel
theorem dX9_append_27 : decode cX9_append 27 = .ok (.iload_n 1, 1) := by decide +kernel
theorem dX9_append_28 : decode cX9_append 28 = .ok (.invokevirtual 51, 3) := by decide +kernel
theorem dX9_append_31 : decode cX9_append 31 = .ok (.aload_n 0, 1) := by decide +kernel
theorem dX9_append_32 : decode cX9_append 32 = .ok (.getfield 29, 3) := by decide +kernel
theorem dX9_append_35 : decode cX9_append 35 = .ok (.iload_n 2, 1) := by decide +kernel
theorem dX9_append_36 : decode cX9_append 36 = .ok (.invokevirtual 51, 3) := by decide +kernel
theorem dX9_append_39 : decode cX9_append 39 = .ok (.aload_n 0, 1) := by decide +kernel
theorem dX9_append_40 : decode cX9_append 40 = .ok (.getfield 29, 3) := by decide +kernel
theorem dX9_append_43 : decode cX9_append 43 = .ok (.iload_n 3, 1) := by decide +kernel
theorem dX9_append_44 : decode cX9_append 44 = .ok (.invokevirtual 51, 3) := by decide +kernel
theorem dX9_append_47 : decode cX9_append 47 = .ok (.aload_n 0, 1) := by decide +kernel
theorem dX9_append_48 : decode cX9_append 48 = .ok (.getfield 29, 3) := by decide +kernel
theorem dX9_append_51 : decode cX9_append 51 = .ok (.iload 4, 2) := by decide +kernel
theorem dX9_append_53 : decode cX9_append 53 = .ok (.invokevirtual 51, 3) := by decide +kernel
theorem dX9_append_56 : decode cX9_append 56 = .ok (.aload_n 0, 1) := by decide +kernel
theorem dX9_append_57 : decode cX9_append 57 = .ok (.getfield 29, 3) := by decide +kernel
theorem dX9_append_60 : decode cX9_append 60 = .ok (.iload 5, 2) := by decide +kernel
theorem dX9_append_62 : decode cX9_append 62 = .ok (.invokevirtual 51, 3) := by decide +kernel
theorem dX9_append_65 : decode cX9_append 65 = .ok (.aload_n 0, 1) := by decide +kernel
theorem dX9_append_66 : decode cX9_append 66 = .ok (.getfield 29, 3) := by decide +kernel
theorem dX9_append_69 : decode cX9_append 69 = .ok (.getfield 40, 3) := by decide +kernel
theorem dX9_append_72 : decode cX9_append 72 = .ok (.ireturn, 1) := by decide +kernel
theorem dX9_load_0 : decode cX9_load 0 = .ok (.iload_n 1, 1) := by decide +kernel
theorem dX9_load_1 : decode cX9_load 1 = .ok (.ifCond .lt 14, 3) := by decide +kernel
theorem dX9_load_4 : decode cX9_load 4 = .ok (.iload_n 1, 1) := by decide +kernel
theorem dX9_load_5 : decode cX9_load 5 = .ok (.aload_n 0, 1) := by decide +kernel
theorem dX9_load_6 : decode cX9_load 6 = .ok (.getfield 29, 3) := by decide +kernel
theorem dX9_load_9 : decode cX9_load 9 = .ok (.getfield 40, 3) := by decide +kernel
theorem dX9_load_12 : decode cX9_load 12 = .ok (.if_icmp .le 13, 3) := by decide +kernel
theorem dX9_load_15 : decode cX9_load 15 = .ok (.new 55, 3) := by decide +kernel
theorem dX9_load_18 : decode cX9_load 18 = .ok (.dup, 1) := by decide +kernel
theorem dX9_load_19 : decode cX9_load 19 = .ok (.ldc 57, 2) := by decide +kernel
theorem dX9_load_21 : decode cX9_load 21 = .ok (.invokespecial 59, 3) := by decide +kernel
theorem dX9_load_24 : decode cX9_load 24 = .ok (.athrow, 1) := by decide +kernel
theorem dX9_load_25 : decode cX9_load 25 = .ok (.aload_n 0, 1) := by decide +kernel
theorem dX9_load_26 : decode cX9_load 26 = .ok (.getfield 29, 3) := by decide +kernel
theorem dX9_load_29 : decode cX9_load 29 = .ok (.iload_n 1, 1) := by decide +kernel
theorem dX9_load_30 : decode cX9_load 30 = .ok (.aload_n 0, 1) := by decide +kernel
theorem dX9_load_31 : decode cX9_load 31 = .ok (.getfield 16, 3) := by decide +kernel
theorem dX9_load_34 : decode cX9_load 34 = .ok (.invokevirtual 60, 3) := by decide +kernel
theorem dX9_load_37 : decode cX9_load 37 = .ok (.aload_n 0, 1) := by decide +kernel
theorem dX9_load_38 : decode cX9_load 38 = .ok (.getfield 29, 3) := by decide +kernel
theorem dX9_load_41 : decode cX9_load 41 = .ok (.getfield 64, 3) := by decide +kernel
theorem dX9_load_44 : decode cX9_load 44 = .ok (.ifCond .eq 11, 3) := by decide +kernel
theorem dX9_load_47 : decode cX9_load 47 = .ok (.aload_n 0, 1) := by decide +kernel
theorem dX9_load_48 : decode cX9_load 48 = .ok (.getfield 29, 3) := by decide +kernel
theorem dX9_load_51 : decode cX9_load 51 = .ok (.getfield 64, 3) := by decide +kernel
theorem dX9_load_54 : decode cX9_load 54 = .ok (.ireturn, 1) := by decide +kernel
theorem dX9_load_55 : decode cX9_load 55 = .ok (.aload_n 0, 1) := by decide +kernel
theorem dX9_load_56 : decode cX9_load 56 = .ok (.getfield 22, 3) := by decide +kernel
theorem dX9_load_59 : decode cX9_load 59 = .ok (.aload_n 0, 1) := by decide +kernel
theorem dX9_load_60 : decode cX9_load 60 = .ok (.getfield 10, 3) := by decide +kernel
theorem dX9_load_63 : decode cX9_load 63 = .ok (.invokevirtual 67, 3) := by decide +kernel
theorem dX9_load_66 : decode cX9_load 66 = .ok (.aload_n 0, 1) := by decide +kernel
theorem dX9_load_67 : decode cX9_load 67 = .ok (.getfield 10, 3) := by decide +kernel
theorem dX9_load_70 : decode cX9_load 70 = .ok (.aload_n 0, 1) := by decide +kernel
theorem dX9_load_71 : decode cX9_load 71 = .ok (.getfield 16, 3) := by decide +kernel
theorem dX9_load_74 : decode cX9_load 74 = .ok (.invokevirtual 71, 3) := by decide +kernel
theorem dX9_load_77 : decode cX9_load 77 = .ok (.aload_n 0, 1) := by decide +kernel
theorem dX9_load_78 : decode cX9_load 78 = .ok (.getfield 10, 3) := by decide +kernel
theorem dX9_load_81 : decode cX9_load 81 = .ok (.invokevirtual 74, 3) := by decide +kernel
theorem dX9_load_84 : decode cX9_load 84 = .ok (.aload_n 0, 1) := by decide +kernel
theorem dX9_load_85 : decode cX9_load 85 = .ok (.getfield 10, 3) := by decide +kernel
theorem dX9_load_88 : decode cX9_load 88 = .ok (.getfield 77, 3) := by decide +kernel
theorem dX9_load_91 : decode cX9_load 91 = .ok (.getfield 81, 3) := by decide +kernel
theorem dX9_load_94 : decode cX9_load 94 = .ok (.ireturn, 1) := by decide +kernel
theorem dX9_errorPosition_0 : decode cX9_errorPosition 0 = .ok (.aload_n 0, 1) := by decide +kernel
theorem dX9_errorPosition_1 : decode cX9_errorPosition 1 = .ok (.getfield 29, 3) := by decide +kernel
theorem dX9_errorPosition_4 : decode cX9_errorPosition 4 = .ok (.getfield 86, 3) := by decide +kernel
theorem dX9_errorPosition_7 : decode cX9_errorPosition 7 = .ok (.ireturn, 1) := by decide +kernel
theorem dX9_count_0 : decode cX9_count 0 = .ok (.iload_n 1, 1) := by decide +kernel
theorem dX9_count_1 : decode cX9_count 1 = .ok (.tableswitch 197 0 12 #[67, 78, 89, 100, 111, 119, 129, 139, 149, 161, 173, 181, 189], 67) := by decide +kernel
theorem dX9_count_68 : decode cX9_count 68 = .ok (.aload_n 0, 1) := by decide +kernel
theorem dX9_count_69 : decode cX9_count 69 = .ok (.getfield 10, 3) := by decide +kernel
theorem dX9_count_72 : decode cX9_count 72 = .ok (.getfield 77, 3) := by decide +kernel
theorem dX9_count_75 : decode cX9_count 75 = .ok (.getfield 81, 3) := by decide +kernel
theorem dX9_count_78 : decode cX9_count 78 = .ok (.ireturn, 1) := by decide +kernel
theorem dX9_count_79 : decode cX9_count 79 = .ok (.aload_n 0, 1) := by decide +kernel
theorem dX9_count_80 : decode cX9_count 80 = .ok (.getfield 10, 3) := by decide +kernel
theorem dX9_count_83 : decode cX9_count 83 = .ok (.getfield 89, 3) := by decide +kernel
theorem dX9_count_86 : decode cX9_count 86 = .ok (.getfield 93, 3) := by decide +kernel
theorem dX9_count_89 : decode cX9_count 89 = .ok (.ireturn, 1) := by decide +kernel
theorem dX9_count_90 : decode cX9_count 90 = .ok (.aload_n 0, 1) := by decide +kernel
theorem dX9_count_91 : decode cX9_count 91 = .ok (.getfield 10, 3) := by decide +kernel
theorem dX9_count_94 : decode cX9_count 94 = .ok (.getfield 96, 3) := by decide +kernel
theorem dX9_count_97 : decode cX9_count 97 = .ok (.getfield 100, 3) := by decide +kernel
theorem dX9_count_100 : decode cX9_count 100 = .ok (.ireturn, 1) := by decide +kernel
theorem dX9_count_101 : decode cX9_count 101 = .ok (.aload_n 0, 1) := by decide +kernel
theorem dX9_count_102 : decode cX9_count 102 = .ok (.getfield 10, 3) := by decide +kernel
theorem dX9_count_105 : decode cX9_count 105 = .ok (.getfield 103, 3) := by decide +kernel
theorem dX9_count_108 : decode cX9_count 108 = .ok (.getfield 107, 3) := by decide +kernel
theorem dX9_count_111 : decode cX9_count 111 = .ok (.ireturn, 1) := by decide +kernel
theorem dX9_count_112 : decode cX9_count 112 = .ok (.aload_n 0, 1) := by decide +kernel
theorem dX9_count_113 : decode cX9_count 113 = .ok (.getfield 10, 3) := by decide +kernel
theorem dX9_count_116 : decode cX9_count 116 = .ok (.getfield 110, 3) := by decide +kernel
theorem dX9_count_119 : decode cX9_count 119 = .ok (.ireturn, 1) := by decide +kernel
theorem dX9_count_120 : decode cX9_count 120 = .ok (.aload_n 0, 1) := by decide +kernel
theorem dX9_count_121 : decode cX9_count 121 = .ok (.getfield 10, 3) := by decide +kernel
theorem dX9_count_124 : decode cX9_count 124 = .ok (.getfield 113, 3) := by decide +kernel
theorem dX9_count_127 : decode cX9_count 127 = .ok (.iconst 0, 1) := by decide +kernel
theorem dX9_count_128 : decode cX9_count 128 = .ok (.iaload, 1) := by decide +kernel
theorem dX9_count_129 : decode cX9_count 129 = .ok (.ireturn, 1) := by decide +kernel
theorem dX9_count_130 : decode cX9_count 130 = .ok (.aload_n 0, 1) := by decide +kernel
theorem dX9_count_131 : decode cX9_count 131 = .ok (.getfield 10, 3) := by decide +kernel
theorem dX9_count_134 : decode cX9_count 134 = .ok (.getfield 113, 3) := by decide +kernel
theorem dX9_count_137 : decode cX9_count 137 = .ok (.iconst 1, 1) := by decide +kernel
theorem dX9_count_138 : decode cX9_count 138 = .ok (.iaload, 1) := by decide +kernel
theorem dX9_count_139 : decode cX9_count 139 = .ok (.ireturn, 1) := by decide +kernel
theorem dX9_count_140 : decode cX9_count 140 = .ok (.aload_n 0, 1) := by decide +kernel
theorem dX9_count_141 : decode cX9_count 141 = .ok (.getfield 10, 3) := by decide +kernel
theorem dX9_count_144 : decode cX9_count 144 = .ok (.getfield 113, 3) := by decide +kernel
theorem dX9_count_147 : decode cX9_count 147 = .ok (.iconst 2, 1) := by decide +kernel
theorem dX9_count_148 : decode cX9_count 148 = .ok (.iaload, 1) := by decide +kernel
theorem dX9_count_149 : decode cX9_count 149 = .ok (.ireturn, 1) := by decide +kernel
theorem dX9_count_150 : decode cX9_count 150 = .ok (.aload_n 0, 1) := by decide +kernel
theorem dX9_count_151 : decode cX9_count 151 = .ok (.getfield 10, 3) := by decide +kernel
theorem dX9_count_154 : decode cX9_count 154 = .ok (.getfield 96, 3) := by decide +kernel
theorem dX9_count_157 : decode cX9_count 157 = .ok (.iconst 0, 1) := by decide +kernel
theorem dX9_count_158 : decode cX9_count 158 = .ok (.invokevirtual 117, 3) := by decide +kernel
theorem dX9_count_161 : decode cX9_count 161 = .ok (.ireturn, 1) := by decide +kernel
theorem dX9_count_162 : decode cX9_count 162 = .ok (.aload_n 0, 1) := by decide +kernel
theorem dX9_count_163 : decode cX9_count 163 = .ok (.getfield 10, 3) := by decide +kernel
theorem dX9_count_166 : decode cX9_count 166 = .ok (.getfield 96, 3) := by decide +kernel
theorem dX9_count_169 : decode cX9_count 169 = .ok (.iconst 1, 1) := by decide +kernel
theorem dX9_count_170 : decode cX9_count 170 = .ok (.invokevirtual 117, 3) := by decide +kernel
theorem dX9_count_173 : decode cX9_count 173 = .ok (.ireturn, 1) := by decide +kernel
theorem dX9_count_174 : decode cX9_count 174 = .ok (.aload_n 0, 1) := by decide +kernel
theorem dX9_count_175 : decode cX9_count 175 = .ok (.getfield 10, 3) := by decide +kernel
theorem dX9_count_178 : decode cX9_count 178 = .ok (.invokevirtual 121, 3) := by decide +kernel
theorem dX9_count_181 : decode cX9_count 181 = .ok (.ireturn, 1) := by decide +kernel
theorem dX9_count_182 : decode cX9_count 182 = .ok (.aload_n 0, 1) := by decide +kernel
theorem dX9_count_183 : decode cX9_count 183 = .ok (.getfield 10, 3) := by decide +kernel
theorem dX9_count_186 : decode cX9_count 186 = .ok (.getfield 125, 3) := by decide +kernel
theorem dX9_count_189 : decode cX9_count 189 = .ok (.ireturn, 1) := by decide +kernel
theorem dX9_count_190 : decode cX9_count 190 = .ok (.aload_n 0, 1) := by decide +kernel
theorem dX9_count_191 : decode cX9_count 191 = .ok (.getfield 10, 3) := by decide +kernel
theorem dX9_count_194 : decode cX9_count 194 = .ok (.getfield 128, 3) := by decide +kernel
theorem dX9_count_197 : decode cX9_count 197 = .ok (.ireturn, 1) := by decide +kernel
theorem dX9_count_198 : decode cX9_count 198 = .ok (.new 55, 3) := by decide +kernel
theorem dX9_count_201 : decode cX9_count 201 = .ok (.dup, 1) := by decide +kernel
theorem dX9_count_202 : decode cX9_count 202 = .ok (.ldc 131, 2) := by decide +kernel
theorem dX9_count_204 : decode cX9_count 204 = .ok (.invokespecial 59, 3) := by decide +kernel
theorem dX9_count_207 : decode cX9_count 207 = .ok (.athrow, 1) := by decide +kernel
theorem dX9_user_0 : decode cX9_user 0 = .ok (.aload_n 0, 1) := by decide +kernel
theorem dX9_user_1 : decode cX9_user 1 = .ok (.iload_n 1, 1) := by decide +kernel
theorem dX9_user_2 : decode cX9_user 2 = .ok (.invokevirtual 133, 3) := by decide +kernel
theorem dX9_user_5 : decode cX9_user 5 = .ok (.aload_n 0, 1) := by decide +kernel
theorem dX9_user_6 : decode cX9_user 6 = .ok (.getfield 10, 3) := by decide +kernel
theorem dX9_user_9 : decode cX9_user 9 = .ok (.getfield 77, 3) := by decide +kernel
theorem dX9_user_12 : decode cX9_user 12 = .ok (.astore_n 3, 1) := by decide +kernel
theorem dX9_user_13 : decode cX9_user 13 = .ok (.aload_n 0, 1) := by decide +kernel
theorem dX9_user_14 : decode cX9_user 14 = .ok (.getfield 10, 3) := by decide +kernel
theorem dX9_user_17 : decode cX9_user 17 = .ok (.getfield 136, 3) := by decide +kernel
theorem dX9_user_20 : decode cX9_user 20 = .ok (.aload_n 0, 1) := by decide +kernel
theorem dX9_user_21 : decode cX9_user 21 = .ok (.getfield 10, 3) := by decide +kernel
theorem dX9_user_24 : decode cX9_user 24 = .ok (.invokevirtual 140, 3) := by decide +kernel
theorem dX9_user_27 : decode cX9_user 27 = .ok (.iload_n 2, 1) := by decide +kernel
theorem dX9_user_28 : decode cX9_user 28 = .ok (.tableswitch 130 0 7 #[48, 55, 62, 68, 75, 88, 98, 114], 48) := by decide +kernel
theorem dX9_user_76 : decode cX9_user 76 = .ok (.aload_n 3, 1) := by decide +kernel
theorem dX9_user_77 : decode cX9_user 77 = .ok (.getfield 145, 3) := by decide +kernel
theorem dX9_user_80 : decode cX9_user 80 = .ok (.iload_n 1, 1) := by decide +kernel
theorem dX9_user_81 : decode cX9_user 81 = .ok (.iaload, 1) := by decide +kernel
theorem dX9_user_82 : decode cX9_user 82 = .ok (.ireturn, 1) := by decide +kernel
theorem dX9_user_83 : decode cX9_user 83 = .ok (.aload_n 3, 1) := by decide +kernel
theorem dX9_user_84 : decode cX9_user 84 = .ok (.getfield 148, 3) := by decide +kernel
theorem dX9_user_87 : decode cX9_user 87 = .ok (.iload_n 1, 1) := by decide +kernel
theorem dX9_user_88 : decode cX9_user 88 = .ok (.iaload, 1) := by decide +kernel
theorem dX9_user_89 : decode cX9_user 89 = .ok (.ireturn, 1) := by decide +kernel
theorem dX9_user_90 : decode cX9_user 90 = .ok (.aload_n 3, 1) := by decide +kernel
theorem dX9_user_91 : decode cX9_user 91 = .ok (.iload_n 1, 1) := by decide +kernel
theorem dX9_user_92 : decode cX9_user 92 = .ok (.invokevirtual 151, 3) := by decide +kernel
theorem dX9_user_95 : decode cX9_user 95 = .ok (.ireturn, 1) := by decide +kernel
theorem dX9_user_96 : decode cX9_user 96 = .ok (.aload_n 3, 1) := by decide +kernel
theorem dX9_user_97 : decode cX9_user 97 = .ok (.getfield 154, 3) := by decide +kernel
theorem dX9_user_100 : decode cX9_user 100 = .ok (.iload_n 1, 1) := by decide +kernel
theorem dX9_user_101 : decode cX9_user 101 = .ok (.iaload, 1) := by decide +kernel
theorem dX9_user_102 : decode cX9_user 102 = .ok (.ireturn, 1) := by decide +kernel
theorem dX9_user_103 : decode cX9_user 103 = .ok (.aload_n 0, 1) := by decide +kernel
theorem dX9_user_104 : decode cX9_user 104 = .ok (.getfield 10, 3) := by decide +kernel
theorem dX9_user_107 : decode cX9_user 107 = .ok (.getfield 136, 3) := by decide +kernel
theorem dX9_user_110 : decode cX9_user 110 = .ok (.getfield 157, 3) := by decide +kernel
theorem dX9_user_113 : decode cX9_user 113 = .ok (.iload_n 1, 1) := by decide +kernel
theorem dX9_user_114 : decode cX9_user 114 = .ok (.iaload, 1) := by decide +kernel
theorem dX9_user_115 : decode cX9_user 115 = .ok (.ireturn, 1) := by decide +kernel
theorem dX9_user_116 : decode cX9_user 116 = .ok (.aload_n 3, 1) := by decide +kernel
theorem dX9_user_117 : decode cX9_user 117 = .ok (.iload_n 1, 1) := by decide +kernel
theorem dX9_user_118 : decode cX9_user 118 = .ok (.aload_n 3, 1) := by decide +kernel
theorem dX9_user_119 : decode cX9_user 119 = .ok (.getfield 160, 3) := by decide +kernel
theorem dX9_user_122 : decode cX9_user 122 = .ok (.invokevirtual 163, 3) := by decide +kernel
theorem dX9_user_125 : decode cX9_user 125 = .ok (.ireturn, 1) := by decide +kernel
theorem dX9_user_126 : decode cX9_user 126 = .ok (.aload_n 3, 1) := by decide +kernel
theorem dX9_user_127 : decode cX9_user 127 = .ok (.iload_n 1, 1) := by decide +kernel
theorem dX9_user_128 : decode cX9_user 128 = .ok (.aload_n 0, 1) := by decide +kernel
theorem dX9_user_129 : decode cX9_user 129 = .ok (.getfield 10, 3) := by decide +kernel
theorem dX9_user_132 : decode cX9_user 132 = .ok (.getfield 136, 3) := by decide +kernel
theorem dX9_user_135 : decode cX9_user 135 = .ok (.getfield 167, 3) := by decide +kernel
theorem dX9_user_138 : decode cX9_user 138 = .ok (.invokevirtual 163, 3) := by decide +kernel
theorem dX9_user_141 : decode cX9_user 141 = .ok (.ireturn, 1) := by decide +kernel
theorem dX9_user_142 : decode cX9_user 142 = .ok (.aload_n 3, 1) := by decide +kernel
theorem dX9_user_143 : decode cX9_user 143 = .ok (.iload_n 1, 1) := by decide +kernel
theorem dX9_user_144 : decode cX9_user 144 = .ok (.aload_n 0, 1) := by decide +kernel
theorem dX9_user_145 : decode cX9_user 145 = .ok (.getfield 10, 3) := by decide +kernel
theorem dX9_user_148 : decode cX9_user 148 = .ok (.getfield 136, 3) := by decide +kernel
theorem dX9_user_151 : decode cX9_user 151 = .ok (.getfield 170, 3) := by decide +kernel
theorem dX9_user_154 : decode cX9_user 154 = .ok (.invokevirtual 163, 3) := by decide +kernel
theorem dX9_user_157 : decode cX9_user 157 = .ok (.ireturn, 1) := by decide +kernel
theorem dX9_user_158 : decode cX9_user 158 = .ok (.new 55, 3) := by decide +kernel
theorem dX9_user_161 : decode cX9_user 161 = .ok (.dup, 1) := by decide +kernel
theorem dX9_user_162 : decode cX9_user 162 = .ok (.ldc 173, 2) := by decide +kernel
theorem dX9_user_164 : decode cX9_user 164 = .ok (.invokespecial 59, 3) := by decide +kernel
theorem dX9_user_167 : decode cX9_user 167 = .ok (.athrow, 1) := by decide +kernel
theorem dX9_addUser_0 : decode cX9_addUser 0 = .ok (.aload_n 0, 1) := by decide +kernel
theorem dX9_addUser_1 : decode cX9_addUser 1 = .ok (.iload_n 1, 1) := by decide +kernel
theorem dX9_addUser_2 : decode cX9_addUser 2 = .ok (.invokevirtual 133, 3) := by decide +kernel
theorem dX9_addUser_5 : decode cX9_addUser 5 = .ok (.iload_n 2, 1) := by decide +kernel
theorem dX9_addUser_6 : decode cX9_addUser 6 = .ok (.iconst 1, 1) := by decide +kernel
theorem dX9_addUser_7 : decode cX9_addUser 7 = .ok (.bipush 99, 2) := by decide +kernel
theorem dX9_addUser_9 : decode cX9_addUser 9 = .ok (.invokestatic 175, 3) := by decide +kernel
theorem dX9_addUser_12 : decode cX9_addUser 12 = .ok (.aload_n 0, 1) := by decide +kernel
theorem dX9_addUser_13 : decode cX9_addUser 13 = .ok (.getfield 10, 3) := by decide +kernel
theorem dX9_addUser_16 : decode cX9_addUser 16 = .ok (.getfield 77, 3) := by decide +kernel
theorem dX9_addUser_19 : decode cX9_addUser 19 = .ok (.invokevirtual 179, 3) := by decide +kernel
theorem dX9_addUser_22 : decode cX9_addUser 22 = .ok (.ifCond .ne 31, 3) := by decide +kernel
theorem dX9_addUser_25 : decode cX9_addUser 25 = .ok (.aload_n 0, 1) := by decide +kernel
theorem dX9_addUser_26 : decode cX9_addUser 26 = .ok (.getfield 10, 3) := by decide +kernel
theorem dX9_addUser_29 : decode cX9_addUser 29 = .ok (.getfield 96, 3) := by decide +kernel
theorem dX9_addUser_32 : decode cX9_addUser 32 = .ok (.iload_n 1, 1) := by decide +kernel
theorem dX9_addUser_33 : decode cX9_addUser 33 = .ok (.invokevirtual 183, 3) := by decide +kernel
theorem dX9_addUser_36 : decode cX9_addUser 36 = .ok (.ifCond .ne 17, 3) := by decide +kernel
theorem dX9_addUser_39 : decode cX9_addUser 39 = .ok (.aload_n 0, 1) := by decide +kernel
theorem dX9_addUser_40 : decode cX9_addUser 40 = .ok (.getfield 10, 3) := by decide +kernel
theorem dX9_addUser_43 : decode cX9_addUser 43 = .ok (.getfield 103, 3) := by decide +kernel
theorem dX9_addUser_46 : decode cX9_addUser 46 = .ok (.iload_n 1, 1) := by decide +kernel
theorem dX9_addUser_47 : decode cX9_addUser 47 = .ok (.invokevirtual 187, 3) := by decide +kernel
theorem dX9_addUser_50 : decode cX9_addUser 50 = .ok (.ifCond .eq 13, 3) := by decide +kernel
theorem dX9_addUser_53 : decode cX9_addUser 53 = .ok (.new 44, 3) := by decide +kernel
theorem dX9_addUser_56 : decode cX9_addUser 56 = .ok (.dup, 1) := by decide +kernel
theorem dX9_addUser_57 : decode cX9_addUser 57 = .ok (.ldc 188, 2) := by decide +kernel
theorem dX9_addUser_59 : decode cX9_addUser 59 = .ok (.invokespecial 48, 3) := by decide +kernel
theorem dX9_addUser_62 : decode cX9_addUser 62 = .ok (.athrow, 1) := by decide +kernel
theorem dX9_addUser_63 : decode cX9_addUser 63 = .ok (.aload_n 0, 1) := by decide +kernel
theorem dX9_addUser_64 : decode cX9_addUser 64 = .ok (.getfield 22, 3) := by decide +kernel
theorem dX9_addUser_67 : decode cX9_addUser 67 = .ok (.aload_n 0, 1) := by decide +kernel
theorem dX9_addUser_68 : decode cX9_addUser 68 = .ok (.getfield 10, 3) := by decide +kernel
theorem dX9_addUser_71 : decode cX9_addUser 71 = .ok (.invokevirtual 67, 3) := by decide +kernel
theorem dX9_addUser_74 : decode cX9_addUser 74 = .ok (.aload_n 0, 1) := by decide +kernel
theorem dX9_addUser_75 : decode cX9_addUser 75 = .ok (.getfield 10, 3) := by decide +kernel
theorem dX9_addUser_78 : decode cX9_addUser 78 = .ok (.getfield 77, 3) := by decide +kernel
theorem dX9_addUser_81 : decode cX9_addUser 81 = .ok (.iload_n 1, 1) := by decide +kernel
theorem dX9_addUser_82 : decode cX9_addUser 82 = .ok (.iload_n 2, 1) := by decide +kernel
theorem dX9_addUser_83 : decode cX9_addUser 83 = .ok (.invokevirtual 190, 3) := by decide +kernel
theorem dX9_addUser_86 : decode cX9_addUser 86 = .ok (.aload_n 0, 1) := by decide +kernel
theorem dX9_addUser_87 : decode cX9_addUser 87 = .ok (.getfield 10, 3) := by decide +kernel
theorem dX9_addUser_90 : decode cX9_addUser 90 = .ok (.getfield 77, 3) := by decide +kernel
theorem dX9_addUser_93 : decode cX9_addUser 93 = .ok (.getfield 81, 3) := by decide +kernel
theorem dX9_addUser_96 : decode cX9_addUser 96 = .ok (.iconst 1, 1) := by decide +kernel
theorem dX9_addUser_97 : decode cX9_addUser 97 = .ok (.isub, 1) := by decide +kernel
theorem dX9_addUser_98 : decode cX9_addUser 98 = .ok (.ireturn, 1) := by decide +kernel
theorem dX9_setShares_0 : decode cX9_setShares 0 = .ok (.aload_n 0, 1) := by decide +kernel
theorem dX9_setShares_1 : decode cX9_setShares 1 = .ok (.iload_n 1, 1) := by decide +kernel
theorem dX9_setShares_2 : decode cX9_setShares 2 = .ok (.invokevirtual 133, 3) := by decide +kernel
theorem dX9_setShares_5 : decode cX9_setShares 5 = .ok (.iload_n 2, 1) := by decide +kernel
theorem dX9_setShares_6 : decode cX9_setShares 6 = .ok (.iconst 1, 1) := by decide +kernel
theorem dX9_setShares_7 : decode cX9_setShares 7 = .ok (.bipush 99, 2) := by decide +kernel
theorem dX9_setShares_9 : decode cX9_setShares 9 = .ok (.invokestatic 175, 3) := by decide +kernel
theorem dX9_setShares_12 : decode cX9_setShares 12 = .ok (.iload_n 1, 1) := by decide +kernel
theorem dX9_setShares_13 : decode cX9_setShares 13 = .ok (.ifCond .ne 13, 3) := by decide +kernel
theorem dX9_setShares_16 : decode cX9_setShares 16 = .ok (.new 55, 3) := by decide +kernel
theorem dX9_setShares_19 : decode cX9_setShares 19 = .ok (.dup, 1) := by decide +kernel
theorem dX9_setShares_20 : decode cX9_setShares 20 = .ok (.ldc 194, 2) := by decide +kernel
theorem dX9_setShares_22 : decode cX9_setShares 22 = .ok (.invokespecial 59, 3) := by decide +kernel
theorem dX9_setShares_25 : decode cX9_setShares 25 = .ok (.athrow, 1) := by decide +kernel
theorem dX9_setShares_26 : decode cX9_setShares 26 = .ok (.aload_n 0, 1) := by decide +kernel
theorem dX9_setShares_27 : decode cX9_setShares 27 = .ok (.getfield 10, 3) := by decide +kernel
theorem dX9_setShares_30 : decode cX9_setShares 30 = .ok (.getfield 77, 3) := by decide +kernel
theorem dX9_setShares_33 : decode cX9_setShares 33 = .ok (.getfield 148, 3) := by decide +kernel
theorem dX9_setShares_36 : decode cX9_setShares 36 = .ok (.iload_n 1, 1) := by decide +kernel
theorem dX9_setShares_37 : decode cX9_setShares 37 = .ok (.iaload, 1) := by decide +kernel
theorem dX9_setShares_38 : decode cX9_setShares 38 = .ok (.istore_n 3, 1) := by decide +kernel
theorem dX9_setShares_39 : decode cX9_setShares 39 = .ok (.aload_n 0, 1) := by decide +kernel
theorem dX9_setShares_40 : decode cX9_setShares 40 = .ok (.getfield 22, 3) := by decide +kernel
theorem dX9_setShares_43 : decode cX9_setShares 43 = .ok (.aload_n 0, 1) := by decide +kernel
theorem dX9_setShares_44 : decode cX9_setShares 44 = .ok (.getfield 10, 3) := by decide +kernel
theorem dX9_setShares_47 : decode cX9_setShares 47 = .ok (.invokevirtual 67, 3) := by decide +kernel
theorem dX9_setShares_50 : decode cX9_setShares 50 = .ok (.aload_n 0, 1) := by decide +kernel
theorem dX9_setShares_51 : decode cX9_setShares 51 = .ok (.getfield 10, 3) := by decide +kernel
theorem dX9_setShares_54 : decode cX9_setShares 54 = .ok (.getfield 77, 3) := by decide +kernel
theorem dX9_setShares_57 : decode cX9_setShares 57 = .ok (.iload_n 1, 1) := by decide +kernel
theorem dX9_setShares_58 : decode cX9_setShares 58 = .ok (.iload_n 2, 1) := by decide +kernel
theorem dX9_setShares_59 : decode cX9_setShares 59 = .ok (.invokevirtual 196, 3) := by decide +kernel
theorem dX9_setShares_62 : decode cX9_setShares 62 = .ok (.iload_n 3, 1) := by decide +kernel
theorem dX9_setShares_63 : decode cX9_setShares 63 = .ok (.ireturn, 1) := by decide +kernel
theorem dX9_lend_0 : decode cX9_lend 0 = .ok (.aload_n 0, 1) := by decide +kernel
theorem dX9_lend_1 : decode cX9_lend 1 = .ok (.iload_n 1, 1) := by decide +kernel
theorem dX9_lend_2 : decode cX9_lend 2 = .ok (.invokevirtual 133, 3) := by decide +kernel
theorem dX9_lend_5 : decode cX9_lend 5 = .ok (.aload_n 0, 1) := by decide +kernel
theorem dX9_lend_6 : decode cX9_lend 6 = .ok (.iload_n 2, 1) := by decide +kernel
theorem dX9_lend_7 : decode cX9_lend 7 = .ok (.invokevirtual 133, 3) := by decide +kernel
theorem dX9_lend_10 : decode cX9_lend 10 = .ok (.iload_n 1, 1) := by decide +kernel
theorem dX9_lend_11 : decode cX9_lend 11 = .ok (.iload_n 2, 1) := by decide +kernel
theorem dX9_lend_12 : decode cX9_lend 12 = .ok (.if_icmp .ne 13, 3) := by decide +kernel
theorem dX9_lend_15 : decode cX9_lend 15 = .ok (.new 55, 3) := by decide +kernel
theorem dX9_lend_18 : decode cX9_lend 18 = .ok (.dup, 1) := by decide +kernel
theorem dX9_lend_19 : decode cX9_lend 19 = .ok (.ldc 199, 2) := by decide +kernel
theorem dX9_lend_21 : decode cX9_lend 21 = .ok (.invokespecial 59, 3) := by decide +kernel
theorem dX9_lend_24 : decode cX9_lend 24 = .ok (.athrow, 1) := by decide +kernel
theorem dX9_lend_25 : decode cX9_lend 25 = .ok (.iload_n 3, 1) := by decide +kernel
theorem dX9_lend_26 : decode cX9_lend 26 = .ok (.iconst 1, 1) := by decide +kernel
theorem dX9_lend_27 : decode cX9_lend 27 = .ok (.ldc 201, 2) := by decide +kernel
theorem dX9_lend_29 : decode cX9_lend 29 = .ok (.invokestatic 175, 3) := by decide +kernel
theorem dX9_lend_32 : decode cX9_lend 32 = .ok (.iload 4, 2) := by decide +kernel
theorem dX9_lend_34 : decode cX9_lend 34 = .ok (.iconst 1, 1) := by decide +kernel
theorem dX9_lend_35 : decode cX9_lend 35 = .ok (.bipush 50, 2) := by decide +kernel
theorem dX9_lend_37 : decode cX9_lend 37 = .ok (.invokestatic 175, 3) := by decide +kernel
theorem dX9_lend_40 : decode cX9_lend 40 = .ok (.aload_n 0, 1) := by decide +kernel
theorem dX9_lend_41 : decode cX9_lend 41 = .ok (.iload_n 1, 1) := by decide +kernel
theorem dX9_lend_42 : decode cX9_lend 42 = .ok (.invokevirtual 202, 3) := by decide +kernel
theorem dX9_lend_45 : decode cX9_lend 45 = .ok (.aload_n 0, 1) := by decide +kernel
theorem dX9_lend_46 : decode cX9_lend 46 = .ok (.iload_n 2, 1) := by decide +kernel
theorem dX9_lend_47 : decode cX9_lend 47 = .ok (.invokevirtual 202, 3) := by decide +kernel
theorem dX9_lend_50 : decode cX9_lend 50 = .ok (.aload_n 0, 1) := by decide +kernel
theorem dX9_lend_51 : decode cX9_lend 51 = .ok (.getfield 10, 3) := by decide +kernel
theorem dX9_lend_54 : decode cX9_lend 54 = .ok (.getfield 136, 3) := by decide +kernel
theorem dX9_lend_57 : decode cX9_lend 57 = .ok (.aload_n 0, 1) := by decide +kernel
theorem dX9_lend_58 : decode cX9_lend 58 = .ok (.getfield 10, 3) := by decide +kernel
theorem dX9_lend_61 : decode cX9_lend 61 = .ok (.invokevirtual 140, 3) := by decide +kernel
theorem dX9_lend_64 : decode cX9_lend 64 = .ok (.aload_n 0, 1) := by decide +kernel
theorem dX9_lend_65 : decode cX9_lend 65 = .ok (.getfield 10, 3) := by decide +kernel
theorem dX9_lend_68 : decode cX9_lend 68 = .ok (.getfield 103, 3) := by decide +kernel
theorem dX9_lend_71 : decode cX9_lend 71 = .ok (.invokevirtual 205, 3) := by decide +kernel
theorem dX9_lend_74 : decode cX9_lend 74 = .ok (.ifCond .ne 19, 3) := by decide +kernel
theorem dX9_lend_77 : decode cX9_lend 77 = .ok (.iload_n 3, 1) := by decide +kernel
theorem dX9_lend_78 : decode cX9_lend 78 = .ok (.aload_n 0, 1) := by decide +kernel
theorem dX9_lend_79 : decode cX9_lend 79 = .ok (.getfield 10, 3) := by decide +kernel
theorem dX9_lend_82 : decode cX9_lend 82 = .ok (.getfield 136, 3) := by decide +kernel
theorem dX9_lend_85 : decode cX9_lend 85 = .ok (.getfield 157, 3) := by decide +kernel
theorem dX9_lend_88 : decode cX9_lend 88 = .ok (.iload_n 1, 1) := by decide +kernel
theorem dX9_lend_89 : decode cX9_lend 89 = .ok (.iaload, 1) := by decide +kernel
theorem dX9_lend_90 : decode cX9_lend 90 = .ok (.if_icmp .le 13, 3) := by decide +kernel
theorem dX9_lend_93 : decode cX9_lend 93 = .ok (.new 44, 3) := by decide +kernel
theorem dX9_lend_96 : decode cX9_lend 96 = .ok (.dup, 1) := by decide +kernel
theorem dX9_lend_97 : decode cX9_lend 97 = .ok (.ldc 206, 2) := by decide +kernel
theorem dX9_lend_99 : decode cX9_lend 99 = .ok (.invokespecial 48, 3) := by decide +kernel
theorem dX9_lend_102 : decode cX9_lend 102 = .ok (.athrow, 1) := by decide +kernel
theorem dX9_lend_103 : decode cX9_lend 103 = .ok (.aload_n 0, 1) := by decide +kernel
theorem dX9_lend_104 : decode cX9_lend 104 = .ok (.getfield 22, 3) := by decide +kernel
theorem dX9_lend_107 : decode cX9_lend 107 = .ok (.aload_n 0, 1) := by decide +kernel
theorem dX9_lend_108 : decode cX9_lend 108 = .ok (.getfield 10, 3) := by decide +kernel
theorem dX9_lend_111 : decode cX9_lend 111 = .ok (.invokevirtual 67, 3) := by decide +kernel
theorem dX9_lend_114 : decode cX9_lend 114 = .ok (.aload_n 0, 1) := by decide +kernel
theorem dX9_lend_115 : decode cX9_lend 115 = .ok (.getfield 10, 3) := by decide +kernel
theorem dX9_lend_118 : decode cX9_lend 118 = .ok (.getfield 103, 3) := by decide +kernel
theorem dX9_lend_121 : decode cX9_lend 121 = .ok (.iload_n 1, 1) := by decide +kernel
theorem dX9_lend_122 : decode cX9_lend 122 = .ok (.iload_n 2, 1) := by decide +kernel
theorem dX9_lend_123 : decode cX9_lend 123 = .ok (.iload_n 3, 1) := by decide +kernel
theorem dX9_lend_124 : decode cX9_lend 124 = .ok (.aload_n 0, 1) := by decide +kernel
theorem dX9_lend_125 : decode cX9_lend 125 = .ok (.getfield 10, 3) := by decide +kernel
theorem dX9_lend_128 : decode cX9_lend 128 = .ok (.getfield 110, 3) := by decide +kernel
theorem dX9_lend_131 : decode cX9_lend 131 = .ok (.iload 4, 2) := by decide +kernel
theorem dX9_lend_133 : decode cX9_lend 133 = .ok (.invokevirtual 208, 3) := by decide +kernel
theorem dX9_lend_136 : decode cX9_lend 136 = .ok (.aload_n 0, 1) := by decide +kernel
theorem dX9_lend_137 : decode cX9_lend 137 = .ok (.getfield 10, 3) := by decide +kernel
theorem dX9_lend_140 : decode cX9_lend 140 = .ok (.getfield 103, 3) := by decide +kernel
theorem dX9_lend_143 : decode cX9_lend 143 = .ok (.getfield 107, 3) := by decide +kernel
theorem dX9_lend_146 : decode cX9_lend 146 = .ok (.iconst 1, 1) := by decide +kernel
theorem dX9_lend_147 : decode cX9_lend 147 = .ok (.isub, 1) := by decide +kernel
theorem dX9_lend_148 : decode cX9_lend 148 = .ok (.ireturn, 1) := by decide +kernel
theorem dX9_loan_0 : decode cX9_loan 0 = .ok (.aload_n 0, 1) := by decide +kernel
theorem dX9_loan_1 : decode cX9_loan 1 = .ok (.getfield 10, 3) := by decide +kernel
theorem dX9_loan_4 : decode cX9_loan 4 = .ok (.getfield 103, 3) := by decide +kernel
theorem dX9_loan_7 : decode cX9_loan 7 = .ok (.astore_n 3, 1) := by decide +kernel
theorem dX9_loan_8 : decode cX9_loan 8 = .ok (.aload_n 3, 1) := by decide +kernel
theorem dX9_loan_9 : decode cX9_loan 9 = .ok (.iload_n 1, 1) := by decide +kernel
theorem dX9_loan_10 : decode cX9_loan 10 = .ok (.invokevirtual 211, 3) := by decide +kernel
theorem dX9_loan_13 : decode cX9_loan 13 = .ok (.ifCond .ne 13, 3) := by decide +kernel
theorem dX9_loan_16 : decode cX9_loan 16 = .ok (.new 214, 3) := by decide +kernel
theorem dX9_loan_19 : decode cX9_loan 19 = .ok (.dup, 1) := by decide +kernel
theorem dX9_loan_20 : decode cX9_loan 20 = .ok (.ldc 216, 2) := by decide +kernel
theorem dX9_loan_22 : decode cX9_loan 22 = .ok (.invokespecial 218, 3) := by decide +kernel
theorem dX9_loan_25 : decode cX9_loan 25 = .ok (.athrow, 1) := by decide +kernel
theorem dX9_loan_26 : decode cX9_loan 26 = .ok (.iload_n 2, 1) := by decide +kernel
theorem dX9_loan_27 : decode cX9_loan 27 = .ok (.tableswitch 81 0 4 #[33, 40, 47, 54, 75], 33) := by decide +kernel
theorem dX9_loan_60 : decode cX9_loan 60 = .ok (.aload_n 3, 1) := by decide +kernel
theorem dX9_loan_61 : decode cX9_loan 61 = .ok (.getfield 219, 3) := by decide +kernel
theorem dX9_loan_64 : decode cX9_loan 64 = .ok (.iload_n 1, 1) := by decide +kernel
theorem dX9_loan_65 : decode cX9_loan 65 = .ok (.iaload, 1) := by decide +kernel
theorem dX9_loan_66 : decode cX9_loan 66 = .ok (.ireturn, 1) := by decide +kernel
theorem dX9_loan_67 : decode cX9_loan 67 = .ok (.aload_n 3, 1) := by decide +kernel
theorem dX9_loan_68 : decode cX9_loan 68 = .ok (.getfield 222, 3) := by decide +kernel
theorem dX9_loan_71 : decode cX9_loan 71 = .ok (.iload_n 1, 1) := by decide +kernel
theorem dX9_loan_72 : decode cX9_loan 72 = .ok (.iaload, 1) := by decide +kernel
theorem dX9_loan_73 : decode cX9_loan 73 = .ok (.ireturn, 1) := by decide +kernel
theorem dX9_loan_74 : decode cX9_loan 74 = .ok (.aload_n 3, 1) := by decide +kernel
theorem dX9_loan_75 : decode cX9_loan 75 = .ok (.getfield 225, 3) := by decide +kernel
theorem dX9_loan_78 : decode cX9_loan 78 = .ok (.iload_n 1, 1) := by decide +kernel
theorem dX9_loan_79 : decode cX9_loan 79 = .ok (.iaload, 1) := by decide +kernel
theorem dX9_loan_80 : decode cX9_loan 80 = .ok (.ireturn, 1) := by decide +kernel
theorem dX9_loan_81 : decode cX9_loan 81 = .ok (.aload_n 3, 1) := by decide +kernel
theorem dX9_loan_82 : decode cX9_loan 82 = .ok (.iload_n 1, 1) := by decide +kernel
theorem dX9_loan_83 : decode cX9_loan 83 = .ok (.aload_n 0, 1) := by decide +kernel
theorem dX9_loan_84 : decode cX9_loan 84 = .ok (.getfield 10, 3) := by decide +kernel
theorem dX9_loan_87 : decode cX9_loan 87 = .ok (.getfield 110, 3) := by decide +kernel
theorem dX9_loan_90 : decode cX9_loan 90 = .ok (.invokevirtual 226, 3) := by decide +kernel
theorem dX9_loan_93 : decode cX9_loan 93 = .ok (.ifCond .eq 7, 3) := by decide +kernel
theorem dX9_loan_96 : decode cX9_loan 96 = .ok (.iconst 0, 1) := by decide +kernel
theorem dX9_loan_97 : decode cX9_loan 97 = .ok (.goto 4, 3) := by decide +kernel
theorem dX9_loan_100 : decode cX9_loan 100 = .ok (.iconst 1, 1) := by decide +kernel
theorem dX9_loan_101 : decode cX9_loan 101 = .ok (.ireturn, 1) := by decide +kernel
theorem dX9_loan_102 : decode cX9_loan 102 = .ok (.aload_n 3, 1) := by decide +kernel
theorem dX9_loan_103 : decode cX9_loan 103 = .ok (.iload_n 1, 1) := by decide +kernel
theorem dX9_loan_104 : decode cX9_loan 104 = .ok (.invokevirtual 230, 3) := by decide +kernel
theorem dX9_loan_107 : decode cX9_loan 107 = .ok (.ireturn, 1) := by decide +kernel
theorem dX9_loan_108 : decode cX9_loan 108 = .ok (.new 55, 3) := by decide +kernel
theorem dX9_loan_111 : decode cX9_loan 111 = .ok (.dup, 1) := by decide +kernel
theorem dX9_loan_112 : decode cX9_loan 112 = .ok (.ldc 233, 2) := by decide +kernel
theorem dX9_loan_114 : decode cX9_loan 114 = .ok (.invokespecial 59, 3) := by decide +kernel
theorem dX9_loan_117 : decode cX9_loan 117 = .ok (.athrow, 1) := by decide +kernel
theorem dX9_balance_0 : decode cX9_balance 0 = .ok (.aload_n 0, 1) := by decide +kernel
theorem dX9_balance_1 : decode cX9_balance 1 = .ok (.iload_n 1, 1) := by decide +kernel
theorem dX9_balance_2 : decode cX9_balance 2 = .ok (.invokevirtual 133, 3) := by decide +kernel
theorem dX9_balance_5 : decode cX9_balance 5 = .ok (.aload_n 0, 1) := by decide +kernel
theorem dX9_balance_6 : decode cX9_balance 6 = .ok (.getfield 10, 3) := by decide +kernel
theorem dX9_balance_9 : decode cX9_balance 9 = .ok (.getfield 103, 3) := by decide +kernel
theorem dX9_balance_12 : decode cX9_balance 12 = .ok (.iload_n 1, 1) := by decide +kernel
theorem dX9_balance_13 : decode cX9_balance 13 = .ok (.aload_n 0, 1) := by decide +kernel
theorem dX9_balance_14 : decode cX9_balance 14 = .ok (.getfield 10, 3) := by decide +kernel
theorem dX9_balance_17 : decode cX9_balance 17 = .ok (.getfield 110, 3) := by decide +kernel
theorem dX9_balance_20 : decode cX9_balance 20 = .ok (.invokevirtual 235, 3) := by decide +kernel
theorem dX9_balance_23 : decode cX9_balance 23 = .ok (.ireturn, 1) := by decide +kernel
theorem dX9_ranked_0 : decode cX9_ranked 0 = .ok (.aload_n 0, 1) := by decide +kernel
theorem dX9_ranked_1 : decode cX9_ranked 1 = .ok (.getfield 10, 3) := by decide +kernel
theorem dX9_ranked_4 : decode cX9_ranked 4 = .ok (.iload_n 1, 1) := by decide +kernel
theorem dX9_ranked_5 : decode cX9_ranked 5 = .ok (.invokevirtual 239, 3) := by decide +kernel
theorem dX9_ranked_8 : decode cX9_ranked 8 = .ok (.istore_n 2, 1) := by decide +kernel
theorem dX9_ranked_9 : decode cX9_ranked 9 = .ok (.iload_n 2, 1) := by decide +kernel
theorem dX9_ranked_10 : decode cX9_ranked 10 = .ok (.iconst (-1), 1) := by decide +kernel
theorem dX9_ranked_11 : decode cX9_ranked 11 = .ok (.if_icmp .ne 13, 3) := by decide +kernel
theorem dX9_ranked_14 : decode cX9_ranked 14 = .ok (.new 214, 3) := by decide +kernel
theorem dX9_ranked_17 : decode cX9_ranked 17 = .ok (.dup, 1) := by decide +kernel
theorem dX9_ranked_18 : decode cX9_ranked 18 = .ok (.ldc 242, 2) := by decide +kernel
theorem dX9_ranked_20 : decode cX9_ranked 20 = .ok (.invokespecial 218, 3) := by decide +kernel
theorem dX9_ranked_23 : decode cX9_ranked 23 = .ok (.athrow, 1) := by decide +kernel
theorem dX9_ranked_24 : decode cX9_ranked 24 = .ok (.iload_n 2, 1) := by decide +kernel
theorem dX9_ranked_25 : decode cX9_ranked 25 = .ok (.ireturn, 1) := by decide +kernel
theorem dX9_worth_0 : decode cX9_worth 0 = .ok (.aload_n 0, 1) := by decide +kernel
theorem dX9_worth_1 : decode cX9_worth 1 = .ok (.iload_n 1, 1) := by decide +kernel
theorem dX9_worth_2 : decode cX9_worth 2 = .ok (.invokevirtual 133, 3) := by decide +kernel
theorem dX9_worth_5 : decode cX9_worth 5 = .ok (.iload_n 2, 1) := by decide +kernel
theorem dX9_worth_6 : decode cX9_worth 6 = .ok (.iconst 1, 1) := by decide +kernel
theorem dX9_worth_7 : decode cX9_worth 7 = .ok (.bipush 30, 2) := by decide +kernel
theorem dX9_worth_9 : decode cX9_worth 9 = .ok (.invokestatic 175, 3) := by decide +kernel
theorem dX9_worth_12 : decode cX9_worth 12 = .ok (.aload_n 0, 1) := by decide +kernel
theorem dX9_worth_13 : decode cX9_worth 13 = .ok (.iload_n 1, 1) := by decide +kernel
theorem dX9_worth_14 : decode cX9_worth 14 = .ok (.invokevirtual 202, 3) := by decide +kernel
theorem dX9_worth_17 : decode cX9_worth 17 = .ok (.aload_n 0, 1) := by decide +kernel
theorem dX9_worth_18 : decode cX9_worth 18 = .ok (.getfield 10, 3) := by decide +kernel
theorem dX9_worth_21 : decode cX9_worth 21 = .ok (.getfield 136, 3) := by decide +kernel
theorem dX9_worth_24 : decode cX9_worth 24 = .ok (.aload_n 0, 1) := by decide +kernel
theorem dX9_worth_25 : decode cX9_worth 25 = .ok (.getfield 10, 3) := by decide +kernel
theorem dX9_worth_28 : decode cX9_worth 28 = .ok (.invokevirtual 140, 3) := by decide +kernel
theorem dX9_worth_31 : decode cX9_worth 31 = .ok (.aload_n 0, 1) := by decide +kernel
theorem dX9_worth_32 : decode cX9_worth 32 = .ok (.getfield 10, 3) := by decide +kernel
theorem dX9_worth_35 : decode cX9_worth 35 = .ok (.getfield 136, 3) := by decide +kernel
theorem dX9_worth_38 : decode cX9_worth 38 = .ok (.getfield 157, 3) := by decide +kernel
theorem dX9_worth_41 : decode cX9_worth 41 = .ok (.iload_n 1, 1) := by decide +kernel
theorem dX9_worth_42 : decode cX9_worth 42 = .ok (.iaload, 1) := by decide +kernel
theorem dX9_worth_43 : decode cX9_worth 43 = .ok (.aload_n 0, 1) := by decide +kernel
theorem dX9_worth_44 : decode cX9_worth 44 = .ok (.getfield 10, 3) := by decide +kernel
theorem dX9_worth_47 : decode cX9_worth 47 = .ok (.getfield 77, 3) := by decide +kernel
theorem dX9_worth_50 : decode cX9_worth 50 = .ok (.getfield 160, 3) := by decide +kernel
theorem dX9_worth_53 : decode cX9_worth 53 = .ok (.iload_n 1, 1) := by decide +kernel
theorem dX9_worth_54 : decode cX9_worth 54 = .ok (.iaload, 1) := by decide +kernel
theorem dX9_worth_55 : decode cX9_worth 55 = .ok (.iload_n 2, 1) := by decide +kernel
theorem dX9_worth_56 : decode cX9_worth 56 = .ok (.invokestatic 244, 3) := by decide +kernel
theorem dX9_worth_59 : decode cX9_worth 59 = .ok (.lreturn, 1) := by decide +kernel
theorem dX9_machine_0 : decode cX9_machine 0 = .ok (.aload_n 0, 1) := by decide +kernel
theorem dX9_machine_1 : decode cX9_machine 1 = .ok (.iload_n 1, 1) := by decide +kernel
theorem dX9_machine_2 : decode cX9_machine 2 = .ok (.invokevirtual 248, 3) := by decide +kernel
theorem dX9_machine_5 : decode cX9_machine 5 = .ok (.aload_n 0, 1) := by decide +kernel
theorem dX9_machine_6 : decode cX9_machine 6 = .ok (.getfield 10, 3) := by decide +kernel
theorem dX9_machine_9 : decode cX9_machine 9 = .ok (.getfield 136, 3) := by decide +kernel
theorem dX9_machine_12 : decode cX9_machine 12 = .ok (.aload_n 0, 1) := by decide +kernel
theorem dX9_machine_13 : decode cX9_machine 13 = .ok (.getfield 10, 3) := by decide +kernel
theorem dX9_machine_16 : decode cX9_machine 16 = .ok (.invokevirtual 140, 3) := by decide +kernel
theorem dX9_machine_19 : decode cX9_machine 19 = .ok (.iload_n 2, 1) := by decide +kernel
theorem dX9_machine_20 : decode cX9_machine 20 = .ok (.tableswitch 87 0 3 #[32, 45, 65, 78], 32) := by decide +kernel
theorem dX9_machine_52 : decode cX9_machine 52 = .ok (.aload_n 0, 1) := by decide +kernel
theorem dX9_machine_53 : decode cX9_machine 53 = .ok (.getfield 10, 3) := by decide +kernel
theorem dX9_machine_56 : decode cX9_machine 56 = .ok (.getfield 89, 3) := by decide +kernel
theorem dX9_machine_59 : decode cX9_machine 59 = .ok (.getfield 251, 3) := by decide +kernel
theorem dX9_machine_62 : decode cX9_machine 62 = .ok (.iload_n 1, 1) := by decide +kernel
theorem dX9_machine_63 : decode cX9_machine 63 = .ok (.iaload, 1) := by decide +kernel
theorem dX9_machine_64 : decode cX9_machine 64 = .ok (.ireturn, 1) := by decide +kernel
theorem dX9_machine_65 : decode cX9_machine 65 = .ok (.aload_n 0, 1) := by decide +kernel
theorem dX9_machine_66 : decode cX9_machine 66 = .ok (.getfield 10, 3) := by decide +kernel
theorem dX9_machine_69 : decode cX9_machine 69 = .ok (.getfield 89, 3) := by decide +kernel
theorem dX9_machine_72 : decode cX9_machine 72 = .ok (.iload_n 1, 1) := by decide +kernel
theorem dX9_machine_73 : decode cX9_machine 73 = .ok (.invokevirtual 254, 3) := by decide +kernel
theorem dX9_machine_76 : decode cX9_machine 76 = .ok (.ifCond .eq 7, 3) := by decide +kernel
theorem dX9_machine_79 : decode cX9_machine 79 = .ok (.iconst 1, 1) := by decide +kernel
theorem dX9_machine_80 : decode cX9_machine 80 = .ok (.goto 4, 3) := by decide +kernel
theorem dX9_machine_83 : decode cX9_machine 83 = .ok (.iconst 0, 1) := by decide +kernel
theorem dX9_machine_84 : decode cX9_machine 84 = .ok (.ireturn, 1) := by decide +kernel
theorem dX9_machine_85 : decode cX9_machine 85 = .ok (.aload_n 0, 1) := by decide +kernel
theorem dX9_machine_86 : decode cX9_machine 86 = .ok (.getfield 10, 3) := by decide +kernel
theorem dX9_machine_89 : decode cX9_machine 89 = .ok (.getfield 136, 3) := by decide +kernel
theorem dX9_machine_92 : decode cX9_machine 92 = .ok (.getfield 257, 3) := by decide +kernel
theorem dX9_machine_95 : decode cX9_machine 95 = .ok (.iload_n 1, 1) := by decide +kernel
theorem dX9_machine_96 : decode cX9_machine 96 = .ok (.iaload, 1) := by decide +kernel
theorem dX9_machine_97 : decode cX9_machine 97 = .ok (.ireturn, 1) := by decide +kernel
theorem dX9_machine_98 : decode cX9_machine 98 = .ok (.aload_n 0, 1) := by decide +kernel
theorem dX9_machine_99 : decode cX9_machine 99 = .ok (.getfield 10, 3) := by decide +kernel
theorem dX9_machine_102 : decode cX9_machine 102 = .ok (.iload_n 1, 1) := by decide +kernel
theorem dX9_machine_103 : decode cX9_machine 103 = .ok (.invokevirtual 260, 3) := by decide +kernel
theorem dX9_machine_106 : decode cX9_machine 106 = .ok (.ireturn, 1) := by decide +kernel
theorem dX9_machine_107 : decode cX9_machine 107 = .ok (.new 55, 3) := by decide +kernel
theorem dX9_machine_110 : decode cX9_machine 110 = .ok (.dup, 1) := by decide +kernel
theorem dX9_machine_111 : decode cX9_machine 111 = .ok (.ldc_w 263, 3) := by decide +kernel
theorem dX9_machine_114 : decode cX9_machine 114 = .ok (.invokespecial 59, 3) := by decide +kernel
theorem dX9_machine_117 : decode cX9_machine 117 = .ok (.athrow, 1) := by decide +kernel
theorem dX9_job_0 : decode cX9_job 0 = .ok (.aload_n 0, 1) := by decide +kernel
theorem dX9_job_1 : decode cX9_job 1 = .ok (.iload_n 1, 1) := by decide +kernel
theorem dX9_job_2 : decode cX9_job 2 = .ok (.invokevirtual 265, 3) := by decide +kernel
theorem dX9_job_5 : decode cX9_job 5 = .ok (.aload_n 0, 1) := by decide +kernel
theorem dX9_job_6 : decode cX9_job 6 = .ok (.getfield 10, 3) := by decide +kernel
theorem dX9_job_9 : decode cX9_job 9 = .ok (.getfield 96, 3) := by decide +kernel
theorem dX9_job_12 : decode cX9_job 12 = .ok (.astore_n 3, 1) := by decide +kernel
theorem dX9_job_13 : decode cX9_job 13 = .ok (.iload_n 2, 1) := by decide +kernel
theorem dX9_job_14 : decode cX9_job 14 = .ok (.tableswitch 91 0 6 #[42, 49, 56, 63, 70, 77, 84], 42) := by decide +kernel
theorem dX9_job_56 : decode cX9_job 56 = .ok (.aload_n 3, 1) := by decide +kernel
theorem dX9_job_57 : decode cX9_job 57 = .ok (.getfield 268, 3) := by decide +kernel
theorem dX9_job_60 : decode cX9_job 60 = .ok (.iload_n 1, 1) := by decide +kernel
theorem dX9_job_61 : decode cX9_job 61 = .ok (.iaload, 1) := by decide +kernel
theorem dX9_job_62 : decode cX9_job 62 = .ok (.ireturn, 1) := by decide +kernel
theorem dX9_job_63 : decode cX9_job 63 = .ok (.aload_n 3, 1) := by decide +kernel
theorem dX9_job_64 : decode cX9_job 64 = .ok (.getfield 271, 3) := by decide +kernel
theorem dX9_job_67 : decode cX9_job 67 = .ok (.iload_n 1, 1) := by decide +kernel
theorem dX9_job_68 : decode cX9_job 68 = .ok (.iaload, 1) := by decide +kernel
theorem dX9_job_69 : decode cX9_job 69 = .ok (.ireturn, 1) := by decide +kernel
theorem dX9_job_70 : decode cX9_job 70 = .ok (.aload_n 3, 1) := by decide +kernel
theorem dX9_job_71 : decode cX9_job 71 = .ok (.getfield 274, 3) := by decide +kernel
theorem dX9_job_74 : decode cX9_job 74 = .ok (.iload_n 1, 1) := by decide +kernel
theorem dX9_job_75 : decode cX9_job 75 = .ok (.iaload, 1) := by decide +kernel
theorem dX9_job_76 : decode cX9_job 76 = .ok (.ireturn, 1) := by decide +kernel
theorem dX9_job_77 : decode cX9_job 77 = .ok (.aload_n 3, 1) := by decide +kernel
theorem dX9_job_78 : decode cX9_job 78 = .ok (.getfield 277, 3) := by decide +kernel
theorem dX9_job_81 : decode cX9_job 81 = .ok (.iload_n 1, 1) := by decide +kernel
theorem dX9_job_82 : decode cX9_job 82 = .ok (.iaload, 1) := by decide +kernel
theorem dX9_job_83 : decode cX9_job 83 = .ok (.ireturn, 1) := by decide +kernel
theorem dX9_job_84 : decode cX9_job 84 = .ok (.aload_n 3, 1) := by decide +kernel
theorem dX9_job_85 : decode cX9_job 85 = .ok (.getfield 280, 3) := by decide +kernel
theorem dX9_job_88 : decode cX9_job 88 = .ok (.iload_n 1, 1) := by decide +kernel
theorem dX9_job_89 : decode cX9_job 89 = .ok (.iaload, 1) := by decide +kernel
theorem dX9_job_90 : decode cX9_job 90 = .ok (.ireturn, 1) := by decide +kernel
theorem dX9_job_91 : decode cX9_job 91 = .ok (.aload_n 3, 1) := by decide +kernel
theorem dX9_job_92 : decode cX9_job 92 = .ok (.getfield 283, 3) := by decide +kernel
theorem dX9_job_95 : decode cX9_job 95 = .ok (.iload_n 1, 1) := by decide +kernel
theorem dX9_job_96 : decode cX9_job 96 = .ok (.iaload, 1) := by decide +kernel
theorem dX9_job_97 : decode cX9_job 97 = .ok (.ireturn, 1) := by decide +kernel
theorem dX9_job_98 : decode cX9_job 98 = .ok (.aload_n 3, 1) := by decide +kernel
theorem dX9_job_99 : decode cX9_job 99 = .ok (.getfield 286, 3) := by decide +kernel
theorem dX9_job_102 : decode cX9_job 102 = .ok (.iload_n 1, 1) := by decide +kernel
theorem dX9_job_103 : decode cX9_job 103 = .ok (.iaload, 1) := by decide +kernel
theorem dX9_job_104 : decode cX9_job 104 = .ok (.ireturn, 1) := by decide +kernel
theorem dX9_job_105 : decode cX9_job 105 = .ok (.new 55, 3) := by decide +kernel
theorem dX9_job_108 : decode cX9_job 108 = .ok (.dup, 1) := by decide +kernel
theorem dX9_job_109 : decode cX9_job 109 = .ok (.ldc_w 289, 3) := by decide +kernel
theorem dX9_job_112 : decode cX9_job 112 = .ok (.invokespecial 59, 3) := by decide +kernel
theorem dX9_job_115 : decode cX9_job 115 = .ok (.athrow, 1) := by decide +kernel
theorem dX9_first_0 : decode cX9_first 0 = .ok (.aload_n 0, 1) := by decide +kernel
theorem dX9_first_1 : decode cX9_first 1 = .ok (.getfield 10, 3) := by decide +kernel
theorem dX9_first_4 : decode cX9_first 4 = .ok (.getfield 136, 3) := by decide +kernel
theorem dX9_first_7 : decode cX9_first 7 = .ok (.aload_n 0, 1) := by decide +kernel
theorem dX9_first_8 : decode cX9_first 8 = .ok (.getfield 10, 3) := by decide +kernel
theorem dX9_first_11 : decode cX9_first 11 = .ok (.invokevirtual 140, 3) := by decide +kernel
theorem dX9_first_14 : decode cX9_first 14 = .ok (.aload_n 0, 1) := by decide +kernel
theorem dX9_first_15 : decode cX9_first 15 = .ok (.getfield 10, 3) := by decide +kernel
theorem dX9_first_18 : decode cX9_first 18 = .ok (.invokevirtual 291, 3) := by decide +kernel
theorem dX9_first_21 : decode cX9_first 21 = .ok (.istore_n 1, 1) := by decide +kernel
theorem dX9_first_22 : decode cX9_first 22 = .ok (.iload_n 1, 1) := by decide +kernel
theorem dX9_first_23 : decode cX9_first 23 = .ok (.iconst (-1), 1) := by decide +kernel
theorem dX9_first_24 : decode cX9_first 24 = .ok (.if_icmp .ne 14, 3) := by decide +kernel
theorem dX9_first_27 : decode cX9_first 27 = .ok (.new 294, 3) := by decide +kernel
theorem dX9_first_30 : decode cX9_first 30 = .ok (.dup, 1) := by decide +kernel
theorem dX9_first_31 : decode cX9_first 31 = .ok (.ldc_w 296, 3) := by decide +kernel
theorem dX9_first_34 : decode cX9_first 34 = .ok (.invokespecial 298, 3) := by decide +kernel
theorem dX9_first_37 : decode cX9_first 37 = .ok (.athrow, 1) := by decide +kernel
theorem dX9_first_38 : decode cX9_first 38 = .ok (.iload_n 1, 1) := by decide +kernel
theorem dX9_first_39 : decode cX9_first 39 = .ok (.ireturn, 1) := by decide +kernel
theorem dX9_submit_0 : decode cX9_submit 0 = .ok (.aload_n 0, 1) := by decide +kernel
theorem dX9_submit_1 : decode cX9_submit 1 = .ok (.iload_n 1, 1) := by decide +kernel
theorem dX9_submit_2 : decode cX9_submit 2 = .ok (.invokevirtual 133, 3) := by decide +kernel
theorem dX9_submit_5 : decode cX9_submit 5 = .ok (.iload_n 2, 1) := by decide +kernel
theorem dX9_submit_6 : decode cX9_submit 6 = .ok (.iconst 1, 1) := by decide +kernel
theorem dX9_submit_7 : decode cX9_submit 7 = .ok (.bipush 60, 2) := by decide +kernel
theorem dX9_submit_9 : decode cX9_submit 9 = .ok (.invokestatic 175, 3) := by decide +kernel
theorem dX9_submit_12 : decode cX9_submit 12 = .ok (.aload_n 0, 1) := by decide +kernel
theorem dX9_submit_13 : decode cX9_submit 13 = .ok (.iload_n 1, 1) := by decide +kernel
theorem dX9_submit_14 : decode cX9_submit 14 = .ok (.invokevirtual 202, 3) := by decide +kernel
theorem dX9_submit_17 : decode cX9_submit 17 = .ok (.aload_n 0, 1) := by decide +kernel
theorem dX9_submit_18 : decode cX9_submit 18 = .ok (.getfield 10, 3) := by decide +kernel
theorem dX9_submit_21 : decode cX9_submit 21 = .ok (.getfield 96, 3) := by decide +kernel
theorem dX9_submit_24 : decode cX9_submit 24 = .ok (.invokevirtual 299, 3) := by decide +kernel
theorem dX9_submit_27 : decode cX9_submit 27 = .ok (.ifCond .eq 14, 3) := by decide +kernel
theorem dX9_submit_30 : decode cX9_submit 30 = .ok (.new 44, 3) := by decide +kernel
theorem dX9_submit_33 : decode cX9_submit 33 = .ok (.dup, 1) := by decide +kernel
theorem dX9_submit_34 : decode cX9_submit 34 = .ok (.ldc_w 300, 3) := by decide +kernel
theorem dX9_submit_37 : decode cX9_submit 37 = .ok (.invokespecial 48, 3) := by decide +kernel
theorem dX9_submit_40 : decode cX9_submit 40 = .ok (.athrow, 1) := by decide +kernel
theorem dX9_submit_41 : decode cX9_submit 41 = .ok (.aload_n 0, 1) := by decide +kernel
theorem dX9_submit_42 : decode cX9_submit 42 = .ok (.getfield 22, 3) := by decide +kernel
theorem dX9_submit_45 : decode cX9_submit 45 = .ok (.aload_n 0, 1) := by decide +kernel
theorem dX9_submit_46 : decode cX9_submit 46 = .ok (.getfield 10, 3) := by decide +kernel
theorem dX9_submit_49 : decode cX9_submit 49 = .ok (.invokevirtual 67, 3) := by decide +kernel
theorem dX9_submit_52 : decode cX9_submit 52 = .ok (.aload_n 0, 1) := by decide +kernel
theorem dX9_submit_53 : decode cX9_submit 53 = .ok (.getfield 10, 3) := by decide +kernel
theorem dX9_submit_56 : decode cX9_submit 56 = .ok (.getfield 96, 3) := by decide +kernel
theorem dX9_submit_59 : decode cX9_submit 59 = .ok (.iload_n 1, 1) := by decide +kernel
theorem dX9_submit_60 : decode cX9_submit 60 = .ok (.iload_n 2, 1) := by decide +kernel
theorem dX9_submit_61 : decode cX9_submit 61 = .ok (.invokevirtual 302, 3) := by decide +kernel
theorem dX9_submit_64 : decode cX9_submit 64 = .ok (.aload_n 0, 1) := by decide +kernel
theorem dX9_submit_65 : decode cX9_submit 65 = .ok (.getfield 10, 3) := by decide +kernel
theorem dX9_submit_68 : decode cX9_submit 68 = .ok (.invokevirtual 74, 3) := by decide +kernel
theorem dX9_submit_71 : decode cX9_submit 71 = .ok (.aload_n 0, 1) := by decide +kernel
theorem dX9_submit_72 : decode cX9_submit 72 = .ok (.getfield 10, 3) := by decide +kernel
theorem dX9_submit_75 : decode cX9_submit 75 = .ok (.getfield 96, 3) := by decide +kernel
theorem dX9_submit_78 : decode cX9_submit 78 = .ok (.getfield 100, 3) := by decide +kernel
theorem dX9_submit_81 : decode cX9_submit 81 = .ok (.iconst 1, 1) := by decide +kernel
theorem dX9_submit_82 : decode cX9_submit 82 = .ok (.isub, 1) := by decide +kernel
theorem dX9_submit_83 : decode cX9_submit 83 = .ok (.ireturn, 1) := by decide +kernel
theorem dX9_cancel_0 : decode cX9_cancel 0 = .ok (.aload_n 0, 1) := by decide +kernel
theorem dX9_cancel_1 : decode cX9_cancel 1 = .ok (.iload_n 1, 1) := by decide +kernel
theorem dX9_cancel_2 : decode cX9_cancel 2 = .ok (.invokevirtual 265, 3) := by decide +kernel
theorem dX9_cancel_5 : decode cX9_cancel 5 = .ok (.aload_n 0, 1) := by decide +kernel
theorem dX9_cancel_6 : decode cX9_cancel 6 = .ok (.iload_n 1, 1) := by decide +kernel
theorem dX9_cancel_7 : decode cX9_cancel 7 = .ok (.invokevirtual 303, 3) := by decide +kernel
theorem dX9_cancel_10 : decode cX9_cancel 10 = .ok (.aload_n 0, 1) := by decide +kernel
theorem dX9_cancel_11 : decode cX9_cancel 11 = .ok (.getfield 22, 3) := by decide +kernel
theorem dX9_cancel_14 : decode cX9_cancel 14 = .ok (.aload_n 0, 1) := by decide +kernel
theorem dX9_cancel_15 : decode cX9_cancel 15 = .ok (.getfield 10, 3) := by decide +kernel
theorem dX9_cancel_18 : decode cX9_cancel 18 = .ok (.invokevirtual 67, 3) := by decide +kernel
theorem dX9_cancel_21 : decode cX9_cancel 21 = .ok (.aload_n 0, 1) := by decide +kernel
theorem dX9_cancel_22 : decode cX9_cancel 22 = .ok (.getfield 10, 3) := by decide +kernel
theorem dX9_cancel_25 : decode cX9_cancel 25 = .ok (.getfield 96, 3) := by decide +kernel
theorem dX9_cancel_28 : decode cX9_cancel 28 = .ok (.iload_n 1, 1) := by decide +kernel
theorem dX9_cancel_29 : decode cX9_cancel 29 = .ok (.iconst 3, 1) := by decide +kernel
theorem dX9_cancel_30 : decode cX9_cancel 30 = .ok (.aload_n 0, 1) := by decide +kernel
theorem dX9_cancel_31 : decode cX9_cancel 31 = .ok (.getfield 10, 3) := by decide +kernel
theorem dX9_cancel_34 : decode cX9_cancel 34 = .ok (.getfield 110, 3) := by decide +kernel
theorem dX9_cancel_37 : decode cX9_cancel 37 = .ok (.invokevirtual 306, 3) := by decide +kernel
theorem dX9_cancel_40 : decode cX9_cancel 40 = .ok (.aload_n 0, 1) := by decide +kernel
theorem dX9_cancel_41 : decode cX9_cancel 41 = .ok (.getfield 10, 3) := by decide +kernel
theorem dX9_cancel_44 : decode cX9_cancel 44 = .ok (.invokevirtual 74, 3) := by decide +kernel
theorem dX9_cancel_47 : decode cX9_cancel 47 = .ok (.aload_n 0, 1) := by decide +kernel
theorem dX9_cancel_48 : decode cX9_cancel 48 = .ok (.getfield 10, 3) := by decide +kernel
theorem dX9_cancel_51 : decode cX9_cancel 51 = .ok (.getfield 96, 3) := by decide +kernel
theorem dX9_cancel_54 : decode cX9_cancel 54 = .ok (.getfield 274, 3) := by decide +kernel
theorem dX9_cancel_57 : decode cX9_cancel 57 = .ok (.iload_n 1, 1) := by decide +kernel
theorem dX9_cancel_58 : decode cX9_cancel 58 = .ok (.iaload, 1) := by decide +kernel
theorem dX9_cancel_59 : decode cX9_cancel 59 = .ok (.ireturn, 1) := by decide +kernel
theorem dX9_setUp_0 : decode cX9_setUp 0 = .ok (.aload_n 0, 1) := by decide +kernel
theorem dX9_setUp_1 : decode cX9_setUp 1 = .ok (.iload_n 1, 1) := by decide +kernel
theorem dX9_setUp_2 : decode cX9_setUp 2 = .ok (.invokevirtual 248, 3) := by decide +kernel
theorem dX9_setUp_5 : decode cX9_setUp 5 = .ok (.aload_n 0, 1) := by decide +kernel
theorem dX9_setUp_6 : decode cX9_setUp 6 = .ok (.getfield 22, 3) := by decide +kernel
theorem dX9_setUp_9 : decode cX9_setUp 9 = .ok (.aload_n 0, 1) := by decide +kernel
theorem dX9_setUp_10 : decode cX9_setUp 10 = .ok (.getfield 10, 3) := by decide +kernel
theorem dX9_setUp_13 : decode cX9_setUp 13 = .ok (.invokevirtual 67, 3) := by decide +kernel
theorem dX9_setUp_16 : decode cX9_setUp 16 = .ok (.aload_n 0, 1) := by decide +kernel
theorem dX9_setUp_17 : decode cX9_setUp 17 = .ok (.getfield 10, 3) := by decide +kernel
theorem dX9_setUp_20 : decode cX9_setUp 20 = .ok (.getfield 125, 3) := by decide +kernel
theorem dX9_setUp_23 : decode cX9_setUp 23 = .ok (.istore_n 3, 1) := by decide +kernel
theorem dX9_setUp_24 : decode cX9_setUp 24 = .ok (.aload_n 0, 1) := by decide +kernel
theorem dX9_setUp_25 : decode cX9_setUp 25 = .ok (.getfield 10, 3) := by decide +kernel
theorem dX9_setUp_28 : decode cX9_setUp 28 = .ok (.iload_n 1, 1) := by decide +kernel
theorem dX9_setUp_29 : decode cX9_setUp 29 = .ok (.iload_n 2, 1) := by decide +kernel
theorem dX9_setUp_30 : decode cX9_setUp 30 = .ok (.invokevirtual 309, 3) := by decide +kernel
theorem dX9_setUp_33 : decode cX9_setUp 33 = .ok (.aload_n 0, 1) := by decide +kernel
theorem dX9_setUp_34 : decode cX9_setUp 34 = .ok (.getfield 10, 3) := by decide +kernel
theorem dX9_setUp_37 : decode cX9_setUp 37 = .ok (.getfield 125, 3) := by decide +kernel
theorem dX9_setUp_40 : decode cX9_setUp 40 = .ok (.iload_n 3, 1) := by decide +kernel
theorem dX9_setUp_41 : decode cX9_setUp 41 = .ok (.isub, 1) := by decide +kernel
theorem dX9_setUp_42 : decode cX9_setUp 42 = .ok (.ireturn, 1) := by decide +kernel
theorem dX9_set_0 : decode cX9_set 0 = .ok (.iload_n 1, 1) := by decide +kernel
theorem dX9_set_1 : decode cX9_set 1 = .ok (.ifCond .lt 8, 3) := by decide +kernel
theorem dX9_set_4 : decode cX9_set 4 = .ok (.iload_n 1, 1) := by decide +kernel
theorem dX9_set_5 : decode cX9_set 5 = .ok (.iconst 3, 1) := by decide +kernel
theorem dX9_set_6 : decode cX9_set 6 = .ok (.if_icmp .lt 14, 3) := by decide +kernel
theorem dX9_set_9 : decode cX9_set 9 = .ok (.new 55, 3) := by decide +kernel
theorem dX9_set_12 : decode cX9_set 12 = .ok (.dup, 1) := by decide +kernel
theorem dX9_set_13 : decode cX9_set 13 = .ok (.ldc_w 313, 3) := by decide +kernel
theorem dX9_set_16 : decode cX9_set 16 = .ok (.invokespecial 59, 3) := by decide +kernel
theorem dX9_set_19 : decode cX9_set 19 = .ok (.athrow, 1) := by decide +kernel
theorem dX9_set_20 : decode cX9_set 20 = .ok (.iload_n 2, 1) := by decide +kernel
theorem dX9_set_21 : decode cX9_set 21 = .ok (.getstatic 315, 3) := by decide +kernel
theorem dX9_set_24 : decode cX9_set 24 = .ok (.iload_n 1, 1) := by decide +kernel
theorem dX9_set_25 : decode cX9_set 25 = .ok (.iaload, 1) := by decide +kernel
theorem dX9_set_26 : decode cX9_set 26 = .ok (.getstatic 318, 3) := by decide +kernel
theorem dX9_set_29 : decode cX9_set 29 = .ok (.iload_n 1, 1) := by decide +kernel
theorem dX9_set_30 : decode cX9_set 30 = .ok (.iaload, 1) := by decide +kernel
theorem dX9_set_31 : decode cX9_set 31 = .ok (.invokestatic 175, 3) := by decide +kernel
theorem dX9_set_34 : decode cX9_set 34 = .ok (.aload_n 0, 1) := by decide +kernel
theorem dX9_set_35 : decode cX9_set 35 = .ok (.getfield 22, 3) := by decide +kernel
theorem dX9_set_38 : decode cX9_set 38 = .ok (.aload_n 0, 1) := by decide +kernel
theorem dX9_set_39 : decode cX9_set 39 = .ok (.getfield 10, 3) := by decide +kernel
theorem dX9_set_42 : decode cX9_set 42 = .ok (.invokevirtual 67, 3) := by decide +kernel
theorem dX9_set_45 : decode cX9_set 45 = .ok (.aload_n 0, 1) := by decide +kernel
theorem dX9_set_46 : decode cX9_set 46 = .ok (.getfield 10, 3) := by decide +kernel
theorem dX9_set_49 : decode cX9_set 49 = .ok (.getfield 113, 3) := by decide +kernel
theorem dX9_set_52 : decode cX9_set 52 = .ok (.iload_n 1, 1) := by decide +kernel
theorem dX9_set_53 : decode cX9_set 53 = .ok (.iaload, 1) := by decide +kernel
theorem dX9_set_54 : decode cX9_set 54 = .ok (.istore_n 3, 1) := by decide +kernel
theorem dX9_set_55 : decode cX9_set 55 = .ok (.aload_n 0, 1) := by decide +kernel
theorem dX9_set_56 : decode cX9_set 56 = .ok (.getfield 10, 3) := by decide +kernel
theorem dX9_set_59 : decode cX9_set 59 = .ok (.getfield 113, 3) := by decide +kernel
theorem dX9_set_62 : decode cX9_set 62 = .ok (.iload_n 1, 1) := by decide +kernel
theorem dX9_set_63 : decode cX9_set 63 = .ok (.iload_n 2, 1) := by decide +kernel
theorem dX9_set_64 : decode cX9_set 64 = .ok (.iastore, 1) := by decide +kernel
theorem dX9_set_65 : decode cX9_set 65 = .ok (.iload_n 3, 1) := by decide +kernel
theorem dX9_set_66 : decode cX9_set 66 = .ok (.ireturn, 1) := by decide +kernel
theorem dX9_tick_0 : decode cX9_tick 0 = .ok (.iload_n 1, 1) := by decide +kernel
theorem dX9_tick_1 : decode cX9_tick 1 = .ok (.iconst 1, 1) := by decide +kernel
theorem dX9_tick_2 : decode cX9_tick 2 = .ok (.bipush 60, 2) := by decide +kernel
theorem dX9_tick_4 : decode cX9_tick 4 = .ok (.invokestatic 175, 3) := by decide +kernel
theorem dX9_tick_7 : decode cX9_tick 7 = .ok (.aload_n 0, 1) := by decide +kernel
theorem dX9_tick_8 : decode cX9_tick 8 = .ok (.getfield 10, 3) := by decide +kernel
theorem dX9_tick_11 : decode cX9_tick 11 = .ok (.getfield 110, 3) := by decide +kernel
theorem dX9_tick_14 : decode cX9_tick 14 = .ok (.sipush 9999, 3) := by decide +kernel
theorem dX9_tick_17 : decode cX9_tick 17 = .ok (.iload_n 1, 1) := by decide +kernel
theorem dX9_tick_18 : decode cX9_tick 18 = .ok (.isub, 1) := by decide +kernel
theorem dX9_tick_19 : decode cX9_tick 19 = .ok (.if_icmp .le 14, 3) := by decide +kernel
theorem dX9_tick_22 : decode cX9_tick 22 = .ok (.new 44, 3) := by decide +kernel
theorem dX9_tick_25 : decode cX9_tick 25 = .ok (.dup, 1) := by decide +kernel
theorem dX9_tick_26 : decode cX9_tick 26 = .ok (.ldc_w 321, 3) := by decide +kernel
theorem dX9_tick_29 : decode cX9_tick 29 = .ok (.invokespecial 48, 3) := by decide +kernel
theorem dX9_tick_32 : decode cX9_tick 32 = .ok (.athrow, 1) := by decide +kernel
theorem dX9_tick_33 : decode cX9_tick 33 = .ok (.aload_n 0, 1) := by decide +kernel
theorem dX9_tick_34 : decode cX9_tick 34 = .ok (.getfield 22, 3) := by decide +kernel
theorem dX9_tick_37 : decode cX9_tick 37 = .ok (.aload_n 0, 1) := by decide +kernel
theorem dX9_tick_38 : decode cX9_tick 38 = .ok (.getfield 10, 3) := by decide +kernel
theorem dX9_tick_41 : decode cX9_tick 41 = .ok (.invokevirtual 67, 3) := by decide +kernel
theorem dX9_tick_44 : decode cX9_tick 44 = .ok (.aload_n 0, 1) := by decide +kernel
theorem dX9_tick_45 : decode cX9_tick 45 = .ok (.getfield 10, 3) := by decide +kernel
theorem dX9_tick_48 : decode cX9_tick 48 = .ok (.getfield 96, 3) := by decide +kernel
theorem dX9_tick_51 : decode cX9_tick 51 = .ok (.iconst 2, 1) := by decide +kernel
theorem dX9_tick_52 : decode cX9_tick 52 = .ok (.invokevirtual 117, 3) := by decide +kernel
theorem dX9_tick_55 : decode cX9_tick 55 = .ok (.istore_n 2, 1) := by decide +kernel
theorem dX9_tick_56 : decode cX9_tick 56 = .ok (.iconst 0, 1) := by decide +kernel
theorem dX9_tick_57 : decode cX9_tick 57 = .ok (.istore_n 3, 1) := by decide +kernel
theorem dX9_tick_58 : decode cX9_tick 58 = .ok (.iload_n 3, 1) := by decide +kernel
theorem dX9_tick_59 : decode cX9_tick 59 = .ok (.iload_n 1, 1) := by decide +kernel
theorem dX9_tick_60 : decode cX9_tick 60 = .ok (.if_icmp .ge 16, 3) := by decide +kernel
theorem dX9_tick_63 : decode cX9_tick 63 = .ok (.aload_n 0, 1) := by decide +kernel
theorem dX9_tick_64 : decode cX9_tick 64 = .ok (.getfield 10, 3) := by decide +kernel
theorem dX9_tick_67 : decode cX9_tick 67 = .ok (.invokevirtual 323, 3) := by decide +kernel
theorem dX9_tick_70 : decode cX9_tick 70 = .ok (.iinc 3 1, 3) := by decide +kernel
theorem dX9_tick_73 : decode cX9_tick 73 = .ok (.goto (-15), 3) := by decide +kernel
theorem dX9_tick_76 : decode cX9_tick 76 = .ok (.aload_n 0, 1) := by decide +kernel
theorem dX9_tick_77 : decode cX9_tick 77 = .ok (.getfield 10, 3) := by decide +kernel
theorem dX9_tick_80 : decode cX9_tick 80 = .ok (.getfield 96, 3) := by decide +kernel
theorem dX9_tick_83 : decode cX9_tick 83 = .ok (.iconst 2, 1) := by decide +kernel
theorem dX9_tick_84 : decode cX9_tick 84 = .ok (.invokevirtual 117, 3) := by decide +kernel
theorem dX9_tick_87 : decode cX9_tick 87 = .ok (.iload_n 2, 1) := by decide +kernel
theorem dX9_tick_88 : decode cX9_tick 88 = .ok (.isub, 1) := by decide +kernel
theorem dX9_tick_89 : decode cX9_tick 89 = .ok (.ireturn, 1) := by decide +kernel
theorem dX9_finishedIn_0 : decode cX9_finishedIn 0 = .ok (.aload_n 0, 1) := by decide +kernel
theorem dX9_finishedIn_1 : decode cX9_finishedIn 1 = .ok (.iload_n 1, 1) := by decide +kernel
theorem dX9_finishedIn_2 : decode cX9_finishedIn 2 = .ok (.invokevirtual 265, 3) := by decide +kernel
theorem dX9_finishedIn_5 : decode cX9_finishedIn 5 = .ok (.aload_n 0, 1) := by decide +kernel
theorem dX9_finishedIn_6 : decode cX9_finishedIn 6 = .ok (.iload_n 1, 1) := by decide +kernel
theorem dX9_finishedIn_7 : decode cX9_finishedIn 7 = .ok (.invokevirtual 303, 3) := by decide +kernel
theorem dX9_finishedIn_10 : decode cX9_finishedIn 10 = .ok (.aload_n 0, 1) := by decide +kernel
theorem dX9_finishedIn_11 : decode cX9_finishedIn 11 = .ok (.getfield 16, 3) := by decide +kernel
theorem dX9_finishedIn_14 : decode cX9_finishedIn 14 = .ok (.aload_n 0, 1) := by decide +kernel
theorem dX9_finishedIn_15 : decode cX9_finishedIn 15 = .ok (.getfield 10, 3) := by decide +kernel
theorem dX9_finishedIn_18 : decode cX9_finishedIn 18 = .ok (.invokevirtual 71, 3) := by decide +kernel
theorem dX9_finishedIn_21 : decode cX9_finishedIn 21 = .ok (.iconst 1, 1) := by decide +kernel
theorem dX9_finishedIn_22 : decode cX9_finishedIn 22 = .ok (.istore_n 2, 1) := by decide +kernel
theorem dX9_finishedIn_23 : decode cX9_finishedIn 23 = .ok (.iload_n 2, 1) := by decide +kernel
theorem dX9_finishedIn_24 : decode cX9_finishedIn 24 = .ok (.sipush 400, 3) := by decide +kernel
theorem dX9_finishedIn_27 : decode cX9_finishedIn 27 = .ok (.if_icmp .gt 34, 3) := by decide +kernel
theorem dX9_finishedIn_30 : decode cX9_finishedIn 30 = .ok (.aload_n 0, 1) := by decide +kernel
theorem dX9_finishedIn_31 : decode cX9_finishedIn 31 = .ok (.getfield 16, 3) := by decide +kernel
theorem dX9_finishedIn_34 : decode cX9_finishedIn 34 = .ok (.invokevirtual 323, 3) := by decide +kernel
theorem dX9_finishedIn_37 : decode cX9_finishedIn 37 = .ok (.aload_n 0, 1) := by decide +kernel
theorem dX9_finishedIn_38 : decode cX9_finishedIn 38 = .ok (.getfield 16, 3) := by decide +kernel
theorem dX9_finishedIn_41 : decode cX9_finishedIn 41 = .ok (.getfield 96, 3) := by decide +kernel
theorem dX9_finishedIn_44 : decode cX9_finishedIn 44 = .ok (.getfield 277, 3) := by decide +kernel
theorem dX9_finishedIn_47 : decode cX9_finishedIn 47 = .ok (.iload_n 1, 1) := by decide +kernel
theorem dX9_finishedIn_48 : decode cX9_finishedIn 48 = .ok (.iaload, 1) := by decide +kernel
theorem dX9_finishedIn_49 : decode cX9_finishedIn 49 = .ok (.iconst 2, 1) := by decide +kernel
theorem dX9_finishedIn_50 : decode cX9_finishedIn 50 = .ok (.if_icmp .ne 5, 3) := by decide +kernel
theorem dX9_finishedIn_53 : decode cX9_finishedIn 53 = .ok (.iload_n 2, 1) := by decide +kernel
theorem dX9_finishedIn_54 : decode cX9_finishedIn 54 = .ok (.ireturn, 1) := by decide +kernel
theorem dX9_finishedIn_55 : decode cX9_finishedIn 55 = .ok (.iinc 2 1, 3) := by decide +kernel
theorem dX9_finishedIn_58 : decode cX9_finishedIn 58 = .ok (.goto (-35), 3) := by decide +kernel
theorem dX9_finishedIn_61 : decode cX9_finishedIn 61 = .ok (.iconst (-1), 1) := by decide +kernel
theorem dX9_finishedIn_62 : decode cX9_finishedIn 62 = .ok (.ireturn, 1) := by decide +kernel
theorem dX9_ahead_0 : decode cX9_ahead 0 = .ok (.iload_n 1, 1) := by decide +kernel
theorem dX9_ahead_1 : decode cX9_ahead 1 = .ok (.iconst 1, 1) := by decide +kernel
theorem dX9_ahead_2 : decode cX9_ahead 2 = .ok (.bipush 100, 2) := by decide +kernel
theorem dX9_ahead_4 : decode cX9_ahead 4 = .ok (.invokestatic 175, 3) := by decide +kernel
theorem dX9_ahead_7 : decode cX9_ahead 7 = .ok (.iload_n 2, 1) := by decide +kernel
theorem dX9_ahead_8 : decode cX9_ahead 8 = .ok (.iconst 0, 1) := by decide +kernel
theorem dX9_ahead_9 : decode cX9_ahead 9 = .ok (.iconst 3, 1) := by decide +kernel
theorem dX9_ahead_10 : decode cX9_ahead 10 = .ok (.invokestatic 175, 3) := by decide +kernel
theorem dX9_ahead_13 : decode cX9_ahead 13 = .ok (.aload_n 0, 1) := by decide +kernel
theorem dX9_ahead_14 : decode cX9_ahead 14 = .ok (.getfield 16, 3) := by decide +kernel
theorem dX9_ahead_17 : decode cX9_ahead 17 = .ok (.aload_n 0, 1) := by decide +kernel
theorem dX9_ahead_18 : decode cX9_ahead 18 = .ok (.getfield 10, 3) := by decide +kernel
theorem dX9_ahead_21 : decode cX9_ahead 21 = .ok (.invokevirtual 71, 3) := by decide +kernel
theorem dX9_ahead_24 : decode cX9_ahead 24 = .ok (.iconst 0, 1) := by decide +kernel
theorem dX9_ahead_25 : decode cX9_ahead 25 = .ok (.istore_n 3, 1) := by decide +kernel
theorem dX9_ahead_26 : decode cX9_ahead 26 = .ok (.iload_n 3, 1) := by decide +kernel
theorem dX9_ahead_27 : decode cX9_ahead 27 = .ok (.iload_n 1, 1) := by decide +kernel
theorem dX9_ahead_28 : decode cX9_ahead 28 = .ok (.if_icmp .ge 16, 3) := by decide +kernel
theorem dX9_ahead_31 : decode cX9_ahead 31 = .ok (.aload_n 0, 1) := by decide +kernel
theorem dX9_ahead_32 : decode cX9_ahead 32 = .ok (.getfield 16, 3) := by decide +kernel
theorem dX9_ahead_35 : decode cX9_ahead 35 = .ok (.invokevirtual 323, 3) := by decide +kernel
theorem dX9_ahead_38 : decode cX9_ahead 38 = .ok (.iinc 3 1, 3) := by decide +kernel
theorem dX9_ahead_41 : decode cX9_ahead 41 = .ok (.goto (-15), 3) := by decide +kernel
theorem dX9_ahead_44 : decode cX9_ahead 44 = .ok (.iload_n 2, 1) := by decide +kernel
theorem dX9_ahead_45 : decode cX9_ahead 45 = .ok (.tableswitch 59 0 2 #[27, 39, 51], 27) := by decide +kernel
theorem dX9_ahead_72 : decode cX9_ahead 72 = .ok (.aload_n 0, 1) := by decide +kernel
theorem dX9_ahead_73 : decode cX9_ahead 73 = .ok (.getfield 16, 3) := by decide +kernel
theorem dX9_ahead_76 : decode cX9_ahead 76 = .ok (.getfield 96, 3) := by decide +kernel
theorem dX9_ahead_79 : decode cX9_ahead 79 = .ok (.iconst 2, 1) := by decide +kernel
theorem dX9_ahead_80 : decode cX9_ahead 80 = .ok (.invokevirtual 117, 3) := by decide +kernel
theorem dX9_ahead_83 : decode cX9_ahead 83 = .ok (.ireturn, 1) := by decide +kernel
theorem dX9_ahead_84 : decode cX9_ahead 84 = .ok (.aload_n 0, 1) := by decide +kernel
theorem dX9_ahead_85 : decode cX9_ahead 85 = .ok (.getfield 16, 3) := by decide +kernel
theorem dX9_ahead_88 : decode cX9_ahead 88 = .ok (.getfield 96, 3) := by decide +kernel
theorem dX9_ahead_91 : decode cX9_ahead 91 = .ok (.iconst 0, 1) := by decide +kernel
theorem dX9_ahead_92 : decode cX9_ahead 92 = .ok (.invokevirtual 117, 3) := by decide +kernel
theorem dX9_ahead_95 : decode cX9_ahead 95 = .ok (.ireturn, 1) := by decide +kernel
theorem dX9_ahead_96 : decode cX9_ahead 96 = .ok (.aload_n 0, 1) := by decide +kernel
theorem dX9_ahead_97 : decode cX9_ahead 97 = .ok (.getfield 16, 3) := by decide +kernel
theorem dX9_ahead_100 : decode cX9_ahead 100 = .ok (.getfield 125, 3) := by decide +kernel
theorem dX9_ahead_103 : decode cX9_ahead 103 = .ok (.ireturn, 1) := by decide +kernel
theorem dX9_ahead_104 : decode cX9_ahead 104 = .ok (.aload_n 0, 1) := by decide +kernel
theorem dX9_ahead_105 : decode cX9_ahead 105 = .ok (.getfield 16, 3) := by decide +kernel
theorem dX9_ahead_108 : decode cX9_ahead 108 = .ok (.invokevirtual 121, 3) := by decide +kernel
theorem dX9_ahead_111 : decode cX9_ahead 111 = .ok (.ireturn, 1) := by decide +kernel
theorem dX9_drift_0 : decode cX9_drift 0 = .ok (.aload_n 0, 1) := by decide +kernel
theorem dX9_drift_1 : decode cX9_drift 1 = .ok (.getfield 10, 3) := by decide +kernel
theorem dX9_drift_4 : decode cX9_drift 4 = .ok (.getfield 77, 3) := by decide +kernel
theorem dX9_drift_7 : decode cX9_drift 7 = .ok (.astore_n 1, 1) := by decide +kernel
theorem dX9_drift_8 : decode cX9_drift 8 = .ok (.aload_n 1, 1) := by decide +kernel
theorem dX9_drift_9 : decode cX9_drift 9 = .ok (.iconst 0, 1) := by decide +kernel
theorem dX9_drift_10 : decode cX9_drift 10 = .ok (.aload_n 1, 1) := by decide +kernel
theorem dX9_drift_11 : decode cX9_drift 11 = .ok (.getfield 160, 3) := by decide +kernel
theorem dX9_drift_14 : decode cX9_drift 14 = .ok (.invokevirtual 163, 3) := by decide +kernel
theorem dX9_drift_17 : decode cX9_drift 17 = .ok (.istore_n 2, 1) := by decide +kernel
theorem dX9_drift_18 : decode cX9_drift 18 = .ok (.iconst 0, 1) := by decide +kernel
theorem dX9_drift_19 : decode cX9_drift 19 = .ok (.istore_n 3, 1) := by decide +kernel
theorem dX9_drift_20 : decode cX9_drift 20 = .ok (.iconst 0, 1) := by decide +kernel
theorem dX9_drift_21 : decode cX9_drift 21 = .ok (.istore 4, 2) := by decide +kernel
theorem dX9_drift_23 : decode cX9_drift 23 = .ok (.iload 4, 2) := by decide +kernel
theorem dX9_drift_25 : decode cX9_drift 25 = .ok (.aload_n 1, 1) := by decide +kernel
theorem dX9_drift_26 : decode cX9_drift 26 = .ok (.getfield 81, 3) := by decide +kernel
theorem dX9_drift_29 : decode cX9_drift 29 = .ok (.if_icmp .ge 31, 3) := by decide +kernel
theorem dX9_drift_32 : decode cX9_drift 32 = .ok (.aload_n 1, 1) := by decide +kernel
theorem dX9_drift_33 : decode cX9_drift 33 = .ok (.iload 4, 2) := by decide +kernel
theorem dX9_drift_35 : decode cX9_drift 35 = .ok (.invokevirtual 326, 3) := by decide +kernel
theorem dX9_drift_38 : decode cX9_drift 38 = .ok (.ifCond .eq 16, 3) := by decide +kernel
theorem dX9_drift_41 : decode cX9_drift 41 = .ok (.iload_n 3, 1) := by decide +kernel
theorem dX9_drift_42 : decode cX9_drift 42 = .ok (.aload_n 1, 1) := by decide +kernel
theorem dX9_drift_43 : decode cX9_drift 43 = .ok (.iload 4, 2) := by decide +kernel
theorem dX9_drift_45 : decode cX9_drift 45 = .ok (.iload_n 2, 1) := by decide +kernel
theorem dX9_drift_46 : decode cX9_drift 46 = .ok (.invokevirtual 329, 3) := by decide +kernel
theorem dX9_drift_49 : decode cX9_drift 49 = .ok (.invokestatic 332, 3) := by decide +kernel
theorem dX9_drift_52 : decode cX9_drift 52 = .ok (.iadd, 1) := by decide +kernel
theorem dX9_drift_53 : decode cX9_drift 53 = .ok (.istore_n 3, 1) := by decide +kernel
theorem dX9_drift_54 : decode cX9_drift 54 = .ok (.iinc 4 1, 3) := by decide +kernel
theorem dX9_drift_57 : decode cX9_drift 57 = .ok (.goto (-34), 3) := by decide +kernel
theorem dX9_drift_60 : decode cX9_drift 60 = .ok (.iload_n 3, 1) := by decide +kernel
theorem dX9_drift_61 : decode cX9_drift 61 = .ok (.ireturn, 1) := by decide +kernel
theorem dX9_part_0 : decode cX9_part 0 = .ok (.aload_n 0, 1) := by decide +kernel
theorem dX9_part_1 : decode cX9_part 1 = .ok (.iload_n 1, 1) := by decide +kernel
theorem dX9_part_2 : decode cX9_part 2 = .ok (.invokevirtual 133, 3) := by decide +kernel
theorem dX9_part_5 : decode cX9_part 5 = .ok (.aload_n 0, 1) := by decide +kernel
theorem dX9_part_6 : decode cX9_part 6 = .ok (.getfield 10, 3) := by decide +kernel
theorem dX9_part_9 : decode cX9_part 9 = .ok (.getfield 77, 3) := by decide +kernel
theorem dX9_part_12 : decode cX9_part 12 = .ok (.astore_n 2, 1) := by decide +kernel
theorem dX9_part_13 : decode cX9_part 13 = .ok (.aload_n 2, 1) := by decide +kernel
theorem dX9_part_14 : decode cX9_part 14 = .ok (.iconst 0, 1) := by decide +kernel
theorem dX9_part_15 : decode cX9_part 15 = .ok (.aload_n 2, 1) := by decide +kernel
theorem dX9_part_16 : decode cX9_part 16 = .ok (.getfield 160, 3) := by decide +kernel
theorem dX9_part_19 : decode cX9_part 19 = .ok (.invokevirtual 163, 3) := by decide +kernel
theorem dX9_part_22 : decode cX9_part 22 = .ok (.istore_n 3, 1) := by decide +kernel
theorem dX9_part_23 : decode cX9_part 23 = .ok (.iload_n 3, 1) := by decide +kernel
theorem dX9_part_24 : decode cX9_part 24 = .ok (.ifCond .ne 14, 3) := by decide +kernel
theorem dX9_part_27 : decode cX9_part 27 = .ok (.new 294, 3) := by decide +kernel
theorem dX9_part_30 : decode cX9_part 30 = .ok (.dup, 1) := by decide +kernel
theorem dX9_part_31 : decode cX9_part 31 = .ok (.ldc_w 337, 3) := by decide +kernel
theorem dX9_part_34 : decode cX9_part 34 = .ok (.invokespecial 298, 3) := by decide +kernel
theorem dX9_part_37 : decode cX9_part 37 = .ok (.athrow, 1) := by decide +kernel
theorem dX9_part_38 : decode cX9_part 38 = .ok (.aload_n 2, 1) := by decide +kernel
theorem dX9_part_39 : decode cX9_part 39 = .ok (.iload_n 1, 1) := by decide +kernel
theorem dX9_part_40 : decode cX9_part 40 = .ok (.aload_n 2, 1) := by decide +kernel
theorem dX9_part_41 : decode cX9_part 41 = .ok (.getfield 160, 3) := by decide +kernel
theorem dX9_part_44 : decode cX9_part 44 = .ok (.invokevirtual 163, 3) := by decide +kernel
theorem dX9_part_47 : decode cX9_part 47 = .ok (.i2f, 1) := by decide +kernel
theorem dX9_part_48 : decode cX9_part 48 = .ok (.iload_n 3, 1) := by decide +kernel
theorem dX9_part_49 : decode cX9_part 49 = .ok (.i2f, 1) := by decide +kernel
theorem dX9_part_50 : decode cX9_part 50 = .ok (.fdiv, 1) := by decide +kernel
theorem dX9_part_51 : decode cX9_part 51 = .ok (.freturn, 1) := by decide +kernel
theorem dX9_neediest_0 : decode cX9_neediest 0 = .ok (.aload_n 0, 1) := by decide +kernel
theorem dX9_neediest_1 : decode cX9_neediest 1 = .ok (.getfield 10, 3) := by decide +kernel
theorem dX9_neediest_4 : decode cX9_neediest 4 = .ok (.getfield 77, 3) := by decide +kernel
theorem dX9_neediest_7 : decode cX9_neediest 7 = .ok (.astore_n 1, 1) := by decide +kernel
theorem dX9_neediest_8 : decode cX9_neediest 8 = .ok (.aload_n 1, 1) := by decide +kernel
theorem dX9_neediest_9 : decode cX9_neediest 9 = .ok (.iconst 0, 1) := by decide +kernel
theorem dX9_neediest_10 : decode cX9_neediest 10 = .ok (.aload_n 1, 1) := by decide +kernel
theorem dX9_neediest_11 : decode cX9_neediest 11 = .ok (.getfield 160, 3) := by decide +kernel
theorem dX9_neediest_14 : decode cX9_neediest 14 = .ok (.invokevirtual 163, 3) := by decide +kernel
theorem dX9_neediest_17 : decode cX9_neediest 17 = .ok (.istore_n 2, 1) := by decide +kernel
theorem dX9_neediest_18 : decode cX9_neediest 18 = .ok (.iconst (-1), 1) := by decide +kernel
theorem dX9_neediest_19 : decode cX9_neediest 19 = .ok (.istore_n 3, 1) := by decide +kernel
theorem dX9_neediest_20 : decode cX9_neediest 20 = .ok (.iconst 0, 1) := by decide +kernel
theorem dX9_neediest_21 : decode cX9_neediest 21 = .ok (.istore 4, 2) := by decide +kernel
theorem dX9_neediest_23 : decode cX9_neediest 23 = .ok (.iconst 0, 1) := by decide +kernel
theorem dX9_neediest_24 : decode cX9_neediest 24 = .ok (.istore 5, 2) := by decide +kernel
theorem dX9_neediest_26 : decode cX9_neediest 26 = .ok (.iload 5, 2) := by decide +kernel
theorem dX9_neediest_28 : decode cX9_neediest 28 = .ok (.aload_n 1, 1) := by decide +kernel
theorem dX9_neediest_29 : decode cX9_neediest 29 = .ok (.getfield 81, 3) := by decide +kernel
theorem dX9_neediest_32 : decode cX9_neediest 32 = .ok (.if_icmp .ge 47, 3) := by decide +kernel
theorem dX9_neediest_35 : decode cX9_neediest 35 = .ok (.aload_n 1, 1) := by decide +kernel
theorem dX9_neediest_36 : decode cX9_neediest 36 = .ok (.iload 5, 2) := by decide +kernel
theorem dX9_neediest_38 : decode cX9_neediest 38 = .ok (.invokevirtual 326, 3) := by decide +kernel
theorem dX9_neediest_41 : decode cX9_neediest 41 = .ok (.ifCond .eq 32, 3) := by decide +kernel
theorem dX9_neediest_44 : decode cX9_neediest 44 = .ok (.iload_n 3, 1) := by decide +kernel
theorem dX9_neediest_45 : decode cX9_neediest 45 = .ok (.iconst (-1), 1) := by decide +kernel
theorem dX9_neediest_46 : decode cX9_neediest 46 = .ok (.if_icmp .eq 15, 3) := by decide +kernel
theorem dX9_neediest_49 : decode cX9_neediest 49 = .ok (.aload_n 1, 1) := by decide +kernel
theorem dX9_neediest_50 : decode cX9_neediest 50 = .ok (.iload 5, 2) := by decide +kernel
theorem dX9_neediest_52 : decode cX9_neediest 52 = .ok (.iload_n 2, 1) := by decide +kernel
theorem dX9_neediest_53 : decode cX9_neediest 53 = .ok (.invokevirtual 329, 3) := by decide +kernel
theorem dX9_neediest_56 : decode cX9_neediest 56 = .ok (.iload 4, 2) := by decide +kernel
theorem dX9_neediest_58 : decode cX9_neediest 58 = .ok (.if_icmp .le 15, 3) := by decide +kernel
theorem dX9_neediest_61 : decode cX9_neediest 61 = .ok (.iload 5, 2) := by decide +kernel
theorem dX9_neediest_63 : decode cX9_neediest 63 = .ok (.istore_n 3, 1) := by decide +kernel
theorem dX9_neediest_64 : decode cX9_neediest 64 = .ok (.aload_n 1, 1) := by decide +kernel
theorem dX9_neediest_65 : decode cX9_neediest 65 = .ok (.iload 5, 2) := by decide +kernel
theorem dX9_neediest_67 : decode cX9_neediest 67 = .ok (.iload_n 2, 1) := by decide +kernel
theorem dX9_neediest_68 : decode cX9_neediest 68 = .ok (.invokevirtual 329, 3) := by decide +kernel
theorem dX9_neediest_71 : decode cX9_neediest 71 = .ok (.istore 4, 2) := by decide +kernel
theorem dX9_neediest_73 : decode cX9_neediest 73 = .ok (.iinc 5 1, 3) := by decide +kernel
theorem dX9_neediest_76 : decode cX9_neediest 76 = .ok (.goto (-50), 3) := by decide +kernel
theorem dX9_neediest_79 : decode cX9_neediest 79 = .ok (.iload_n 3, 1) := by decide +kernel
theorem dX9_neediest_80 : decode cX9_neediest 80 = .ok (.ireturn, 1) := by decide +kernel
theorem dX9_writeMachines_0 : decode cX9_writeMachines 0 = .ok (.aload_n 0, 1) := by decide +kernel
theorem dX9_writeMachines_1 : decode cX9_writeMachines 1 = .ok (.getfield 36, 3) := by decide +kernel
theorem dX9_writeMachines_4 : decode cX9_writeMachines 4 = .ok (.invokevirtual 339, 3) := by decide +kernel
theorem dX9_writeMachines_7 : decode cX9_writeMachines 7 = .ok (.iconst 0, 1) := by decide +kernel
theorem dX9_writeMachines_8 : decode cX9_writeMachines 8 = .ok (.istore_n 1, 1) := by decide +kernel
theorem dX9_writeMachines_9 : decode cX9_writeMachines 9 = .ok (.iload_n 1, 1) := by decide +kernel
theorem dX9_writeMachines_10 : decode cX9_writeMachines 10 = .ok (.aload_n 0, 1) := by decide +kernel
theorem dX9_writeMachines_11 : decode cX9_writeMachines 11 = .ok (.getfield 10, 3) := by decide +kernel
theorem dX9_writeMachines_14 : decode cX9_writeMachines 14 = .ok (.getfield 89, 3) := by decide +kernel
theorem dX9_writeMachines_17 : decode cX9_writeMachines 17 = .ok (.getfield 93, 3) := by decide +kernel
theorem dX9_writeMachines_20 : decode cX9_writeMachines 20 = .ok (.if_icmp .ge 34, 3) := by decide +kernel
theorem dX9_writeMachines_23 : decode cX9_writeMachines 23 = .ok (.iload_n 1, 1) := by decide +kernel
theorem dX9_writeMachines_24 : decode cX9_writeMachines 24 = .ok (.ifCond .le 12, 3) := by decide +kernel
theorem dX9_writeMachines_27 : decode cX9_writeMachines 27 = .ok (.aload_n 0, 1) := by decide +kernel
theorem dX9_writeMachines_28 : decode cX9_writeMachines 28 = .ok (.getfield 36, 3) := by decide +kernel
theorem dX9_writeMachines_31 : decode cX9_writeMachines 31 = .ok (.bipush 32, 2) := by decide +kernel
theorem dX9_writeMachines_33 : decode cX9_writeMachines 33 = .ok (.invokevirtual 342, 3) := by decide +kernel
theorem dX9_writeMachines_36 : decode cX9_writeMachines 36 = .ok (.aload_n 0, 1) := by decide +kernel
theorem dX9_writeMachines_37 : decode cX9_writeMachines 37 = .ok (.getfield 36, 3) := by decide +kernel
theorem dX9_writeMachines_40 : decode cX9_writeMachines 40 = .ok (.aload_n 0, 1) := by decide +kernel
theorem dX9_writeMachines_41 : decode cX9_writeMachines 41 = .ok (.getfield 10, 3) := by decide +kernel
theorem dX9_writeMachines_44 : decode cX9_writeMachines 44 = .ok (.iload_n 1, 1) := by decide +kernel
theorem dX9_writeMachines_45 : decode cX9_writeMachines 45 = .ok (.invokevirtual 343, 3) := by decide +kernel
theorem dX9_writeMachines_48 : decode cX9_writeMachines 48 = .ok (.iinc 1 1, 3) := by decide +kernel
theorem dX9_writeMachines_51 : decode cX9_writeMachines 51 = .ok (.goto (-42), 3) := by decide +kernel
theorem dX9_writeMachines_54 : decode cX9_writeMachines 54 = .ok (.aload_n 0, 1) := by decide +kernel
theorem dX9_writeMachines_55 : decode cX9_writeMachines 55 = .ok (.getfield 36, 3) := by decide +kernel
theorem dX9_writeMachines_58 : decode cX9_writeMachines 58 = .ok (.getfield 347, 3) := by decide +kernel
theorem dX9_writeMachines_61 : decode cX9_writeMachines 61 = .ok (.ireturn, 1) := by decide +kernel
theorem dX9_writtenByte_0 : decode cX9_writtenByte 0 = .ok (.iload_n 1, 1) := by decide +kernel
theorem dX9_writtenByte_1 : decode cX9_writtenByte 1 = .ok (.ifCond .lt 14, 3) := by decide +kernel
theorem dX9_writtenByte_4 : decode cX9_writtenByte 4 = .ok (.iload_n 1, 1) := by decide +kernel
theorem dX9_writtenByte_5 : decode cX9_writtenByte 5 = .ok (.aload_n 0, 1) := by decide +kernel
theorem dX9_writtenByte_6 : decode cX9_writtenByte 6 = .ok (.getfield 36, 3) := by decide +kernel
theorem dX9_writtenByte_9 : decode cX9_writtenByte 9 = .ok (.getfield 347, 3) := by decide +kernel
theorem dX9_writtenByte_12 : decode cX9_writtenByte 12 = .ok (.if_icmp .lt 14, 3) := by decide +kernel
theorem dX9_writtenByte_15 : decode cX9_writtenByte 15 = .ok (.new 214, 3) := by decide +kernel
theorem dX9_writtenByte_18 : decode cX9_writtenByte 18 = .ok (.dup, 1) := by decide +kernel
theorem dX9_writtenByte_19 : decode cX9_writtenByte 19 = .ok (.ldc_w 349, 3) := by decide +kernel
theorem dX9_writtenByte_22 : decode cX9_writtenByte 22 = .ok (.invokespecial 218, 3) := by decide +kernel
theorem dX9_writtenByte_25 : decode cX9_writtenByte 25 = .ok (.athrow, 1) := by decide +kernel
theorem dX9_writtenByte_26 : decode cX9_writtenByte 26 = .ok (.aload_n 0, 1) := by decide +kernel
theorem dX9_writtenByte_27 : decode cX9_writtenByte 27 = .ok (.getfield 36, 3) := by decide +kernel
theorem dX9_writtenByte_30 : decode cX9_writtenByte 30 = .ok (.getfield 351, 3) := by decide +kernel
theorem dX9_writtenByte_33 : decode cX9_writtenByte 33 = .ok (.iload_n 1, 1) := by decide +kernel
theorem dX9_writtenByte_34 : decode cX9_writtenByte 34 = .ok (.baload, 1) := by decide +kernel
theorem dX9_writtenByte_35 : decode cX9_writtenByte 35 = .ok (.ireturn, 1) := by decide +kernel
theorem dX9_undo_0 : decode cX9_undo 0 = .ok (.aload_n 0, 1) := by decide +kernel
theorem dX9_undo_1 : decode cX9_undo 1 = .ok (.getfield 22, 3) := by decide +kernel
theorem dX9_undo_4 : decode cX9_undo 4 = .ok (.getfield 355, 3) := by decide +kernel
theorem dX9_undo_7 : decode cX9_undo 7 = .ok (.ifCond .ne 14, 3) := by decide +kernel
theorem dX9_undo_10 : decode cX9_undo 10 = .ok (.new 44, 3) := by decide +kernel
theorem dX9_undo_13 : decode cX9_undo 13 = .ok (.dup, 1) := by decide +kernel
theorem dX9_undo_14 : decode cX9_undo 14 = .ok (.ldc_w 356, 3) := by decide +kernel
theorem dX9_undo_17 : decode cX9_undo 17 = .ok (.invokespecial 48, 3) := by decide +kernel
theorem dX9_undo_20 : decode cX9_undo 20 = .ok (.athrow, 1) := by decide +kernel
theorem dX9_undo_21 : decode cX9_undo 21 = .ok (.aload_n 0, 1) := by decide +kernel
theorem dX9_undo_22 : decode cX9_undo 22 = .ok (.getfield 22, 3) := by decide +kernel
theorem dX9_undo_25 : decode cX9_undo 25 = .ok (.aload_n 0, 1) := by decide +kernel
theorem dX9_undo_26 : decode cX9_undo 26 = .ok (.getfield 10, 3) := by decide +kernel
theorem dX9_undo_29 : decode cX9_undo 29 = .ok (.invokevirtual 358, 3) := by decide +kernel
theorem dX9_undo_32 : decode cX9_undo 32 = .ok (.aload_n 0, 1) := by decide +kernel
theorem dX9_undo_33 : decode cX9_undo 33 = .ok (.getfield 22, 3) := by decide +kernel
theorem dX9_undo_36 : decode cX9_undo 36 = .ok (.getfield 355, 3) := by decide +kernel
theorem dX9_undo_39 : decode cX9_undo 39 = .ok (.ireturn, 1) := by decide +kernel
theorem dX9_needUser_0 : decode cX9_needUser 0 = .ok (.aload_n 0, 1) := by decide +kernel
theorem dX9_needUser_1 : decode cX9_needUser 1 = .ok (.getfield 10, 3) := by decide +kernel
theorem dX9_needUser_4 : decode cX9_needUser 4 = .ok (.getfield 77, 3) := by decide +kernel
theorem dX9_needUser_7 : decode cX9_needUser 7 = .ok (.iload_n 1, 1) := by decide +kernel
theorem dX9_needUser_8 : decode cX9_needUser 8 = .ok (.invokevirtual 361, 3) := by decide +kernel
theorem dX9_needUser_11 : decode cX9_needUser 11 = .ok (.ifCond .ne 14, 3) := by decide +kernel
theorem dX9_needUser_14 : decode cX9_needUser 14 = .ok (.new 214, 3) := by decide +kernel
theorem dX9_needUser_17 : decode cX9_needUser 17 = .ok (.dup, 1) := by decide +kernel
theorem dX9_needUser_18 : decode cX9_needUser 18 = .ok (.ldc_w 362, 3) := by decide +kernel
theorem dX9_needUser_21 : decode cX9_needUser 21 = .ok (.invokespecial 218, 3) := by decide +kernel
theorem dX9_needUser_24 : decode cX9_needUser 24 = .ok (.athrow, 1) := by decide +kernel
theorem dX9_needUser_25 : decode cX9_needUser 25 = .ok (.return_, 1) := by decide +kernel
theorem dX9_needLeaf_0 : decode cX9_needLeaf 0 = .ok (.aload_n 0, 1) := by decide +kernel
theorem dX9_needLeaf_1 : decode cX9_needLeaf 1 = .ok (.getfield 10, 3) := by decide +kernel
theorem dX9_needLeaf_4 : decode cX9_needLeaf 4 = .ok (.getfield 77, 3) := by decide +kernel
theorem dX9_needLeaf_7 : decode cX9_needLeaf 7 = .ok (.iload_n 1, 1) := by decide +kernel
theorem dX9_needLeaf_8 : decode cX9_needLeaf 8 = .ok (.invokevirtual 326, 3) := by decide +kernel
theorem dX9_needLeaf_11 : decode cX9_needLeaf 11 = .ok (.ifCond .ne 14, 3) := by decide +kernel
theorem dX9_needLeaf_14 : decode cX9_needLeaf 14 = .ok (.new 44, 3) := by decide +kernel
theorem dX9_needLeaf_17 : decode cX9_needLeaf 17 = .ok (.dup, 1) := by decide +kernel
theorem dX9_needLeaf_18 : decode cX9_needLeaf 18 = .ok (.ldc_w 364, 3) := by decide +kernel
theorem dX9_needLeaf_21 : decode cX9_needLeaf 21 = .ok (.invokespecial 48, 3) := by decide +kernel
theorem dX9_needLeaf_24 : decode cX9_needLeaf 24 = .ok (.athrow, 1) := by decide +kernel
theorem dX9_needLeaf_25 : decode cX9_needLeaf 25 = .ok (.return_, 1) := by decide +kernel
theorem dX9_needMachine_0 : decode cX9_needMachine 0 = .ok (.aload_n 0, 1) := by decide +kernel
theorem dX9_needMachine_1 : decode cX9_needMachine 1 = .ok (.getfield 10, 3) := by decide +kernel
theorem dX9_needMachine_4 : decode cX9_needMachine 4 = .ok (.getfield 89, 3) := by decide +kernel
theorem dX9_needMachine_7 : decode cX9_needMachine 7 = .ok (.iload_n 1, 1) := by decide +kernel
theorem dX9_needMachine_8 : decode cX9_needMachine 8 = .ok (.invokevirtual 366, 3) := by decide +kernel
theorem dX9_needMachine_11 : decode cX9_needMachine 11 = .ok (.ifCond .ne 14, 3) := by decide +kernel
theorem dX9_needMachine_14 : decode cX9_needMachine 14 = .ok (.new 214, 3) := by decide +kernel
theorem dX9_needMachine_17 : decode cX9_needMachine 17 = .ok (.dup, 1) := by decide +kernel
theorem dX9_needMachine_18 : decode cX9_needMachine 18 = .ok (.ldc_w 367, 3) := by decide +kernel
theorem dX9_needMachine_21 : decode cX9_needMachine 21 = .ok (.invokespecial 218, 3) := by decide +kernel
theorem dX9_needMachine_24 : decode cX9_needMachine 24 = .ok (.athrow, 1) := by decide +kernel
theorem dX9_needMachine_25 : decode cX9_needMachine 25 = .ok (.return_, 1) := by decide +kernel
theorem dX9_needJob_0 : decode cX9_needJob 0 = .ok (.aload_n 0, 1) := by decide +kernel
theorem dX9_needJob_1 : decode cX9_needJob 1 = .ok (.getfield 10, 3) := by decide +kernel
theorem dX9_needJob_4 : decode cX9_needJob 4 = .ok (.getfield 96, 3) := by decide +kernel
theorem dX9_needJob_7 : decode cX9_needJob 7 = .ok (.iload_n 1, 1) := by decide +kernel
theorem dX9_needJob_8 : decode cX9_needJob 8 = .ok (.invokevirtual 369, 3) := by decide +kernel
theorem dX9_needJob_11 : decode cX9_needJob 11 = .ok (.ifCond .ne 14, 3) := by decide +kernel
theorem dX9_needJob_14 : decode cX9_needJob 14 = .ok (.new 214, 3) := by decide +kernel
theorem dX9_needJob_17 : decode cX9_needJob 17 = .ok (.dup, 1) := by decide +kernel
theorem dX9_needJob_18 : decode cX9_needJob 18 = .ok (.ldc_w 370, 3) := by decide +kernel
theorem dX9_needJob_21 : decode cX9_needJob 21 = .ok (.invokespecial 218, 3) := by decide +kernel
theorem dX9_needJob_24 : decode cX9_needJob 24 = .ok (.athrow, 1) := by decide +kernel
theorem dX9_needJob_25 : decode cX9_needJob 25 = .ok (.return_, 1) := by decide +kernel
theorem dX9_needOpen_0 : decode cX9_needOpen 0 = .ok (.aload_n 0, 1) := by decide +kernel
theorem dX9_needOpen_1 : decode cX9_needOpen 1 = .ok (.getfield 10, 3) := by decide +kernel
theorem dX9_needOpen_4 : decode cX9_needOpen 4 = .ok (.getfield 96, 3) := by decide +kernel
theorem dX9_needOpen_7 : decode cX9_needOpen 7 = .ok (.iload_n 1, 1) := by decide +kernel
theorem dX9_needOpen_8 : decode cX9_needOpen 8 = .ok (.invokevirtual 372, 3) := by decide +kernel
theorem dX9_needOpen_11 : decode cX9_needOpen 11 = .ok (.ifCond .ne 14, 3) := by decide +kernel
theorem dX9_needOpen_14 : decode cX9_needOpen 14 = .ok (.new 44, 3) := by decide +kernel
theorem dX9_needOpen_17 : decode cX9_needOpen 17 = .ok (.dup, 1) := by decide +kernel
theorem dX9_needOpen_18 : decode cX9_needOpen 18 = .ok (.ldc_w 375, 3) := by decide +kernel
theorem dX9_needOpen_21 : decode cX9_needOpen 21 = .ok (.invokespecial 48, 3) := by decide +kernel
theorem dX9_needOpen_24 : decode cX9_needOpen 24 = .ok (.athrow, 1) := by decide +kernel
theorem dX9_needOpen_25 : decode cX9_needOpen 25 = .ok (.return_, 1) := by decide +kernel
theorem dX9_needRange_0 : decode cX9_needRange 0 = .ok (.iload_n 0, 1) := by decide +kernel
theorem dX9_needRange_1 : decode cX9_needRange 1 = .ok (.iload_n 1, 1) := by decide +kernel
theorem dX9_needRange_2 : decode cX9_needRange 2 = .ok (.if_icmp .lt 8, 3) := by decide +kernel
theorem dX9_needRange_5 : decode cX9_needRange 5 = .ok (.iload_n 0, 1) := by decide +kernel
theorem dX9_needRange_6 : decode cX9_needRange 6 = .ok (.iload_n 2, 1) := by decide +kernel
theorem dX9_needRange_7 : decode cX9_needRange 7 = .ok (.if_icmp .le 14, 3) := by decide +kernel
theorem dX9_needRange_10 : decode cX9_needRange 10 = .ok (.new 55, 3) := by decide +kernel
theorem dX9_needRange_13 : decode cX9_needRange 13 = .ok (.dup, 1) := by decide +kernel
theorem dX9_needRange_14 : decode cX9_needRange 14 = .ok (.ldc_w 377, 3) := by decide +kernel
theorem dX9_needRange_17 : decode cX9_needRange 17 = .ok (.invokespecial 59, 3) := by decide +kernel
theorem dX9_needRange_20 : decode cX9_needRange 20 = .ok (.athrow, 1) := by decide +kernel
theorem dX9_needRange_21 : decode cX9_needRange 21 = .ok (.return_, 1) := by decide +kernel
theorem dX9_worthOf_0 : decode cX9_worthOf 0 = .ok (.ldc2_w 379, 3) := by decide +kernel
theorem dX9_worthOf_3 : decode cX9_worthOf 3 = .ok (.iload_n 1, 1) := by decide +kernel
theorem dX9_worthOf_4 : decode cX9_worthOf 4 = .ok (.i2l, 1) := by decide +kernel
theorem dX9_worthOf_5 : decode cX9_worthOf 5 = .ok (.ladd, 1) := by decide +kernel
theorem dX9_worthOf_6 : decode cX9_worthOf 6 = .ok (.iload_n 2, 1) := by decide +kernel
theorem dX9_worthOf_7 : decode cX9_worthOf 7 = .ok (.i2l, 1) := by decide +kernel
theorem dX9_worthOf_8 : decode cX9_worthOf 8 = .ok (.lmul, 1) := by decide +kernel
theorem dX9_worthOf_9 : decode cX9_worthOf 9 = .ok (.lstore_n 3, 1) := by decide +kernel
theorem dX9_worthOf_10 : decode cX9_worthOf 10 = .ok (.lload_n 3, 1) := by decide +kernel
theorem dX9_worthOf_11 : decode cX9_worthOf 11 = .ok (.lconst 0, 1) := by decide +kernel
theorem dX9_worthOf_12 : decode cX9_worthOf 12 = .ok (.lcmp, 1) := by decide +kernel
theorem dX9_worthOf_13 : decode cX9_worthOf 13 = .ok (.ifCond .le 14, 3) := by decide +kernel
theorem dX9_worthOf_16 : decode cX9_worthOf 16 = .ok (.iload_n 0, 1) := by decide +kernel
theorem dX9_worthOf_17 : decode cX9_worthOf 17 = .ok (.i2l, 1) := by decide +kernel
theorem dX9_worthOf_18 : decode cX9_worthOf 18 = .ok (.ldc2_w 379, 3) := by decide +kernel
theorem dX9_worthOf_21 : decode cX9_worthOf 21 = .ok (.lmul, 1) := by decide +kernel
theorem dX9_worthOf_22 : decode cX9_worthOf 22 = .ok (.lload_n 3, 1) := by decide +kernel
theorem dX9_worthOf_23 : decode cX9_worthOf 23 = .ok (.ldiv, 1) := by decide +kernel
theorem dX9_worthOf_24 : decode cX9_worthOf 24 = .ok (.goto 4, 3) := by decide +kernel
theorem dX9_worthOf_27 : decode cX9_worthOf 27 = .ok (.lconst 0, 1) := by decide +kernel
theorem dX9_worthOf_28 : decode cX9_worthOf 28 = .ok (.lreturn, 1) := by decide +kernel
theorem dJ9_abs_0f7a4_0 : decode cJ9_abs_0f7a4 0 = .ok (.iload_n 0, 1) := by decide +kernel
theorem dJ9_abs_0f7a4_1 : decode cJ9_abs_0f7a4 1 = .ok (.ifCond .ge 8, 3) := by decide +kernel
theorem dJ9_abs_0f7a4_4 : decode cJ9_abs_0f7a4 4 = .ok (.iload_n 0, 1) := by decide +kernel
theorem dJ9_abs_0f7a4_5 : decode cJ9_abs_0f7a4 5 = .ok (.ineg, 1) := by decide +kernel
theorem dJ9_abs_0f7a4_6 : decode cJ9_abs_0f7a4 6 = .ok (.goto 4, 3) := by decide +kernel
theorem dJ9_abs_0f7a4_9 : decode cJ9_abs_0f7a4 9 = .ok (.iload_n 0, 1) := by decide +kernel
theorem dJ9_abs_0f7a4_10 : decode cJ9_abs_0f7a4 10 = .ok (.ireturn, 1) := by decide +kernel
theorem dJ9_max_7cf53_0 : decode cJ9_max_7cf53 0 = .ok (.iload_n 0, 1) := by decide +kernel
theorem dJ9_max_7cf53_1 : decode cJ9_max_7cf53 1 = .ok (.iload_n 1, 1) := by decide +kernel
theorem dJ9_max_7cf53_2 : decode cJ9_max_7cf53 2 = .ok (.if_icmp .lt 7, 3) := by decide +kernel
theorem dJ9_max_7cf53_5 : decode cJ9_max_7cf53 5 = .ok (.iload_n 0, 1) := by decide +kernel
theorem dJ9_max_7cf53_6 : decode cJ9_max_7cf53 6 = .ok (.goto 4, 3) := by decide +kernel
theorem dJ9_max_7cf53_9 : decode cJ9_max_7cf53 9 = .ok (.iload_n 1, 1) := by decide +kernel
theorem dJ9_max_7cf53_10 : decode cJ9_max_7cf53 10 = .ok (.ireturn, 1) := by decide +kernel
theorem dJ9_min_7cf53_0 : decode cJ9_min_7cf53 0 = .ok (.iload_n 0, 1) := by decide +kernel
theorem dJ9_min_7cf53_1 : decode cJ9_min_7cf53 1 = .ok (.iload_n 1, 1) := by decide +kernel
theorem dJ9_min_7cf53_2 : decode cJ9_min_7cf53 2 = .ok (.if_icmp .gt 7, 3) := by decide +kernel
theorem dJ9_min_7cf53_5 : decode cJ9_min_7cf53 5 = .ok (.iload_n 0, 1) := by decide +kernel
theorem dJ9_min_7cf53_6 : decode cJ9_min_7cf53 6 = .ok (.goto 4, 3) := by decide +kernel
theorem dJ9_min_7cf53_9 : decode cJ9_min_7cf53 9 = .ok (.iload_n 1, 1) := by decide +kernel
theorem dJ9_min_7cf53_10 : decode cJ9_min_7cf53 10 = .ok (.ireturn, 1) := by decide +kernel
theorem dJ0_length_8abf5_0 : decode cJ0_length_8abf5 0 = .ok (.aload_n 0, 1) := by decide +kernel
theorem dJ0_length_8abf5_1 : decode cJ0_length_8abf5 1 = .ok (.getfield 9, 3) := by decide +kernel
theorem dJ0_length_8abf5_4 : decode cJ0_length_8abf5 4 = .ok (.arraylength, 1) := by decide +kernel
theorem dJ0_length_8abf5_5 : decode cJ0_length_8abf5 5 = .ok (.aload_n 0, 1) := by decide +kernel
theorem dJ0_length_8abf5_6 : decode cJ0_length_8abf5 6 = .ok (.invokevirtual 335, 3) := by decide +kernel
theorem dJ0_length_8abf5_9 : decode cJ0_length_8abf5 9 = .ok (.ishr, 1) := by decide +kernel
theorem dJ0_length_8abf5_10 : decode cJ0_length_8abf5 10 = .ok (.ireturn, 1) := by decide +kernel
theorem dJ0_charAt_5068e_0 : decode cJ0_charAt_5068e 0 = .ok (.aload_n 0, 1) := by decide +kernel
theorem dJ0_charAt_5068e_1 : decode cJ0_charAt_5068e 1 = .ok (.invokevirtual 492, 3) := by decide +kernel
theorem dJ0_charAt_5068e_4 : decode cJ0_charAt_5068e 4 = .ok (.ifCond .eq 12, 3) := by decide +kernel
theorem dJ0_charAt_5068e_7 : decode cJ0_charAt_5068e 7 = .ok (.aload_n 0, 1) := by decide +kernel
theorem dJ0_charAt_5068e_8 : decode cJ0_charAt_5068e 8 = .ok (.getfield 9, 3) := by decide +kernel
theorem dJ0_charAt_5068e_11 : decode cJ0_charAt_5068e 11 = .ok (.iload_n 1, 1) := by decide +kernel
theorem dJ0_charAt_5068e_12 : decode cJ0_charAt_5068e 12 = .ok (.invokestatic 495, 3) := by decide +kernel
theorem dJ0_charAt_5068e_15 : decode cJ0_charAt_5068e 15 = .ok (.ireturn, 1) := by decide +kernel
theorem dJ0_charAt_5068e_16 : decode cJ0_charAt_5068e 16 = .ok (.aload_n 0, 1) := by decide +kernel
theorem dJ0_charAt_5068e_17 : decode cJ0_charAt_5068e 17 = .ok (.getfield 9, 3) := by decide +kernel
theorem dJ0_charAt_5068e_20 : decode cJ0_charAt_5068e 20 = .ok (.iload_n 1, 1) := by decide +kernel
theorem dJ0_charAt_5068e_21 : decode cJ0_charAt_5068e 21 = .ok (.invokestatic 498, 3) := by decide +kernel
theorem dJ0_charAt_5068e_24 : decode cJ0_charAt_5068e 24 = .ok (.ireturn, 1) := by decide +kernel
theorem dJ0_coder_7d493_0 : decode cJ0_coder_7d493 0 = .ok (.getstatic 38, 3) := by decide +kernel
theorem dJ0_coder_7d493_3 : decode cJ0_coder_7d493 3 = .ok (.ifCond .eq 10, 3) := by decide +kernel
theorem dJ0_coder_7d493_6 : decode cJ0_coder_7d493 6 = .ok (.aload_n 0, 1) := by decide +kernel
theorem dJ0_coder_7d493_7 : decode cJ0_coder_7d493 7 = .ok (.getfield 15, 3) := by decide +kernel
theorem dJ0_coder_7d493_10 : decode cJ0_coder_7d493 10 = .ok (.goto 4, 3) := by decide +kernel
theorem dJ0_coder_7d493_13 : decode cJ0_coder_7d493 13 = .ok (.iconst 1, 1) := by decide +kernel
theorem dJ0_coder_7d493_14 : decode cJ0_coder_7d493 14 = .ok (.ireturn, 1) := by decide +kernel
theorem dJ0_isLatin1_aae02_0 : decode cJ0_isLatin1_aae02 0 = .ok (.getstatic 38, 3) := by decide +kernel
theorem dJ0_isLatin1_aae02_3 : decode cJ0_isLatin1_aae02 3 = .ok (.ifCond .eq 14, 3) := by decide +kernel
theorem dJ0_isLatin1_aae02_6 : decode cJ0_isLatin1_aae02 6 = .ok (.aload_n 0, 1) := by decide +kernel
theorem dJ0_isLatin1_aae02_7 : decode cJ0_isLatin1_aae02 7 = .ok (.getfield 15, 3) := by decide +kernel
theorem dJ0_isLatin1_aae02_10 : decode cJ0_isLatin1_aae02 10 = .ok (.ifCond .ne 7, 3) := by decide +kernel
theorem dJ0_isLatin1_aae02_13 : decode cJ0_isLatin1_aae02 13 = .ok (.iconst 1, 1) := by decide +kernel
theorem dJ0_isLatin1_aae02_14 : decode cJ0_isLatin1_aae02 14 = .ok (.goto 4, 3) := by decide +kernel
theorem dJ0_isLatin1_aae02_17 : decode cJ0_isLatin1_aae02 17 = .ok (.iconst 0, 1) := by decide +kernel
theorem dJ0_isLatin1_aae02_18 : decode cJ0_isLatin1_aae02 18 = .ok (.ireturn, 1) := by decide +kernel
theorem dJ0_checkIndex_df160_0 : decode cJ0_checkIndex_df160 0 = .ok (.iload_n 0, 1) := by decide +kernel
theorem dJ0_checkIndex_df160_1 : decode cJ0_checkIndex_df160 1 = .ok (.iload_n 1, 1) := by decide +kernel
theorem dJ0_checkIndex_df160_2 : decode cJ0_checkIndex_df160 2 = .ok (.getstatic 1053, 3) := by decide +kernel
theorem dJ0_checkIndex_df160_5 : decode cJ0_checkIndex_df160 5 = .ok (.invokestatic 1059, 3) := by decide +kernel
theorem dJ0_checkIndex_df160_8 : decode cJ0_checkIndex_df160 8 = .ok (.pop, 1) := by decide +kernel
theorem dJ0_checkIndex_df160_9 : decode cJ0_checkIndex_df160 9 = .ok (.return_, 1) := by decide +kernel
theorem dJ1_charAt_3b067_0 : decode cJ1_charAt_3b067 0 = .ok (.iload_n 1, 1) := by decide +kernel
theorem dJ1_charAt_3b067_1 : decode cJ1_charAt_3b067 1 = .ok (.aload_n 0, 1) := by decide +kernel
theorem dJ1_charAt_3b067_2 : decode cJ1_charAt_3b067 2 = .ok (.arraylength, 1) := by decide +kernel
theorem dJ1_charAt_3b067_3 : decode cJ1_charAt_3b067 3 = .ok (.invokestatic 9, 3) := by decide +kernel
theorem dJ1_charAt_3b067_6 : decode cJ1_charAt_3b067 6 = .ok (.aload_n 0, 1) := by decide +kernel
theorem dJ1_charAt_3b067_7 : decode cJ1_charAt_3b067 7 = .ok (.iload_n 1, 1) := by decide +kernel
theorem dJ1_charAt_3b067_8 : decode cJ1_charAt_3b067 8 = .ok (.baload, 1) := by decide +kernel
theorem dJ1_charAt_3b067_9 : decode cJ1_charAt_3b067 9 = .ok (.sipush 255, 3) := by decide +kernel
theorem dJ1_charAt_3b067_12 : decode cJ1_charAt_3b067 12 = .ok (.iand, 1) := by decide +kernel
theorem dJ1_charAt_3b067_13 : decode cJ1_charAt_3b067 13 = .ok (.i2c, 1) := by decide +kernel
theorem dJ1_charAt_3b067_14 : decode cJ1_charAt_3b067 14 = .ok (.ireturn, 1) := by decide +kernel
theorem dJ2_getChar_3b067_0 : decode cJ2_getChar_3b067 0 = .ok (.getstatic 44, 3) := by decide +kernel
theorem dJ2_getChar_3b067_3 : decode cJ2_getChar_3b067 3 = .ok (.ifCond .ne 25, 3) := by decide +kernel
theorem dJ2_getChar_3b067_6 : decode cJ2_getChar_3b067 6 = .ok (.iload_n 1, 1) := by decide +kernel
theorem dJ2_getChar_3b067_7 : decode cJ2_getChar_3b067 7 = .ok (.ifCond .lt 11, 3) := by decide +kernel
theorem dJ2_getChar_3b067_10 : decode cJ2_getChar_3b067 10 = .ok (.iload_n 1, 1) := by decide +kernel
theorem dJ2_getChar_3b067_11 : decode cJ2_getChar_3b067 11 = .ok (.aload_n 0, 1) := by decide +kernel
theorem dJ2_getChar_3b067_12 : decode cJ2_getChar_3b067 12 = .ok (.invokestatic 48, 3) := by decide +kernel
theorem dJ2_getChar_3b067_15 : decode cJ2_getChar_3b067 15 = .ok (.if_icmp .lt 13, 3) := by decide +kernel
theorem dJ2_getChar_3b067_18 : decode cJ2_getChar_3b067 18 = .ok (.new 52, 3) := by decide +kernel
theorem dJ2_getChar_3b067_21 : decode cJ2_getChar_3b067 21 = .ok (.dup, 1) := by decide +kernel
theorem dJ2_getChar_3b067_22 : decode cJ2_getChar_3b067 22 = .ok (.ldc 54, 2) := by decide +kernel
theorem dJ2_getChar_3b067_24 : decode cJ2_getChar_3b067 24 = .ok (.invokespecial 56, 3) := by decide +kernel
theorem dJ2_getChar_3b067_27 : decode cJ2_getChar_3b067 27 = .ok (.athrow, 1) := by decide +kernel
theorem dJ2_getChar_3b067_28 : decode cJ2_getChar_3b067 28 = .ok (.iload_n 1, 1) := by decide +kernel
theorem dJ2_getChar_3b067_29 : decode cJ2_getChar_3b067 29 = .ok (.iconst 1, 1) := by decide +kernel
theorem dJ2_getChar_3b067_30 : decode cJ2_getChar_3b067 30 = .ok (.ishl, 1) := by decide +kernel
theorem dJ2_getChar_3b067_31 : decode cJ2_getChar_3b067 31 = .ok (.istore_n 1, 1) := by decide +kernel
theorem dJ2_getChar_3b067_32 : decode cJ2_getChar_3b067 32 = .ok (.aload_n 0, 1) := by decide +kernel
theorem dJ2_getChar_3b067_33 : decode cJ2_getChar_3b067 33 = .ok (.iload_n 1, 1) := by decide +kernel
theorem dJ2_getChar_3b067_34 : decode cJ2_getChar_3b067 34 = .ok (.iinc 1 1, 3) := by decide +kernel
theorem dJ2_getChar_3b067_37 : decode cJ2_getChar_3b067 37 = .ok (.baload, 1) := by decide +kernel
theorem dJ2_getChar_3b067_38 : decode cJ2_getChar_3b067 38 = .ok (.sipush 255, 3) := by decide +kernel
theorem dJ2_getChar_3b067_41 : decode cJ2_getChar_3b067 41 = .ok (.iand, 1) := by decide +kernel
theorem dJ2_getChar_3b067_42 : decode cJ2_getChar_3b067 42 = .ok (.getstatic 59, 3) := by decide +kernel
theorem dJ2_getChar_3b067_45 : decode cJ2_getChar_3b067 45 = .ok (.ishl, 1) := by decide +kernel
theorem dJ2_getChar_3b067_46 : decode cJ2_getChar_3b067 46 = .ok (.aload_n 0, 1) := by decide +kernel
theorem dJ2_getChar_3b067_47 : decode cJ2_getChar_3b067 47 = .ok (.iload_n 1, 1) := by decide +kernel
theorem dJ2_getChar_3b067_48 : decode cJ2_getChar_3b067 48 = .ok (.baload, 1) := by decide +kernel
theorem dJ2_getChar_3b067_49 : decode cJ2_getChar_3b067 49 = .ok (.sipush 255, 3) := by decide +kernel
theorem dJ2_getChar_3b067_52 : decode cJ2_getChar_3b067 52 = .ok (.iand, 1) := by decide +kernel
theorem dJ2_getChar_3b067_53 : decode cJ2_getChar_3b067 53 = .ok (.getstatic 63, 3) := by decide +kernel
theorem dJ2_getChar_3b067_56 : decode cJ2_getChar_3b067 56 = .ok (.ishl, 1) := by decide +kernel
theorem dJ2_getChar_3b067_57 : decode cJ2_getChar_3b067 57 = .ok (.ior, 1) := by decide +kernel
theorem dJ2_getChar_3b067_58 : decode cJ2_getChar_3b067 58 = .ok (.i2c, 1) := by decide +kernel
theorem dJ2_getChar_3b067_59 : decode cJ2_getChar_3b067 59 = .ok (.ireturn, 1) := by decide +kernel
theorem dJ2_length_9d52b_0 : decode cJ2_length_9d52b 0 = .ok (.aload_n 0, 1) := by decide +kernel
theorem dJ2_length_9d52b_1 : decode cJ2_length_9d52b 1 = .ok (.arraylength, 1) := by decide +kernel
theorem dJ2_length_9d52b_2 : decode cJ2_length_9d52b 2 = .ok (.iconst 1, 1) := by decide +kernel
theorem dJ2_length_9d52b_3 : decode cJ2_length_9d52b 3 = .ok (.ishr, 1) := by decide +kernel
theorem dJ2_length_9d52b_4 : decode cJ2_length_9d52b 4 = .ok (.ireturn, 1) := by decide +kernel
theorem dJ2_charAt_3b067_0 : decode cJ2_charAt_3b067 0 = .ok (.iload_n 1, 1) := by decide +kernel
theorem dJ2_charAt_3b067_1 : decode cJ2_charAt_3b067 1 = .ok (.aload_n 0, 1) := by decide +kernel
theorem dJ2_charAt_3b067_2 : decode cJ2_charAt_3b067 2 = .ok (.invokestatic 67, 3) := by decide +kernel
theorem dJ2_charAt_3b067_5 : decode cJ2_charAt_3b067 5 = .ok (.aload_n 0, 1) := by decide +kernel
theorem dJ2_charAt_3b067_6 : decode cJ2_charAt_3b067 6 = .ok (.iload_n 1, 1) := by decide +kernel
theorem dJ2_charAt_3b067_7 : decode cJ2_charAt_3b067 7 = .ok (.invokestatic 71, 3) := by decide +kernel
theorem dJ2_charAt_3b067_10 : decode cJ2_charAt_3b067 10 = .ok (.ireturn, 1) := by decide +kernel
theorem dJ2_checkIndex_2214a_0 : decode cJ2_checkIndex_2214a 0 = .ok (.iload_n 0, 1) := by decide +kernel
theorem dJ2_checkIndex_2214a_1 : decode cJ2_checkIndex_2214a 1 = .ok (.aload_n 1, 1) := by decide +kernel
theorem dJ2_checkIndex_2214a_2 : decode cJ2_checkIndex_2214a 2 = .ok (.invokestatic 48, 3) := by decide +kernel
theorem dJ2_checkIndex_2214a_5 : decode cJ2_checkIndex_2214a 5 = .ok (.invokestatic 414, 3) := by decide +kernel
theorem dJ2_checkIndex_2214a_8 : decode cJ2_checkIndex_2214a 8 = .ok (.return_, 1) := by decide +kernel
theorem dJ3_checkIndex_8e157_0 : decode cJ3_checkIndex_8e157 0 = .ok (.iload_n 0, 1) := by decide +kernel
theorem dJ3_checkIndex_8e157_1 : decode cJ3_checkIndex_8e157 1 = .ok (.ifCond .lt 8, 3) := by decide +kernel
theorem dJ3_checkIndex_8e157_4 : decode cJ3_checkIndex_8e157 4 = .ok (.iload_n 0, 1) := by decide +kernel
theorem dJ3_checkIndex_8e157_5 : decode cJ3_checkIndex_8e157 5 = .ok (.iload_n 1, 1) := by decide +kernel
theorem dJ3_checkIndex_8e157_6 : decode cJ3_checkIndex_8e157 6 = .ok (.if_icmp .lt 10, 3) := by decide +kernel
theorem dJ3_checkIndex_8e157_9 : decode cJ3_checkIndex_8e157 9 = .ok (.aload_n 2, 1) := by decide +kernel
theorem dJ3_checkIndex_8e157_10 : decode cJ3_checkIndex_8e157 10 = .ok (.iload_n 0, 1) := by decide +kernel
theorem dJ3_checkIndex_8e157_11 : decode cJ3_checkIndex_8e157 11 = .ok (.iload_n 1, 1) := by decide +kernel
theorem dJ3_checkIndex_8e157_12 : decode cJ3_checkIndex_8e157 12 = .ok (.invokestatic 95, 3) := by decide +kernel
theorem dJ3_checkIndex_8e157_15 : decode cJ3_checkIndex_8e157 15 = .ok (.athrow, 1) := by decide +kernel
theorem dJ3_checkIndex_8e157_16 : decode cJ3_checkIndex_8e157 16 = .ok (.iload_n 0, 1) := by decide +kernel
theorem dJ3_checkIndex_8e157_17 : decode cJ3_checkIndex_8e157 17 = .ok (.ireturn, 1) := by decide +kernel
