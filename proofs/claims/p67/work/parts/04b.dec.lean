theorem dX6_init_11 : decode cX6_init 11 = .ok (.aload_n 0, 1) := by decide +kernel
theorem dX6_init_12 : decode cX6_init 12 = .ok (.iconst 4, 1) := by decide +kernel
theorem dX6_init_13 : decode cX6_init 13 = .ok (.newarray .int, 2) := by decide +kernel
theorem dX6_init_15 : decode cX6_init 15 = .ok (.putfield 15, 3) := by decide +kernel
theorem dX6_init_18 : decode cX6_init 18 = .ok (.aload_n 0, 1) := by decide +kernel
theorem dX6_init_19 : decode cX6_init 19 = .ok (.iconst 4, 1) := by decide +kernel
theorem dX6_init_20 : decode cX6_init 20 = .ok (.newarray .int, 2) := by decide +kernel
theorem dX6_init_22 : decode cX6_init 22 = .ok (.putfield 19, 3) := by decide +kernel
theorem dX6_init_25 : decode cX6_init 25 = .ok (.aload_n 0, 1) := by decide +kernel
theorem dX6_init_26 : decode cX6_init 26 = .ok (.iconst 4, 1) := by decide +kernel
theorem dX6_init_27 : decode cX6_init 27 = .ok (.newarray .int, 2) := by decide +kernel
theorem dX6_init_29 : decode cX6_init 29 = .ok (.putfield 22, 3) := by decide +kernel
theorem dX6_init_32 : decode cX6_init 32 = .ok (.aload_n 0, 1) := by decide +kernel
theorem dX6_init_33 : decode cX6_init 33 = .ok (.iconst 4, 1) := by decide +kernel
theorem dX6_init_34 : decode cX6_init 34 = .ok (.newarray .int, 2) := by decide +kernel
theorem dX6_init_36 : decode cX6_init 36 = .ok (.putfield 25, 3) := by decide +kernel
theorem dX6_init_39 : decode cX6_init 39 = .ok (.aload_n 0, 1) := by decide +kernel
theorem dX6_init_40 : decode cX6_init 40 = .ok (.iconst 4, 1) := by decide +kernel
theorem dX6_init_41 : decode cX6_init 41 = .ok (.newarray .int, 2) := by decide +kernel
theorem dX6_init_43 : decode cX6_init 43 = .ok (.putfield 28, 3) := by decide +kernel
theorem dX6_init_46 : decode cX6_init 46 = .ok (.aload_n 0, 1) := by decide +kernel
theorem dX6_init_47 : decode cX6_init 47 = .ok (.iconst 4, 1) := by decide +kernel
theorem dX6_init_48 : decode cX6_init 48 = .ok (.newarray .int, 2) := by decide +kernel
theorem dX6_init_50 : decode cX6_init 50 = .ok (.putfield 31, 3) := by decide +kernel
theorem dX6_init_53 : decode cX6_init 53 = .ok (.return_, 1) := by decide +kernel
theorem dX6_copyFrom_0 : decode cX6_copyFrom 0 = .ok (.aload_n 0, 1) := by decide +kernel
theorem dX6_copyFrom_1 : decode cX6_copyFrom 1 = .ok (.aload_n 1, 1) := by decide +kernel
theorem dX6_copyFrom_2 : decode cX6_copyFrom 2 = .ok (.getfield 34, 3) := by decide +kernel
theorem dX6_copyFrom_5 : decode cX6_copyFrom 5 = .ok (.putfield 34, 3) := by decide +kernel
theorem dX6_copyFrom_8 : decode cX6_copyFrom 8 = .ok (.aload_n 0, 1) := by decide +kernel
theorem dX6_copyFrom_9 : decode cX6_copyFrom 9 = .ok (.aload_n 1, 1) := by decide +kernel
theorem dX6_copyFrom_10 : decode cX6_copyFrom 10 = .ok (.getfield 38, 3) := by decide +kernel
theorem dX6_copyFrom_13 : decode cX6_copyFrom 13 = .ok (.putfield 38, 3) := by decide +kernel
theorem dX6_copyFrom_16 : decode cX6_copyFrom 16 = .ok (.iconst 0, 1) := by decide +kernel
theorem dX6_copyFrom_17 : decode cX6_copyFrom 17 = .ok (.istore_n 2, 1) := by decide +kernel
theorem dX6_copyFrom_18 : decode cX6_copyFrom 18 = .ok (.iload_n 2, 1) := by decide +kernel
theorem dX6_copyFrom_19 : decode cX6_copyFrom 19 = .ok (.iconst 4, 1) := by decide +kernel
theorem dX6_copyFrom_20 : decode cX6_copyFrom 20 = .ok (.if_icmp .ge 93, 3) := by decide +kernel
theorem dX6_copyFrom_23 : decode cX6_copyFrom 23 = .ok (.aload_n 0, 1) := by decide +kernel
theorem dX6_copyFrom_24 : decode cX6_copyFrom 24 = .ok (.getfield 9, 3) := by decide +kernel
theorem dX6_copyFrom_27 : decode cX6_copyFrom 27 = .ok (.iload_n 2, 1) := by decide +kernel
theorem dX6_copyFrom_28 : decode cX6_copyFrom 28 = .ok (.aload_n 1, 1) := by decide +kernel
theorem dX6_copyFrom_29 : decode cX6_copyFrom 29 = .ok (.getfield 9, 3) := by decide +kernel
theorem dX6_copyFrom_32 : decode cX6_copyFrom 32 = .ok (.iload_n 2, 1) := by decide +kernel
theorem dX6_copyFrom_33 : decode cX6_copyFrom 33 = .ok (.baload, 1) := by decide +kernel
theorem dX6_copyFrom_34 : decode cX6_copyFrom 34 = .ok (.bastore, 1) := by decide +kernel
theorem dX6_copyFrom_35 : decode cX6_copyFrom 35 = .ok (.aload_n 0, 1) := by decide +kernel
theorem dX6_copyFrom_36 : decode cX6_copyFrom 36 = .ok (.getfield 15, 3) := by decide +kernel
theorem dX6_copyFrom_39 : decode cX6_copyFrom 39 = .ok (.iload_n 2, 1) := by decide +kernel
theorem dX6_copyFrom_40 : decode cX6_copyFrom 40 = .ok (.aload_n 1, 1) := by decide +kernel
theorem dX6_copyFrom_41 : decode cX6_copyFrom 41 = .ok (.getfield 15, 3) := by decide +kernel
theorem dX6_copyFrom_44 : decode cX6_copyFrom 44 = .ok (.iload_n 2, 1) := by decide +kernel
theorem dX6_copyFrom_45 : decode cX6_copyFrom 45 = .ok (.iaload, 1) := by decide +kernel
theorem dX6_copyFrom_46 : decode cX6_copyFrom 46 = .ok (.iastore, 1) := by decide +kernel
theorem dX6_copyFrom_47 : decode cX6_copyFrom 47 = .ok (.aload_n 0, 1) := by decide +kernel
theorem dX6_copyFrom_48 : decode cX6_copyFrom 48 = .ok (.getfield 19, 3) := by decide +kernel
theorem dX6_copyFrom_51 : decode cX6_copyFrom 51 = .ok (.iload_n 2, 1) := by decide +kernel
theorem dX6_copyFrom_52 : decode cX6_copyFrom 52 = .ok (.aload_n 1, 1) := by decide +kernel
theorem dX6_copyFrom_53 : decode cX6_copyFrom 53 = .ok (.getfield 19, 3) := by decide +kernel
theorem dX6_copyFrom_56 : decode cX6_copyFrom 56 = .ok (.iload_n 2, 1) := by decide +kernel
theorem dX6_copyFrom_57 : decode cX6_copyFrom 57 = .ok (.iaload, 1) := by decide +kernel
theorem dX6_copyFrom_58 : decode cX6_copyFrom 58 = .ok (.iastore, 1) := by decide +kernel
theorem dX6_copyFrom_59 : decode cX6_copyFrom 59 = .ok (.aload_n 0, 1) := by decide +kernel
theorem dX6_copyFrom_60 : decode cX6_copyFrom 60 = .ok (.getfield 22, 3) := by decide +kernel
theorem dX6_copyFrom_63 : decode cX6_copyFrom 63 = .ok (.iload_n 2, 1) := by decide +kernel
theorem dX6_copyFrom_64 : decode cX6_copyFrom 64 = .ok (.aload_n 1, 1) := by decide +kernel
theorem dX6_copyFrom_65 : decode cX6_copyFrom 65 = .ok (.getfield 22, 3) := by decide +kernel
theorem dX6_copyFrom_68 : decode cX6_copyFrom 68 = .ok (.iload_n 2, 1) := by decide +kernel
theorem dX6_copyFrom_69 : decode cX6_copyFrom 69 = .ok (.iaload, 1) := by decide +kernel
theorem dX6_copyFrom_70 : decode cX6_copyFrom 70 = .ok (.iastore, 1) := by decide +kernel
theorem dX6_copyFrom_71 : decode cX6_copyFrom 71 = .ok (.aload_n 0, 1) := by decide +kernel
theorem dX6_copyFrom_72 : decode cX6_copyFrom 72 = .ok (.getfield 25, 3) := by decide +kernel
theorem dX6_copyFrom_75 : decode cX6_copyFrom 75 = .ok (.iload_n 2, 1) := by decide +kernel
theorem dX6_copyFrom_76 : decode cX6_copyFrom 76 = .ok (.aload_n 1, 1) := by decide +kernel
theorem dX6_copyFrom_77 : decode cX6_copyFrom 77 = .ok (.getfield 25, 3) := by decide +kernel
theorem dX6_copyFrom_80 : decode cX6_copyFrom 80 = .ok (.iload_n 2, 1) := by decide +kernel
theorem dX6_copyFrom_81 : decode cX6_copyFrom 81 = .ok (.iaload, 1) := by decide +kernel
theorem dX6_copyFrom_82 : decode cX6_copyFrom 82 = .ok (.iastore, 1) := by decide +kernel
theorem dX6_copyFrom_83 : decode cX6_copyFrom 83 = .ok (.aload_n 0, 1) := by decide +kernel
theorem dX6_copyFrom_84 : decode cX6_copyFrom 84 = .ok (.getfield 28, 3) := by decide +kernel
theorem dX6_copyFrom_87 : decode cX6_copyFrom 87 = .ok (.iload_n 2, 1) := by decide +kernel
theorem dX6_copyFrom_88 : decode cX6_copyFrom 88 = .ok (.aload_n 1, 1) := by decide +kernel
theorem dX6_copyFrom_89 : decode cX6_copyFrom 89 = .ok (.getfield 28, 3) := by decide +kernel
theorem dX6_copyFrom_92 : decode cX6_copyFrom 92 = .ok (.iload_n 2, 1) := by decide +kernel
theorem dX6_copyFrom_93 : decode cX6_copyFrom 93 = .ok (.iaload, 1) := by decide +kernel
theorem dX6_copyFrom_94 : decode cX6_copyFrom 94 = .ok (.iastore, 1) := by decide +kernel
theorem dX6_copyFrom_95 : decode cX6_copyFrom 95 = .ok (.aload_n 0, 1) := by decide +kernel
theorem dX6_copyFrom_96 : decode cX6_copyFrom 96 = .ok (.getfield 31, 3) := by decide +kernel
theorem dX6_copyFrom_99 : decode cX6_copyFrom 99 = .ok (.iload_n 2, 1) := by decide +kernel
theorem dX6_copyFrom_100 : decode cX6_copyFrom 100 = .ok (.aload_n 1, 1) := by decide +kernel
theorem dX6_copyFrom_101 : decode cX6_copyFrom 101 = .ok (.getfield 31, 3) := by decide +kernel
theorem dX6_copyFrom_104 : decode cX6_copyFrom 104 = .ok (.iload_n 2, 1) := by decide +kernel
theorem dX6_copyFrom_105 : decode cX6_copyFrom 105 = .ok (.iaload, 1) := by decide +kernel
theorem dX6_copyFrom_106 : decode cX6_copyFrom 106 = .ok (.iastore, 1) := by decide +kernel
theorem dX6_copyFrom_107 : decode cX6_copyFrom 107 = .ok (.iinc 2 1, 3) := by decide +kernel
theorem dX6_copyFrom_110 : decode cX6_copyFrom 110 = .ok (.goto (-92), 3) := by decide +kernel
theorem dX6_copyFrom_113 : decode cX6_copyFrom 113 = .ok (.return_, 1) := by decide +kernel
theorem dX6_hasOpen_0 : decode cX6_hasOpen 0 = .ok (.aload_n 0, 1) := by decide +kernel
theorem dX6_hasOpen_1 : decode cX6_hasOpen 1 = .ok (.getfield 38, 3) := by decide +kernel
theorem dX6_hasOpen_4 : decode cX6_hasOpen 4 = .ok (.iload_n 1, 1) := by decide +kernel
theorem dX6_hasOpen_5 : decode cX6_hasOpen 5 = .ok (.ishr, 1) := by decide +kernel
theorem dX6_hasOpen_6 : decode cX6_hasOpen 6 = .ok (.iconst 1, 1) := by decide +kernel
theorem dX6_hasOpen_7 : decode cX6_hasOpen 7 = .ok (.iand, 1) := by decide +kernel
theorem dX6_hasOpen_8 : decode cX6_hasOpen 8 = .ok (.iconst 1, 1) := by decide +kernel
theorem dX6_hasOpen_9 : decode cX6_hasOpen 9 = .ok (.if_icmp .ne 7, 3) := by decide +kernel
theorem dX6_hasOpen_12 : decode cX6_hasOpen 12 = .ok (.iconst 1, 1) := by decide +kernel
theorem dX6_hasOpen_13 : decode cX6_hasOpen 13 = .ok (.goto 4, 3) := by decide +kernel
theorem dX6_hasOpen_16 : decode cX6_hasOpen 16 = .ok (.iconst 0, 1) := by decide +kernel
theorem dX6_hasOpen_17 : decode cX6_hasOpen 17 = .ok (.ireturn, 1) := by decide +kernel
theorem dX6_turn_0 : decode cX6_turn 0 = .ok (.aload_n 0, 1) := by decide +kernel
theorem dX6_turn_1 : decode cX6_turn 1 = .ok (.dup, 1) := by decide +kernel
theorem dX6_turn_2 : decode cX6_turn 2 = .ok (.getfield 38, 3) := by decide +kernel
theorem dX6_turn_5 : decode cX6_turn 5 = .ok (.iconst 1, 1) := by decide +kernel
theorem dX6_turn_6 : decode cX6_turn 6 = .ok (.iload_n 1, 1) := by decide +kernel
theorem dX6_turn_7 : decode cX6_turn 7 = .ok (.ishl, 1) := by decide +kernel
theorem dX6_turn_8 : decode cX6_turn 8 = .ok (.ixor, 1) := by decide +kernel
theorem dX6_turn_9 : decode cX6_turn 9 = .ok (.putfield 38, 3) := by decide +kernel
theorem dX6_turn_12 : decode cX6_turn 12 = .ok (.return_, 1) := by decide +kernel
theorem dX7_init_0 : decode cX7_init 0 = .ok (.aload_n 0, 1) := by decide +kernel
theorem dX7_init_1 : decode cX7_init 1 = .ok (.invokespecial 3, 3) := by decide +kernel
theorem dX7_init_4 : decode cX7_init 4 = .ok (.aload_n 0, 1) := by decide +kernel
theorem dX7_init_5 : decode cX7_init 5 = .ok (.iconst 1, 1) := by decide +kernel
theorem dX7_init_6 : decode cX7_init 6 = .ok (.putfield 9, 3) := by decide +kernel
theorem dX7_init_9 : decode cX7_init 9 = .ok (.aload_n 0, 1) := by decide +kernel
theorem dX7_init_10 : decode cX7_init 10 = .ok (.iconst 1, 1) := by decide +kernel
theorem dX7_init_11 : decode cX7_init 11 = .ok (.putfield 15, 3) := by decide +kernel
theorem dX7_init_14 : decode cX7_init 14 = .ok (.aload_n 0, 1) := by decide +kernel
theorem dX7_init_15 : decode cX7_init 15 = .ok (.iconst (-1), 1) := by decide +kernel
theorem dX7_init_16 : decode cX7_init 16 = .ok (.putfield 18, 3) := by decide +kernel
theorem dX7_init_19 : decode cX7_init 19 = .ok (.aload_n 0, 1) := by decide +kernel
theorem dX7_init_20 : decode cX7_init 20 = .ok (.iconst 4, 1) := by decide +kernel
theorem dX7_init_21 : decode cX7_init 21 = .ok (.anewarray 21, 3) := by decide +kernel
theorem dX7_init_24 : decode cX7_init 24 = .ok (.putfield 23, 3) := by decide +kernel
theorem dX7_init_27 : decode cX7_init 27 = .ok (.aload_n 0, 1) := by decide +kernel
theorem dX7_init_28 : decode cX7_init 28 = .ok (.iconst 3, 1) := by decide +kernel
theorem dX7_init_29 : decode cX7_init 29 = .ok (.anewarray 27, 3) := by decide +kernel
theorem dX7_init_32 : decode cX7_init 32 = .ok (.putfield 29, 3) := by decide +kernel
theorem dX7_init_35 : decode cX7_init 35 = .ok (.aload_n 0, 1) := by decide +kernel
theorem dX7_init_36 : decode cX7_init 36 = .ok (.iconst 4, 1) := by decide +kernel
theorem dX7_init_37 : decode cX7_init 37 = .ok (.newarray .int, 2) := by decide +kernel
theorem dX7_init_39 : decode cX7_init 39 = .ok (.putfield 33, 3) := by decide +kernel
theorem dX7_init_42 : decode cX7_init 42 = .ok (.aload_n 0, 1) := by decide +kernel
theorem dX7_init_43 : decode cX7_init 43 = .ok (.iconst 4, 1) := by decide +kernel
theorem dX7_init_44 : decode cX7_init 44 = .ok (.newarray .int, 2) := by decide +kernel
theorem dX7_init_46 : decode cX7_init 46 = .ok (.putfield 37, 3) := by decide +kernel
theorem dX7_init_49 : decode cX7_init 49 = .ok (.aload_n 0, 1) := by decide +kernel
theorem dX7_init_50 : decode cX7_init 50 = .ok (.iconst 4, 1) := by decide +kernel
theorem dX7_init_51 : decode cX7_init 51 = .ok (.newarray .int, 2) := by decide +kernel
theorem dX7_init_53 : decode cX7_init 53 = .ok (.putfield 40, 3) := by decide +kernel
theorem dX7_init_56 : decode cX7_init 56 = .ok (.aload_n 0, 1) := by decide +kernel
theorem dX7_init_57 : decode cX7_init 57 = .ok (.aload_n 1, 1) := by decide +kernel
theorem dX7_init_58 : decode cX7_init 58 = .ok (.putfield 43, 3) := by decide +kernel
theorem dX7_init_61 : decode cX7_init 61 = .ok (.iconst 0, 1) := by decide +kernel
theorem dX7_init_62 : decode cX7_init 62 = .ok (.istore_n 2, 1) := by decide +kernel
theorem dX7_init_63 : decode cX7_init 63 = .ok (.iload_n 2, 1) := by decide +kernel
theorem dX7_init_64 : decode cX7_init 64 = .ok (.iconst 4, 1) := by decide +kernel
theorem dX7_init_65 : decode cX7_init 65 = .ok (.if_icmp .ge 22, 3) := by decide +kernel
theorem dX7_init_68 : decode cX7_init 68 = .ok (.aload_n 0, 1) := by decide +kernel
theorem dX7_init_69 : decode cX7_init 69 = .ok (.getfield 23, 3) := by decide +kernel
theorem dX7_init_72 : decode cX7_init 72 = .ok (.iload_n 2, 1) := by decide +kernel
theorem dX7_init_73 : decode cX7_init 73 = .ok (.new 21, 3) := by decide +kernel
theorem dX7_init_76 : decode cX7_init 76 = .ok (.dup, 1) := by decide +kernel
theorem dX7_init_77 : decode cX7_init 77 = .ok (.invokespecial 47, 3) := by decide +kernel
theorem dX7_init_80 : decode cX7_init 80 = .ok (.aastore, 1) := by decide +kernel
theorem dX7_init_81 : decode cX7_init 81 = .ok (.iinc 2 1, 3) := by decide +kernel
theorem dX7_init_84 : decode cX7_init 84 = .ok (.goto (-21), 3) := by decide +kernel
theorem dX7_init_87 : decode cX7_init 87 = .ok (.iconst 0, 1) := by decide +kernel
theorem dX7_init_88 : decode cX7_init 88 = .ok (.istore_n 2, 1) := by decide +kernel
theorem dX7_init_89 : decode cX7_init 89 = .ok (.iload_n 2, 1) := by decide +kernel
theorem dX7_init_90 : decode cX7_init 90 = .ok (.iconst 3, 1) := by decide +kernel
theorem dX7_init_91 : decode cX7_init 91 = .ok (.if_icmp .ge 22, 3) := by decide +kernel
theorem dX7_init_94 : decode cX7_init 94 = .ok (.aload_n 0, 1) := by decide +kernel
theorem dX7_init_95 : decode cX7_init 95 = .ok (.getfield 29, 3) := by decide +kernel
theorem dX7_init_98 : decode cX7_init 98 = .ok (.iload_n 2, 1) := by decide +kernel
theorem dX7_init_99 : decode cX7_init 99 = .ok (.new 27, 3) := by decide +kernel
theorem dX7_init_102 : decode cX7_init 102 = .ok (.dup, 1) := by decide +kernel
theorem dX7_init_103 : decode cX7_init 103 = .ok (.invokespecial 48, 3) := by decide +kernel
theorem dX7_init_106 : decode cX7_init 106 = .ok (.aastore, 1) := by decide +kernel
theorem dX7_init_107 : decode cX7_init 107 = .ok (.iinc 2 1, 3) := by decide +kernel
theorem dX7_init_110 : decode cX7_init 110 = .ok (.goto (-21), 3) := by decide +kernel
theorem dX7_init_113 : decode cX7_init 113 = .ok (.return_, 1) := by decide +kernel
theorem dX7_clear_0 : decode cX7_clear 0 = .ok (.aload_n 0, 1) := by decide +kernel
theorem dX7_clear_1 : decode cX7_clear 1 = .ok (.iconst (-1), 1) := by decide +kernel
theorem dX7_clear_2 : decode cX7_clear 2 = .ok (.putfield 18, 3) := by decide +kernel
theorem dX7_clear_5 : decode cX7_clear 5 = .ok (.aload_n 0, 1) := by decide +kernel
theorem dX7_clear_6 : decode cX7_clear 6 = .ok (.iconst 0, 1) := by decide +kernel
theorem dX7_clear_7 : decode cX7_clear 7 = .ok (.putfield 49, 3) := by decide +kernel
theorem dX7_clear_10 : decode cX7_clear 10 = .ok (.aload_n 0, 1) := by decide +kernel
theorem dX7_clear_11 : decode cX7_clear 11 = .ok (.iconst 0, 1) := by decide +kernel
theorem dX7_clear_12 : decode cX7_clear 12 = .ok (.putfield 52, 3) := by decide +kernel
theorem dX7_clear_15 : decode cX7_clear 15 = .ok (.aload_n 0, 1) := by decide +kernel
theorem dX7_clear_16 : decode cX7_clear 16 = .ok (.iconst 0, 1) := by decide +kernel
theorem dX7_clear_17 : decode cX7_clear 17 = .ok (.putfield 55, 3) := by decide +kernel
theorem dX7_clear_20 : decode cX7_clear 20 = .ok (.iconst 0, 1) := by decide +kernel
theorem dX7_clear_21 : decode cX7_clear 21 = .ok (.istore_n 1, 1) := by decide +kernel
theorem dX7_clear_22 : decode cX7_clear 22 = .ok (.iload_n 1, 1) := by decide +kernel
theorem dX7_clear_23 : decode cX7_clear 23 = .ok (.iconst 4, 1) := by decide +kernel
theorem dX7_clear_24 : decode cX7_clear 24 = .ok (.if_icmp .ge 16, 3) := by decide +kernel
theorem dX7_clear_27 : decode cX7_clear 27 = .ok (.aload_n 0, 1) := by decide +kernel
theorem dX7_clear_28 : decode cX7_clear 28 = .ok (.getfield 40, 3) := by decide +kernel
theorem dX7_clear_31 : decode cX7_clear 31 = .ok (.iload_n 1, 1) := by decide +kernel
theorem dX7_clear_32 : decode cX7_clear 32 = .ok (.iconst 0, 1) := by decide +kernel
theorem dX7_clear_33 : decode cX7_clear 33 = .ok (.iastore, 1) := by decide +kernel
theorem dX7_clear_34 : decode cX7_clear 34 = .ok (.iinc 1 1, 3) := by decide +kernel
theorem dX7_clear_37 : decode cX7_clear 37 = .ok (.goto (-15), 3) := by decide +kernel
theorem dX7_clear_40 : decode cX7_clear 40 = .ok (.return_, 1) := by decide +kernel
theorem dX7_cells_0 : decode cX7_cells 0 = .ok (.aload_n 0, 1) := by decide +kernel
theorem dX7_cells_1 : decode cX7_cells 1 = .ok (.getfield 9, 3) := by decide +kernel
theorem dX7_cells_4 : decode cX7_cells 4 = .ok (.aload_n 0, 1) := by decide +kernel
theorem dX7_cells_5 : decode cX7_cells 5 = .ok (.getfield 15, 3) := by decide +kernel
theorem dX7_cells_8 : decode cX7_cells 8 = .ok (.imul, 1) := by decide +kernel
theorem dX7_cells_9 : decode cX7_cells 9 = .ok (.ireturn, 1) := by decide +kernel
theorem dX7_cellNumber_0 : decode cX7_cellNumber 0 = .ok (.iload_n 2, 1) := by decide +kernel
theorem dX7_cellNumber_1 : decode cX7_cellNumber 1 = .ok (.aload_n 0, 1) := by decide +kernel
theorem dX7_cellNumber_2 : decode cX7_cellNumber 2 = .ok (.getfield 9, 3) := by decide +kernel
theorem dX7_cellNumber_5 : decode cX7_cellNumber 5 = .ok (.imul, 1) := by decide +kernel
theorem dX7_cellNumber_6 : decode cX7_cellNumber 6 = .ok (.iload_n 1, 1) := by decide +kernel
theorem dX7_cellNumber_7 : decode cX7_cellNumber 7 = .ok (.iadd, 1) := by decide +kernel
theorem dX7_cellNumber_8 : decode cX7_cellNumber 8 = .ok (.ireturn, 1) := by decide +kernel
theorem dX7_columnOf_0 : decode cX7_columnOf 0 = .ok (.aload_n 1, 1) := by decide +kernel
theorem dX7_columnOf_1 : decode cX7_columnOf 1 = .ok (.getfield 58, 3) := by decide +kernel
theorem dX7_columnOf_4 : decode cX7_columnOf 4 = .ok (.iload_n 2, 1) := by decide +kernel
theorem dX7_columnOf_5 : decode cX7_columnOf 5 = .ok (.iaload, 1) := by decide +kernel
theorem dX7_columnOf_6 : decode cX7_columnOf 6 = .ok (.aload_n 1, 1) := by decide +kernel
theorem dX7_columnOf_7 : decode cX7_columnOf 7 = .ok (.getfield 62, 3) := by decide +kernel
theorem dX7_columnOf_10 : decode cX7_columnOf 10 = .ok (.iload_n 2, 1) := by decide +kernel
theorem dX7_columnOf_11 : decode cX7_columnOf 11 = .ok (.iaload, 1) := by decide +kernel
theorem dX7_columnOf_12 : decode cX7_columnOf 12 = .ok (.iload_n 3, 1) := by decide +kernel
theorem dX7_columnOf_13 : decode cX7_columnOf 13 = .ok (.imul, 1) := by decide +kernel
theorem dX7_columnOf_14 : decode cX7_columnOf 14 = .ok (.bipush 100, 2) := by decide +kernel
theorem dX7_columnOf_16 : decode cX7_columnOf 16 = .ok (.idiv, 1) := by decide +kernel
theorem dX7_columnOf_17 : decode cX7_columnOf 17 = .ok (.iadd, 1) := by decide +kernel
theorem dX7_columnOf_18 : decode cX7_columnOf 18 = .ok (.istore 4, 2) := by decide +kernel
theorem dX7_columnOf_20 : decode cX7_columnOf 20 = .ok (.iconst 0, 1) := by decide +kernel
theorem dX7_columnOf_21 : decode cX7_columnOf 21 = .ok (.aload_n 0, 1) := by decide +kernel
theorem dX7_columnOf_22 : decode cX7_columnOf 22 = .ok (.getfield 9, 3) := by decide +kernel
theorem dX7_columnOf_25 : decode cX7_columnOf 25 = .ok (.iconst 1, 1) := by decide +kernel
theorem dX7_columnOf_26 : decode cX7_columnOf 26 = .ok (.isub, 1) := by decide +kernel
theorem dX7_columnOf_27 : decode cX7_columnOf 27 = .ok (.iload 4, 2) := by decide +kernel
theorem dX7_columnOf_29 : decode cX7_columnOf 29 = .ok (.invokestatic 65, 3) := by decide +kernel
theorem dX7_columnOf_32 : decode cX7_columnOf 32 = .ok (.invokestatic 71, 3) := by decide +kernel
theorem dX7_columnOf_35 : decode cX7_columnOf 35 = .ok (.ireturn, 1) := by decide +kernel
theorem dX7_rowOf_0 : decode cX7_rowOf 0 = .ok (.aload_n 1, 1) := by decide +kernel
theorem dX7_rowOf_1 : decode cX7_rowOf 1 = .ok (.getfield 74, 3) := by decide +kernel
theorem dX7_rowOf_4 : decode cX7_rowOf 4 = .ok (.iload_n 2, 1) := by decide +kernel
theorem dX7_rowOf_5 : decode cX7_rowOf 5 = .ok (.iaload, 1) := by decide +kernel
theorem dX7_rowOf_6 : decode cX7_rowOf 6 = .ok (.aload_n 1, 1) := by decide +kernel
theorem dX7_rowOf_7 : decode cX7_rowOf 7 = .ok (.getfield 76, 3) := by decide +kernel
theorem dX7_rowOf_10 : decode cX7_rowOf 10 = .ok (.iload_n 2, 1) := by decide +kernel
theorem dX7_rowOf_11 : decode cX7_rowOf 11 = .ok (.iaload, 1) := by decide +kernel
theorem dX7_rowOf_12 : decode cX7_rowOf 12 = .ok (.iload_n 3, 1) := by decide +kernel
theorem dX7_rowOf_13 : decode cX7_rowOf 13 = .ok (.imul, 1) := by decide +kernel
theorem dX7_rowOf_14 : decode cX7_rowOf 14 = .ok (.bipush 100, 2) := by decide +kernel
theorem dX7_rowOf_16 : decode cX7_rowOf 16 = .ok (.idiv, 1) := by decide +kernel
theorem dX7_rowOf_17 : decode cX7_rowOf 17 = .ok (.iadd, 1) := by decide +kernel
theorem dX7_rowOf_18 : decode cX7_rowOf 18 = .ok (.istore 4, 2) := by decide +kernel
theorem dX7_rowOf_20 : decode cX7_rowOf 20 = .ok (.iconst 0, 1) := by decide +kernel
theorem dX7_rowOf_21 : decode cX7_rowOf 21 = .ok (.aload_n 0, 1) := by decide +kernel
theorem dX7_rowOf_22 : decode cX7_rowOf 22 = .ok (.getfield 15, 3) := by decide +kernel
theorem dX7_rowOf_25 : decode cX7_rowOf 25 = .ok (.iconst 1, 1) := by decide +kernel
theorem dX7_rowOf_26 : decode cX7_rowOf 26 = .ok (.isub, 1) := by decide +kernel
theorem dX7_rowOf_27 : decode cX7_rowOf 27 = .ok (.iload 4, 2) := by decide +kernel
theorem dX7_rowOf_29 : decode cX7_rowOf 29 = .ok (.invokestatic 65, 3) := by decide +kernel
theorem dX7_rowOf_32 : decode cX7_rowOf 32 = .ok (.invokestatic 71, 3) := by decide +kernel
theorem dX7_rowOf_35 : decode cX7_rowOf 35 = .ok (.ireturn, 1) := by decide +kernel
theorem dX7_cellOf_0 : decode cX7_cellOf 0 = .ok (.aload_n 0, 1) := by decide +kernel
theorem dX7_cellOf_1 : decode cX7_cellOf 1 = .ok (.aload_n 0, 1) := by decide +kernel
theorem dX7_cellOf_2 : decode cX7_cellOf 2 = .ok (.aload_n 1, 1) := by decide +kernel
theorem dX7_cellOf_3 : decode cX7_cellOf 3 = .ok (.iload_n 2, 1) := by decide +kernel
theorem dX7_cellOf_4 : decode cX7_cellOf 4 = .ok (.aload_n 1, 1) := by decide +kernel
theorem dX7_cellOf_5 : decode cX7_cellOf 5 = .ok (.getfield 79, 3) := by decide +kernel
theorem dX7_cellOf_8 : decode cX7_cellOf 8 = .ok (.invokevirtual 82, 3) := by decide +kernel
theorem dX7_cellOf_11 : decode cX7_cellOf 11 = .ok (.aload_n 0, 1) := by decide +kernel
theorem dX7_cellOf_12 : decode cX7_cellOf 12 = .ok (.aload_n 1, 1) := by decide +kernel
theorem dX7_cellOf_13 : decode cX7_cellOf 13 = .ok (.iload_n 2, 1) := by decide +kernel
theorem dX7_cellOf_14 : decode cX7_cellOf 14 = .ok (.aload_n 1, 1) := by decide +kernel
theorem dX7_cellOf_15 : decode cX7_cellOf 15 = .ok (.getfield 79, 3) := by decide +kernel
theorem dX7_cellOf_18 : decode cX7_cellOf 18 = .ok (.invokevirtual 86, 3) := by decide +kernel
theorem dX7_cellOf_21 : decode cX7_cellOf 21 = .ok (.invokevirtual 89, 3) := by decide +kernel
theorem dX7_cellOf_24 : decode cX7_cellOf 24 = .ok (.ireturn, 1) := by decide +kernel
theorem dX7_isShadowed_0 : decode cX7_isShadowed 0 = .ok (.aload_n 0, 1) := by decide +kernel
theorem dX7_isShadowed_1 : decode cX7_isShadowed 1 = .ok (.getfield 18, 3) := by decide +kernel
theorem dX7_isShadowed_4 : decode cX7_isShadowed 4 = .ok (.iconst (-1), 1) := by decide +kernel
theorem dX7_isShadowed_5 : decode cX7_isShadowed 5 = .ok (.if_icmp .ne 5, 3) := by decide +kernel
theorem dX7_isShadowed_8 : decode cX7_isShadowed 8 = .ok (.iconst 0, 1) := by decide +kernel
theorem dX7_isShadowed_9 : decode cX7_isShadowed 9 = .ok (.ireturn, 1) := by decide +kernel
theorem dX7_isShadowed_10 : decode cX7_isShadowed 10 = .ok (.iload_n 1, 1) := by decide +kernel
theorem dX7_isShadowed_11 : decode cX7_isShadowed 11 = .ok (.aload_n 0, 1) := by decide +kernel
theorem dX7_isShadowed_12 : decode cX7_isShadowed 12 = .ok (.getfield 18, 3) := by decide +kernel
theorem dX7_isShadowed_15 : decode cX7_isShadowed 15 = .ok (.if_icmp .ge 11, 3) := by decide +kernel
theorem dX7_isShadowed_18 : decode cX7_isShadowed 18 = .ok (.iload_n 2, 1) := by decide +kernel
theorem dX7_isShadowed_19 : decode cX7_isShadowed 19 = .ok (.aload_n 0, 1) := by decide +kernel
theorem dX7_isShadowed_20 : decode cX7_isShadowed 20 = .ok (.getfield 18, 3) := by decide +kernel
theorem dX7_isShadowed_23 : decode cX7_isShadowed 23 = .ok (.if_icmp .gt 19, 3) := by decide +kernel
theorem dX7_isShadowed_26 : decode cX7_isShadowed 26 = .ok (.iload_n 1, 1) := by decide +kernel
theorem dX7_isShadowed_27 : decode cX7_isShadowed 27 = .ok (.aload_n 0, 1) := by decide +kernel
theorem dX7_isShadowed_28 : decode cX7_isShadowed 28 = .ok (.getfield 18, 3) := by decide +kernel
theorem dX7_isShadowed_31 : decode cX7_isShadowed 31 = .ok (.if_icmp .le 15, 3) := by decide +kernel
theorem dX7_isShadowed_34 : decode cX7_isShadowed 34 = .ok (.iload_n 2, 1) := by decide +kernel
theorem dX7_isShadowed_35 : decode cX7_isShadowed 35 = .ok (.aload_n 0, 1) := by decide +kernel
theorem dX7_isShadowed_36 : decode cX7_isShadowed 36 = .ok (.getfield 18, 3) := by decide +kernel
theorem dX7_isShadowed_39 : decode cX7_isShadowed 39 = .ok (.if_icmp .ge 7, 3) := by decide +kernel
theorem dX7_isShadowed_42 : decode cX7_isShadowed 42 = .ok (.iconst 1, 1) := by decide +kernel
theorem dX7_isShadowed_43 : decode cX7_isShadowed 43 = .ok (.goto 4, 3) := by decide +kernel
theorem dX7_isShadowed_46 : decode cX7_isShadowed 46 = .ok (.iconst 0, 1) := by decide +kernel
theorem dX7_isShadowed_47 : decode cX7_isShadowed 47 = .ok (.ireturn, 1) := by decide +kernel
theorem dX7_isBlocked_0 : decode cX7_isBlocked 0 = .ok (.aload_n 0, 1) := by decide +kernel
theorem dX7_isBlocked_1 : decode cX7_isBlocked 1 = .ok (.getfield 18, 3) := by decide +kernel
theorem dX7_isBlocked_4 : decode cX7_isBlocked 4 = .ok (.iconst (-1), 1) := by decide +kernel
theorem dX7_isBlocked_5 : decode cX7_isBlocked 5 = .ok (.if_icmp .eq 23, 3) := by decide +kernel
theorem dX7_isBlocked_8 : decode cX7_isBlocked 8 = .ok (.iload_n 2, 1) := by decide +kernel
theorem dX7_isBlocked_9 : decode cX7_isBlocked 9 = .ok (.aload_n 0, 1) := by decide +kernel
theorem dX7_isBlocked_10 : decode cX7_isBlocked 10 = .ok (.getfield 18, 3) := by decide +kernel
theorem dX7_isBlocked_13 : decode cX7_isBlocked 13 = .ok (.if_icmp .ne 15, 3) := by decide +kernel
theorem dX7_isBlocked_16 : decode cX7_isBlocked 16 = .ok (.aload_n 1, 1) := by decide +kernel
theorem dX7_isBlocked_17 : decode cX7_isBlocked 17 = .ok (.iload_n 3, 1) := by decide +kernel
theorem dX7_isBlocked_18 : decode cX7_isBlocked 18 = .ok (.invokevirtual 92, 3) := by decide +kernel
theorem dX7_isBlocked_21 : decode cX7_isBlocked 21 = .ok (.ifCond .ne 7, 3) := by decide +kernel
theorem dX7_isBlocked_24 : decode cX7_isBlocked 24 = .ok (.iconst 1, 1) := by decide +kernel
theorem dX7_isBlocked_25 : decode cX7_isBlocked 25 = .ok (.goto 4, 3) := by decide +kernel
theorem dX7_isBlocked_28 : decode cX7_isBlocked 28 = .ok (.iconst 0, 1) := by decide +kernel
theorem dX7_isBlocked_29 : decode cX7_isBlocked 29 = .ok (.ireturn, 1) := by decide +kernel
theorem dX7_lengthThrough_0 : decode cX7_lengthThrough 0 = .ok (.aload_n 0, 1) := by decide +kernel
theorem dX7_lengthThrough_1 : decode cX7_lengthThrough 1 = .ok (.getfield 43, 3) := by decide +kernel
theorem dX7_lengthThrough_4 : decode cX7_lengthThrough 4 = .ok (.iload_n 2, 1) := by decide +kernel
theorem dX7_lengthThrough_5 : decode cX7_lengthThrough 5 = .ok (.aload_n 0, 1) := by decide +kernel
theorem dX7_lengthThrough_6 : decode cX7_lengthThrough 6 = .ok (.getfield 18, 3) := by decide +kernel
theorem dX7_lengthThrough_9 : decode cX7_lengthThrough 9 = .ok (.isub, 1) := by decide +kernel
theorem dX7_lengthThrough_10 : decode cX7_lengthThrough 10 = .ok (.iload_n 3, 1) := by decide +kernel
theorem dX7_lengthThrough_11 : decode cX7_lengthThrough 11 = .ok (.iload_n 1, 1) := by decide +kernel
theorem dX7_lengthThrough_12 : decode cX7_lengthThrough 12 = .ok (.isub, 1) := by decide +kernel
theorem dX7_lengthThrough_13 : decode cX7_lengthThrough 13 = .ok (.invokevirtual 96, 3) := by decide +kernel
theorem dX7_lengthThrough_16 : decode cX7_lengthThrough 16 = .ok (.aload_n 0, 1) := by decide +kernel
theorem dX7_lengthThrough_17 : decode cX7_lengthThrough 17 = .ok (.getfield 43, 3) := by decide +kernel
theorem dX7_lengthThrough_20 : decode cX7_lengthThrough 20 = .ok (.aload_n 0, 1) := by decide +kernel
theorem dX7_lengthThrough_21 : decode cX7_lengthThrough 21 = .ok (.getfield 18, 3) := by decide +kernel
theorem dX7_lengthThrough_24 : decode cX7_lengthThrough 24 = .ok (.iload 4, 2) := by decide +kernel
theorem dX7_lengthThrough_26 : decode cX7_lengthThrough 26 = .ok (.isub, 1) := by decide +kernel
theorem dX7_lengthThrough_27 : decode cX7_lengthThrough 27 = .ok (.iload_n 1, 1) := by decide +kernel
theorem dX7_lengthThrough_28 : decode cX7_lengthThrough 28 = .ok (.iload 5, 2) := by decide +kernel
theorem dX7_lengthThrough_30 : decode cX7_lengthThrough 30 = .ok (.isub, 1) := by decide +kernel
theorem dX7_lengthThrough_31 : decode cX7_lengthThrough 31 = .ok (.invokevirtual 96, 3) := by decide +kernel
theorem dX7_lengthThrough_34 : decode cX7_lengthThrough 34 = .ok (.iadd, 1) := by decide +kernel
theorem dX7_lengthThrough_35 : decode cX7_lengthThrough 35 = .ok (.ireturn, 1) := by decide +kernel
theorem dX7_shortestLength_0 : decode cX7_shortestLength 0 = .ok (.aload_n 0, 1) := by decide +kernel
theorem dX7_shortestLength_1 : decode cX7_shortestLength 1 = .ok (.aload_n 1, 1) := by decide +kernel
theorem dX7_shortestLength_2 : decode cX7_shortestLength 2 = .ok (.iload_n 3, 1) := by decide +kernel
theorem dX7_shortestLength_3 : decode cX7_shortestLength 3 = .ok (.iload 4, 2) := by decide +kernel
theorem dX7_shortestLength_5 : decode cX7_shortestLength 5 = .ok (.invokevirtual 101, 3) := by decide +kernel
theorem dX7_shortestLength_8 : decode cX7_shortestLength 8 = .ok (.ifCond .eq 5, 3) := by decide +kernel
theorem dX7_shortestLength_11 : decode cX7_shortestLength 11 = .ok (.iconst (-1), 1) := by decide +kernel
theorem dX7_shortestLength_12 : decode cX7_shortestLength 12 = .ok (.ireturn, 1) := by decide +kernel
theorem dX7_shortestLength_13 : decode cX7_shortestLength 13 = .ok (.aload_n 0, 1) := by decide +kernel
theorem dX7_shortestLength_14 : decode cX7_shortestLength 14 = .ok (.aload_n 1, 1) := by decide +kernel
theorem dX7_shortestLength_15 : decode cX7_shortestLength 15 = .ok (.iload_n 2, 1) := by decide +kernel
theorem dX7_shortestLength_16 : decode cX7_shortestLength 16 = .ok (.aload_n 1, 1) := by decide +kernel
theorem dX7_shortestLength_17 : decode cX7_shortestLength 17 = .ok (.getfield 79, 3) := by decide +kernel
theorem dX7_shortestLength_20 : decode cX7_shortestLength 20 = .ok (.invokevirtual 82, 3) := by decide +kernel
theorem dX7_shortestLength_23 : decode cX7_shortestLength 23 = .ok (.istore 5, 2) := by decide +kernel
theorem dX7_shortestLength_25 : decode cX7_shortestLength 25 = .ok (.aload_n 0, 1) := by decide +kernel
theorem dX7_shortestLength_26 : decode cX7_shortestLength 26 = .ok (.aload_n 1, 1) := by decide +kernel
theorem dX7_shortestLength_27 : decode cX7_shortestLength 27 = .ok (.iload_n 2, 1) := by decide +kernel
theorem dX7_shortestLength_28 : decode cX7_shortestLength 28 = .ok (.aload_n 1, 1) := by decide +kernel
theorem dX7_shortestLength_29 : decode cX7_shortestLength 29 = .ok (.getfield 79, 3) := by decide +kernel
theorem dX7_shortestLength_32 : decode cX7_shortestLength 32 = .ok (.invokevirtual 86, 3) := by decide +kernel
theorem dX7_shortestLength_35 : decode cX7_shortestLength 35 = .ok (.istore 6, 2) := by decide +kernel
theorem dX7_shortestLength_37 : decode cX7_shortestLength 37 = .ok (.aload_n 0, 1) := by decide +kernel
theorem dX7_shortestLength_38 : decode cX7_shortestLength 38 = .ok (.iload 5, 2) := by decide +kernel
theorem dX7_shortestLength_40 : decode cX7_shortestLength 40 = .ok (.iload_n 3, 1) := by decide +kernel
theorem dX7_shortestLength_41 : decode cX7_shortestLength 41 = .ok (.invokevirtual 105, 3) := by decide +kernel
theorem dX7_shortestLength_44 : decode cX7_shortestLength 44 = .ok (.ifCond .ne 20, 3) := by decide +kernel
theorem dX7_shortestLength_47 : decode cX7_shortestLength 47 = .ok (.aload_n 0, 1) := by decide +kernel
theorem dX7_shortestLength_48 : decode cX7_shortestLength 48 = .ok (.getfield 43, 3) := by decide +kernel
theorem dX7_shortestLength_51 : decode cX7_shortestLength 51 = .ok (.iload 5, 2) := by decide +kernel
theorem dX7_shortestLength_53 : decode cX7_shortestLength 53 = .ok (.iload_n 3, 1) := by decide +kernel
theorem dX7_shortestLength_54 : decode cX7_shortestLength 54 = .ok (.isub, 1) := by decide +kernel
theorem dX7_shortestLength_55 : decode cX7_shortestLength 55 = .ok (.iload 6, 2) := by decide +kernel
theorem dX7_shortestLength_57 : decode cX7_shortestLength 57 = .ok (.iload 4, 2) := by decide +kernel
theorem dX7_shortestLength_59 : decode cX7_shortestLength 59 = .ok (.isub, 1) := by decide +kernel
theorem dX7_shortestLength_60 : decode cX7_shortestLength 60 = .ok (.invokevirtual 96, 3) := by decide +kernel
theorem dX7_shortestLength_63 : decode cX7_shortestLength 63 = .ok (.ireturn, 1) := by decide +kernel
theorem dX7_shortestLength_64 : decode cX7_shortestLength 64 = .ok (.iconst (-1), 1) := by decide +kernel
theorem dX7_shortestLength_65 : decode cX7_shortestLength 65 = .ok (.istore 7, 2) := by decide +kernel
theorem dX7_shortestLength_67 : decode cX7_shortestLength 67 = .ok (.iconst 0, 1) := by decide +kernel
theorem dX7_shortestLength_68 : decode cX7_shortestLength 68 = .ok (.istore 8, 2) := by decide +kernel
theorem dX7_shortestLength_70 : decode cX7_shortestLength 70 = .ok (.iload 8, 2) := by decide +kernel
theorem dX7_shortestLength_72 : decode cX7_shortestLength 72 = .ok (.aload_n 0, 1) := by decide +kernel
theorem dX7_shortestLength_73 : decode cX7_shortestLength 73 = .ok (.getfield 15, 3) := by decide +kernel
theorem dX7_shortestLength_76 : decode cX7_shortestLength 76 = .ok (.if_icmp .ge 53, 3) := by decide +kernel
theorem dX7_shortestLength_79 : decode cX7_shortestLength 79 = .ok (.aload_n 1, 1) := by decide +kernel
theorem dX7_shortestLength_80 : decode cX7_shortestLength 80 = .ok (.iload 8, 2) := by decide +kernel
theorem dX7_shortestLength_82 : decode cX7_shortestLength 82 = .ok (.invokevirtual 92, 3) := by decide +kernel
theorem dX7_shortestLength_85 : decode cX7_shortestLength 85 = .ok (.ifCond .eq 38, 3) := by decide +kernel
theorem dX7_shortestLength_88 : decode cX7_shortestLength 88 = .ok (.aload_n 0, 1) := by decide +kernel
theorem dX7_shortestLength_89 : decode cX7_shortestLength 89 = .ok (.iload 8, 2) := by decide +kernel
theorem dX7_shortestLength_91 : decode cX7_shortestLength 91 = .ok (.iload 5, 2) := by decide +kernel
theorem dX7_shortestLength_93 : decode cX7_shortestLength 93 = .ok (.iload 6, 2) := by decide +kernel
theorem dX7_shortestLength_95 : decode cX7_shortestLength 95 = .ok (.iload_n 3, 1) := by decide +kernel
theorem dX7_shortestLength_96 : decode cX7_shortestLength 96 = .ok (.iload 4, 2) := by decide +kernel
theorem dX7_shortestLength_98 : decode cX7_shortestLength 98 = .ok (.invokevirtual 109, 3) := by decide +kernel
theorem dX7_shortestLength_101 : decode cX7_shortestLength 101 = .ok (.istore 9, 2) := by decide +kernel
theorem dX7_shortestLength_103 : decode cX7_shortestLength 103 = .ok (.iload 7, 2) := by decide +kernel
theorem dX7_shortestLength_105 : decode cX7_shortestLength 105 = .ok (.iconst (-1), 1) := by decide +kernel
theorem dX7_shortestLength_106 : decode cX7_shortestLength 106 = .ok (.if_icmp .ne 8, 3) := by decide +kernel
theorem dX7_shortestLength_109 : decode cX7_shortestLength 109 = .ok (.iload 9, 2) := by decide +kernel
theorem dX7_shortestLength_111 : decode cX7_shortestLength 111 = .ok (.goto 10, 3) := by decide +kernel
theorem dX7_shortestLength_114 : decode cX7_shortestLength 114 = .ok (.iload 7, 2) := by decide +kernel
theorem dX7_shortestLength_116 : decode cX7_shortestLength 116 = .ok (.iload 9, 2) := by decide +kernel
theorem dX7_shortestLength_118 : decode cX7_shortestLength 118 = .ok (.invokestatic 65, 3) := by decide +kernel
theorem dX7_shortestLength_121 : decode cX7_shortestLength 121 = .ok (.istore 7, 2) := by decide +kernel
theorem dX7_shortestLength_123 : decode cX7_shortestLength 123 = .ok (.iinc 8 1, 3) := by decide +kernel
theorem dX7_shortestLength_126 : decode cX7_shortestLength 126 = .ok (.goto (-56), 3) := by decide +kernel
theorem dX7_shortestLength_129 : decode cX7_shortestLength 129 = .ok (.iload 7, 2) := by decide +kernel
theorem dX7_shortestLength_131 : decode cX7_shortestLength 131 = .ok (.ireturn, 1) := by decide +kernel
theorem dX7_firstArrival_0 : decode cX7_firstArrival 0 = .ok (.aload_n 0, 1) := by decide +kernel
theorem dX7_firstArrival_1 : decode cX7_firstArrival 1 = .ok (.aload_n 1, 1) := by decide +kernel
theorem dX7_firstArrival_2 : decode cX7_firstArrival 2 = .ok (.iload_n 2, 1) := by decide +kernel
theorem dX7_firstArrival_3 : decode cX7_firstArrival 3 = .ok (.iload_n 3, 1) := by decide +kernel
theorem dX7_firstArrival_4 : decode cX7_firstArrival 4 = .ok (.iload 4, 2) := by decide +kernel
theorem dX7_firstArrival_6 : decode cX7_firstArrival 6 = .ok (.invokevirtual 113, 3) := by decide +kernel
theorem dX7_firstArrival_9 : decode cX7_firstArrival 9 = .ok (.istore 5, 2) := by decide +kernel
theorem dX7_firstArrival_11 : decode cX7_firstArrival 11 = .ok (.iload 5, 2) := by decide +kernel
theorem dX7_firstArrival_13 : decode cX7_firstArrival 13 = .ok (.iconst (-1), 1) := by decide +kernel
theorem dX7_firstArrival_14 : decode cX7_firstArrival 14 = .ok (.if_icmp .ne 5, 3) := by decide +kernel
theorem dX7_firstArrival_17 : decode cX7_firstArrival 17 = .ok (.iconst (-1), 1) := by decide +kernel
theorem dX7_firstArrival_18 : decode cX7_firstArrival 18 = .ok (.ireturn, 1) := by decide +kernel
theorem dX7_firstArrival_19 : decode cX7_firstArrival 19 = .ok (.aload_n 0, 1) := by decide +kernel
theorem dX7_firstArrival_20 : decode cX7_firstArrival 20 = .ok (.getfield 23, 3) := by decide +kernel
theorem dX7_firstArrival_23 : decode cX7_firstArrival 23 = .ok (.iload_n 2, 1) := by decide +kernel
theorem dX7_firstArrival_24 : decode cX7_firstArrival 24 = .ok (.aaload, 1) := by decide +kernel
theorem dX7_firstArrival_25 : decode cX7_firstArrival 25 = .ok (.getfield 117, 3) := by decide +kernel
theorem dX7_firstArrival_28 : decode cX7_firstArrival 28 = .ok (.aload_n 0, 1) := by decide +kernel
theorem dX7_firstArrival_29 : decode cX7_firstArrival 29 = .ok (.getfield 23, 3) := by decide +kernel
theorem dX7_firstArrival_32 : decode cX7_firstArrival 32 = .ok (.iload_n 2, 1) := by decide +kernel
theorem dX7_firstArrival_33 : decode cX7_firstArrival 33 = .ok (.aaload, 1) := by decide +kernel
theorem dX7_firstArrival_34 : decode cX7_firstArrival 34 = .ok (.iload 5, 2) := by decide +kernel
theorem dX7_firstArrival_36 : decode cX7_firstArrival 36 = .ok (.invokevirtual 120, 3) := by decide +kernel
theorem dX7_firstArrival_39 : decode cX7_firstArrival 39 = .ok (.iadd, 1) := by decide +kernel
theorem dX7_firstArrival_40 : decode cX7_firstArrival 40 = .ok (.ireturn, 1) := by decide +kernel
theorem dX7_imageColumn_0 : decode cX7_imageColumn 0 = .ok (.iload_n 1, 1) := by decide +kernel
theorem dX7_imageColumn_1 : decode cX7_imageColumn 1 = .ok (.ifCond .ne 7, 3) := by decide +kernel
theorem dX7_imageColumn_4 : decode cX7_imageColumn 4 = .ok (.iconst (-1), 1) := by decide +kernel
theorem dX7_imageColumn_5 : decode cX7_imageColumn 5 = .ok (.iload_n 2, 1) := by decide +kernel
theorem dX7_imageColumn_6 : decode cX7_imageColumn 6 = .ok (.isub, 1) := by decide +kernel
theorem dX7_imageColumn_7 : decode cX7_imageColumn 7 = .ok (.ireturn, 1) := by decide +kernel
theorem dX7_imageColumn_8 : decode cX7_imageColumn 8 = .ok (.iload_n 1, 1) := by decide +kernel
theorem dX7_imageColumn_9 : decode cX7_imageColumn 9 = .ok (.iconst 1, 1) := by decide +kernel
theorem dX7_imageColumn_10 : decode cX7_imageColumn 10 = .ok (.if_icmp .ne 16, 3) := by decide +kernel
theorem dX7_imageColumn_13 : decode cX7_imageColumn 13 = .ok (.iconst 2, 1) := by decide +kernel
theorem dX7_imageColumn_14 : decode cX7_imageColumn 14 = .ok (.aload_n 0, 1) := by decide +kernel
theorem dX7_imageColumn_15 : decode cX7_imageColumn 15 = .ok (.getfield 9, 3) := by decide +kernel
theorem dX7_imageColumn_18 : decode cX7_imageColumn 18 = .ok (.imul, 1) := by decide +kernel
theorem dX7_imageColumn_19 : decode cX7_imageColumn 19 = .ok (.iconst 1, 1) := by decide +kernel
theorem dX7_imageColumn_20 : decode cX7_imageColumn 20 = .ok (.isub, 1) := by decide +kernel
theorem dX7_imageColumn_21 : decode cX7_imageColumn 21 = .ok (.iload_n 2, 1) := by decide +kernel
theorem dX7_imageColumn_22 : decode cX7_imageColumn 22 = .ok (.isub, 1) := by decide +kernel
theorem dX7_imageColumn_23 : decode cX7_imageColumn 23 = .ok (.goto 4, 3) := by decide +kernel
theorem dX7_imageColumn_26 : decode cX7_imageColumn 26 = .ok (.iload_n 2, 1) := by decide +kernel
theorem dX7_imageColumn_27 : decode cX7_imageColumn 27 = .ok (.ireturn, 1) := by decide +kernel
theorem dX7_imageRow_0 : decode cX7_imageRow 0 = .ok (.iload_n 1, 1) := by decide +kernel
theorem dX7_imageRow_1 : decode cX7_imageRow 1 = .ok (.iconst 2, 1) := by decide +kernel
theorem dX7_imageRow_2 : decode cX7_imageRow 2 = .ok (.if_icmp .ne 7, 3) := by decide +kernel
theorem dX7_imageRow_5 : decode cX7_imageRow 5 = .ok (.iconst (-1), 1) := by decide +kernel
theorem dX7_imageRow_6 : decode cX7_imageRow 6 = .ok (.iload_n 2, 1) := by decide +kernel
theorem dX7_imageRow_7 : decode cX7_imageRow 7 = .ok (.isub, 1) := by decide +kernel
theorem dX7_imageRow_8 : decode cX7_imageRow 8 = .ok (.ireturn, 1) := by decide +kernel
theorem dX7_imageRow_9 : decode cX7_imageRow 9 = .ok (.iload_n 1, 1) := by decide +kernel
theorem dX7_imageRow_10 : decode cX7_imageRow 10 = .ok (.iconst 3, 1) := by decide +kernel
theorem dX7_imageRow_11 : decode cX7_imageRow 11 = .ok (.if_icmp .ne 16, 3) := by decide +kernel
theorem dX7_imageRow_14 : decode cX7_imageRow 14 = .ok (.iconst 2, 1) := by decide +kernel
theorem dX7_imageRow_15 : decode cX7_imageRow 15 = .ok (.aload_n 0, 1) := by decide +kernel
theorem dX7_imageRow_16 : decode cX7_imageRow 16 = .ok (.getfield 15, 3) := by decide +kernel
theorem dX7_imageRow_19 : decode cX7_imageRow 19 = .ok (.imul, 1) := by decide +kernel
theorem dX7_imageRow_20 : decode cX7_imageRow 20 = .ok (.iconst 1, 1) := by decide +kernel
theorem dX7_imageRow_21 : decode cX7_imageRow 21 = .ok (.isub, 1) := by decide +kernel
theorem dX7_imageRow_22 : decode cX7_imageRow 22 = .ok (.iload_n 2, 1) := by decide +kernel
theorem dX7_imageRow_23 : decode cX7_imageRow 23 = .ok (.isub, 1) := by decide +kernel
theorem dX7_imageRow_24 : decode cX7_imageRow 24 = .ok (.goto 4, 3) := by decide +kernel
theorem dX7_imageRow_27 : decode cX7_imageRow 27 = .ok (.iload_n 2, 1) := by decide +kernel
theorem dX7_imageRow_28 : decode cX7_imageRow 28 = .ok (.ireturn, 1) := by decide +kernel
theorem dX7_partOf_0 : decode cX7_partOf 0 = .ok (.aload_n 1, 1) := by decide +kernel
theorem dX7_partOf_1 : decode cX7_partOf 1 = .ok (.getfield 124, 3) := by decide +kernel
theorem dX7_partOf_4 : decode cX7_partOf 4 = .ok (.iload_n 2, 1) := by decide +kernel
theorem dX7_partOf_5 : decode cX7_partOf 5 = .ok (.baload, 1) := by decide +kernel
theorem dX7_partOf_6 : decode cX7_partOf 6 = .ok (.ifCond .eq 14, 3) := by decide +kernel
theorem dX7_partOf_9 : decode cX7_partOf 9 = .ok (.aload_n 0, 1) := by decide +kernel
theorem dX7_partOf_10 : decode cX7_partOf 10 = .ok (.aload_n 1, 1) := by decide +kernel
theorem dX7_partOf_11 : decode cX7_partOf 11 = .ok (.iload_n 3, 1) := by decide +kernel
theorem dX7_partOf_12 : decode cX7_partOf 12 = .ok (.iload 4, 2) := by decide +kernel
theorem dX7_partOf_14 : decode cX7_partOf 14 = .ok (.invokevirtual 101, 3) := by decide +kernel
theorem dX7_partOf_17 : decode cX7_partOf 17 = .ok (.ifCond .eq 5, 3) := by decide +kernel
theorem dX7_partOf_20 : decode cX7_partOf 20 = .ok (.iconst 0, 1) := by decide +kernel
theorem dX7_partOf_21 : decode cX7_partOf 21 = .ok (.ireturn, 1) := by decide +kernel
theorem dX7_partOf_22 : decode cX7_partOf 22 = .ok (.aload_n 0, 1) := by decide +kernel
theorem dX7_partOf_23 : decode cX7_partOf 23 = .ok (.getfield 23, 3) := by decide +kernel
theorem dX7_partOf_26 : decode cX7_partOf 26 = .ok (.iload_n 2, 1) := by decide +kernel
theorem dX7_partOf_27 : decode cX7_partOf 27 = .ok (.aaload, 1) := by decide +kernel
theorem dX7_partOf_28 : decode cX7_partOf 28 = .ok (.astore 6, 2) := by decide +kernel
theorem dX7_partOf_30 : decode cX7_partOf 30 = .ok (.aload_n 1, 1) := by decide +kernel
theorem dX7_partOf_31 : decode cX7_partOf 31 = .ok (.getfield 128, 3) := by decide +kernel
theorem dX7_partOf_34 : decode cX7_partOf 34 = .ok (.iload_n 2, 1) := by decide +kernel
theorem dX7_partOf_35 : decode cX7_partOf 35 = .ok (.iaload, 1) := by decide +kernel
theorem dX7_partOf_36 : decode cX7_partOf 36 = .ok (.istore 7, 2) := by decide +kernel
theorem dX7_partOf_38 : decode cX7_partOf 38 = .ok (.aload_n 1, 1) := by decide +kernel
theorem dX7_partOf_39 : decode cX7_partOf 39 = .ok (.getfield 131, 3) := by decide +kernel
theorem dX7_partOf_42 : decode cX7_partOf 42 = .ok (.iload_n 2, 1) := by decide +kernel
theorem dX7_partOf_43 : decode cX7_partOf 43 = .ok (.iaload, 1) := by decide +kernel
theorem dX7_partOf_44 : decode cX7_partOf 44 = .ok (.istore 8, 2) := by decide +kernel
theorem dX7_partOf_46 : decode cX7_partOf 46 = .ok (.aload_n 0, 1) := by decide +kernel
theorem dX7_partOf_47 : decode cX7_partOf 47 = .ok (.aload_n 1, 1) := by decide +kernel
theorem dX7_partOf_48 : decode cX7_partOf 48 = .ok (.iload_n 2, 1) := by decide +kernel
theorem dX7_partOf_49 : decode cX7_partOf 49 = .ok (.iload 5, 2) := by decide +kernel
theorem dX7_partOf_51 : decode cX7_partOf 51 = .ok (.invokevirtual 82, 3) := by decide +kernel
theorem dX7_partOf_54 : decode cX7_partOf 54 = .ok (.istore 9, 2) := by decide +kernel
theorem dX7_partOf_56 : decode cX7_partOf 56 = .ok (.aload_n 0, 1) := by decide +kernel
theorem dX7_partOf_57 : decode cX7_partOf 57 = .ok (.aload_n 1, 1) := by decide +kernel
theorem dX7_partOf_58 : decode cX7_partOf 58 = .ok (.iload_n 2, 1) := by decide +kernel
theorem dX7_partOf_59 : decode cX7_partOf 59 = .ok (.iload 5, 2) := by decide +kernel
theorem dX7_partOf_61 : decode cX7_partOf 61 = .ok (.invokevirtual 86, 3) := by decide +kernel
theorem dX7_partOf_64 : decode cX7_partOf 64 = .ok (.istore 10, 2) := by decide +kernel
theorem dX7_partOf_66 : decode cX7_partOf 66 = .ok (.iconst 0, 1) := by decide +kernel
theorem dX7_partOf_67 : decode cX7_partOf 67 = .ok (.istore 11, 2) := by decide +kernel
theorem dX7_partOf_69 : decode cX7_partOf 69 = .ok (.aload_n 0, 1) := by decide +kernel
theorem dX7_partOf_70 : decode cX7_partOf 70 = .ok (.iload 9, 2) := by decide +kernel
theorem dX7_partOf_72 : decode cX7_partOf 72 = .ok (.iload_n 3, 1) := by decide +kernel
theorem dX7_partOf_73 : decode cX7_partOf 73 = .ok (.invokevirtual 105, 3) := by decide +kernel
theorem dX7_partOf_76 : decode cX7_partOf 76 = .ok (.ifCond .eq 89, 3) := by decide +kernel
theorem dX7_partOf_79 : decode cX7_partOf 79 = .ok (.iconst 0, 1) := by decide +kernel
theorem dX7_partOf_80 : decode cX7_partOf 80 = .ok (.istore 12, 2) := by decide +kernel
theorem dX7_partOf_82 : decode cX7_partOf 82 = .ok (.iload 12, 2) := by decide +kernel
theorem dX7_partOf_84 : decode cX7_partOf 84 = .ok (.aload_n 0, 1) := by decide +kernel
theorem dX7_partOf_85 : decode cX7_partOf 85 = .ok (.getfield 15, 3) := by decide +kernel
theorem dX7_partOf_88 : decode cX7_partOf 88 = .ok (.if_icmp .ge 55, 3) := by decide +kernel
theorem dX7_partOf_91 : decode cX7_partOf 91 = .ok (.aload_n 1, 1) := by decide +kernel
theorem dX7_partOf_92 : decode cX7_partOf 92 = .ok (.iload 12, 2) := by decide +kernel
theorem dX7_partOf_94 : decode cX7_partOf 94 = .ok (.invokevirtual 92, 3) := by decide +kernel
theorem dX7_partOf_97 : decode cX7_partOf 97 = .ok (.ifCond .eq 40, 3) := by decide +kernel
theorem dX7_partOf_100 : decode cX7_partOf 100 = .ok (.aload_n 0, 1) := by decide +kernel
theorem dX7_partOf_101 : decode cX7_partOf 101 = .ok (.iload 12, 2) := by decide +kernel
theorem dX7_partOf_103 : decode cX7_partOf 103 = .ok (.iload 9, 2) := by decide +kernel
theorem dX7_partOf_105 : decode cX7_partOf 105 = .ok (.iload 10, 2) := by decide +kernel
theorem dX7_partOf_107 : decode cX7_partOf 107 = .ok (.iload_n 3, 1) := by decide +kernel
theorem dX7_partOf_108 : decode cX7_partOf 108 = .ok (.iload 4, 2) := by decide +kernel
theorem dX7_partOf_110 : decode cX7_partOf 110 = .ok (.invokevirtual 109, 3) := by decide +kernel
theorem dX7_partOf_113 : decode cX7_partOf 113 = .ok (.istore 13, 2) := by decide +kernel
theorem dX7_partOf_115 : decode cX7_partOf 115 = .ok (.iload 11, 2) := by decide +kernel
theorem dX7_partOf_117 : decode cX7_partOf 117 = .ok (.aload 6, 2) := by decide +kernel
theorem dX7_partOf_119 : decode cX7_partOf 119 = .ok (.iload 7, 2) := by decide +kernel
theorem dX7_partOf_121 : decode cX7_partOf 121 = .ok (.iload 8, 2) := by decide +kernel
theorem dX7_partOf_123 : decode cX7_partOf 123 = .ok (.iload 13, 2) := by decide +kernel
theorem dX7_partOf_125 : decode cX7_partOf 125 = .ok (.iload 5, 2) := by decide +kernel
theorem dX7_partOf_127 : decode cX7_partOf 127 = .ok (.aload_n 0, 1) := by decide +kernel
theorem dX7_partOf_128 : decode cX7_partOf 128 = .ok (.getfield 134, 3) := by decide +kernel
theorem dX7_partOf_131 : decode cX7_partOf 131 = .ok (.invokevirtual 137, 3) := by decide +kernel
theorem dX7_partOf_134 : decode cX7_partOf 134 = .ok (.iadd, 1) := by decide +kernel
theorem dX7_partOf_135 : decode cX7_partOf 135 = .ok (.istore 11, 2) := by decide +kernel
theorem dX7_partOf_137 : decode cX7_partOf 137 = .ok (.iinc 12 1, 3) := by decide +kernel
theorem dX7_partOf_140 : decode cX7_partOf 140 = .ok (.goto (-58), 3) := by decide +kernel
theorem dX7_partOf_143 : decode cX7_partOf 143 = .ok (.aload_n 1, 1) := by decide +kernel
theorem dX7_partOf_144 : decode cX7_partOf 144 = .ok (.getfield 140, 3) := by decide +kernel
theorem dX7_partOf_147 : decode cX7_partOf 147 = .ok (.ifCond .ne 7, 3) := by decide +kernel
theorem dX7_partOf_150 : decode cX7_partOf 150 = .ok (.iconst 0, 1) := by decide +kernel
theorem dX7_partOf_151 : decode cX7_partOf 151 = .ok (.goto 13, 3) := by decide +kernel
theorem dX7_partOf_154 : decode cX7_partOf 154 = .ok (.iload 11, 2) := by decide +kernel
theorem dX7_partOf_156 : decode cX7_partOf 156 = .ok (.aload_n 1, 1) := by decide +kernel
theorem dX7_partOf_157 : decode cX7_partOf 157 = .ok (.getfield 140, 3) := by decide +kernel
theorem dX7_partOf_160 : decode cX7_partOf 160 = .ok (.invokestatic 143, 3) := by decide +kernel
theorem dX7_partOf_163 : decode cX7_partOf 163 = .ok (.idiv, 1) := by decide +kernel
theorem dX7_partOf_164 : decode cX7_partOf 164 = .ok (.ireturn, 1) := by decide +kernel
theorem dX7_partOf_165 : decode cX7_partOf 165 = .ok (.aload 6, 2) := by decide +kernel
theorem dX7_partOf_167 : decode cX7_partOf 167 = .ok (.iload 7, 2) := by decide +kernel
theorem dX7_partOf_169 : decode cX7_partOf 169 = .ok (.iload 8, 2) := by decide +kernel
theorem dX7_partOf_171 : decode cX7_partOf 171 = .ok (.aload_n 0, 1) := by decide +kernel
theorem dX7_partOf_172 : decode cX7_partOf 172 = .ok (.getfield 43, 3) := by decide +kernel
theorem dX7_partOf_175 : decode cX7_partOf 175 = .ok (.iload 9, 2) := by decide +kernel
theorem dX7_partOf_177 : decode cX7_partOf 177 = .ok (.iload_n 3, 1) := by decide +kernel
theorem dX7_partOf_178 : decode cX7_partOf 178 = .ok (.isub, 1) := by decide +kernel
theorem dX7_partOf_179 : decode cX7_partOf 179 = .ok (.iload 10, 2) := by decide +kernel
theorem dX7_partOf_181 : decode cX7_partOf 181 = .ok (.iload 4, 2) := by decide +kernel
theorem dX7_partOf_183 : decode cX7_partOf 183 = .ok (.isub, 1) := by decide +kernel
theorem dX7_partOf_184 : decode cX7_partOf 184 = .ok (.invokevirtual 96, 3) := by decide +kernel
theorem dX7_partOf_187 : decode cX7_partOf 187 = .ok (.iload 5, 2) := by decide +kernel
theorem dX7_partOf_189 : decode cX7_partOf 189 = .ok (.aload_n 0, 1) := by decide +kernel
theorem dX7_partOf_190 : decode cX7_partOf 190 = .ok (.getfield 134, 3) := by decide +kernel
theorem dX7_partOf_193 : decode cX7_partOf 193 = .ok (.invokevirtual 137, 3) := by decide +kernel
theorem dX7_partOf_196 : decode cX7_partOf 196 = .ok (.istore 11, 2) := by decide +kernel
theorem dX7_partOf_198 : decode cX7_partOf 198 = .ok (.iconst 0, 1) := by decide +kernel
theorem dX7_partOf_199 : decode cX7_partOf 199 = .ok (.istore 12, 2) := by decide +kernel
theorem dX7_partOf_201 : decode cX7_partOf 201 = .ok (.iload 12, 2) := by decide +kernel
theorem dX7_partOf_203 : decode cX7_partOf 203 = .ok (.iconst 4, 1) := by decide +kernel
theorem dX7_partOf_204 : decode cX7_partOf 204 = .ok (.if_icmp .ge 90, 3) := by decide +kernel
theorem dX7_partOf_207 : decode cX7_partOf 207 = .ok (.aload_n 0, 1) := by decide +kernel
theorem dX7_partOf_208 : decode cX7_partOf 208 = .ok (.getfield 40, 3) := by decide +kernel
theorem dX7_partOf_211 : decode cX7_partOf 211 = .ok (.iload 12, 2) := by decide +kernel
theorem dX7_partOf_213 : decode cX7_partOf 213 = .ok (.iaload, 1) := by decide +kernel
theorem dX7_partOf_214 : decode cX7_partOf 214 = .ok (.ifCond .le 74, 3) := by decide +kernel
theorem dX7_partOf_217 : decode cX7_partOf 217 = .ok (.aload_n 0, 1) := by decide +kernel
theorem dX7_partOf_218 : decode cX7_partOf 218 = .ok (.iload 12, 2) := by decide +kernel
theorem dX7_partOf_220 : decode cX7_partOf 220 = .ok (.iload 9, 2) := by decide +kernel
theorem dX7_partOf_222 : decode cX7_partOf 222 = .ok (.invokevirtual 148, 3) := by decide +kernel
theorem dX7_partOf_225 : decode cX7_partOf 225 = .ok (.iload_n 3, 1) := by decide +kernel
theorem dX7_partOf_226 : decode cX7_partOf 226 = .ok (.isub, 1) := by decide +kernel
theorem dX7_partOf_227 : decode cX7_partOf 227 = .ok (.istore 13, 2) := by decide +kernel
theorem dX7_partOf_229 : decode cX7_partOf 229 = .ok (.aload_n 0, 1) := by decide +kernel
theorem dX7_partOf_230 : decode cX7_partOf 230 = .ok (.iload 12, 2) := by decide +kernel
theorem dX7_partOf_232 : decode cX7_partOf 232 = .ok (.iload 10, 2) := by decide +kernel
theorem dX7_partOf_234 : decode cX7_partOf 234 = .ok (.invokevirtual 151, 3) := by decide +kernel
theorem dX7_partOf_237 : decode cX7_partOf 237 = .ok (.iload 4, 2) := by decide +kernel
theorem dX7_partOf_239 : decode cX7_partOf 239 = .ok (.isub, 1) := by decide +kernel
theorem dX7_partOf_240 : decode cX7_partOf 240 = .ok (.istore 14, 2) := by decide +kernel
theorem dX7_partOf_242 : decode cX7_partOf 242 = .ok (.aload_n 0, 1) := by decide +kernel
theorem dX7_partOf_243 : decode cX7_partOf 243 = .ok (.getfield 43, 3) := by decide +kernel
theorem dX7_partOf_246 : decode cX7_partOf 246 = .ok (.iload 13, 2) := by decide +kernel
theorem dX7_partOf_248 : decode cX7_partOf 248 = .ok (.iload 14, 2) := by decide +kernel
theorem dX7_partOf_250 : decode cX7_partOf 250 = .ok (.invokevirtual 96, 3) := by decide +kernel
theorem dX7_partOf_253 : decode cX7_partOf 253 = .ok (.istore 15, 2) := by decide +kernel
theorem dX7_partOf_255 : decode cX7_partOf 255 = .ok (.iload 11, 2) := by decide +kernel
theorem dX7_partOf_257 : decode cX7_partOf 257 = .ok (.aload 6, 2) := by decide +kernel
theorem dX7_partOf_259 : decode cX7_partOf 259 = .ok (.iload 7, 2) := by decide +kernel
theorem dX7_partOf_261 : decode cX7_partOf 261 = .ok (.iload 8, 2) := by decide +kernel
theorem dX7_partOf_263 : decode cX7_partOf 263 = .ok (.iload 15, 2) := by decide +kernel
theorem dX7_partOf_265 : decode cX7_partOf 265 = .ok (.iload 5, 2) := by decide +kernel
theorem dX7_partOf_267 : decode cX7_partOf 267 = .ok (.aload_n 0, 1) := by decide +kernel
theorem dX7_partOf_268 : decode cX7_partOf 268 = .ok (.getfield 134, 3) := by decide +kernel
theorem dX7_partOf_271 : decode cX7_partOf 271 = .ok (.invokevirtual 137, 3) := by decide +kernel
theorem dX7_partOf_274 : decode cX7_partOf 274 = .ok (.aload_n 0, 1) := by decide +kernel
theorem dX7_partOf_275 : decode cX7_partOf 275 = .ok (.getfield 40, 3) := by decide +kernel
theorem dX7_partOf_278 : decode cX7_partOf 278 = .ok (.iload 12, 2) := by decide +kernel
theorem dX7_partOf_280 : decode cX7_partOf 280 = .ok (.iaload, 1) := by decide +kernel
theorem dX7_partOf_281 : decode cX7_partOf 281 = .ok (.imul, 1) := by decide +kernel
theorem dX7_partOf_282 : decode cX7_partOf 282 = .ok (.bipush 100, 2) := by decide +kernel
theorem dX7_partOf_284 : decode cX7_partOf 284 = .ok (.idiv, 1) := by decide +kernel
theorem dX7_partOf_285 : decode cX7_partOf 285 = .ok (.iadd, 1) := by decide +kernel
theorem dX7_partOf_286 : decode cX7_partOf 286 = .ok (.istore 11, 2) := by decide +kernel
theorem dX7_partOf_288 : decode cX7_partOf 288 = .ok (.iinc 12 1, 3) := by decide +kernel
theorem dX7_partOf_291 : decode cX7_partOf 291 = .ok (.goto (-90), 3) := by decide +kernel
theorem dX7_partOf_294 : decode cX7_partOf 294 = .ok (.iload 11, 2) := by decide +kernel
theorem dX7_partOf_296 : decode cX7_partOf 296 = .ok (.ireturn, 1) := by decide +kernel
theorem dX7_waveOf_0 : decode cX7_waveOf 0 = .ok (.iconst 0, 1) := by decide +kernel
theorem dX7_waveOf_1 : decode cX7_waveOf 1 = .ok (.istore 5, 2) := by decide +kernel
theorem dX7_waveOf_3 : decode cX7_waveOf 3 = .ok (.iconst 0, 1) := by decide +kernel
theorem dX7_waveOf_4 : decode cX7_waveOf 4 = .ok (.istore 6, 2) := by decide +kernel
theorem dX7_waveOf_6 : decode cX7_waveOf 6 = .ok (.iload 6, 2) := by decide +kernel
theorem dX7_waveOf_8 : decode cX7_waveOf 8 = .ok (.aload_n 0, 1) := by decide +kernel
theorem dX7_waveOf_9 : decode cX7_waveOf 9 = .ok (.getfield 49, 3) := by decide +kernel
theorem dX7_waveOf_12 : decode cX7_waveOf 12 = .ok (.if_icmp .ge 25, 3) := by decide +kernel
theorem dX7_waveOf_15 : decode cX7_waveOf 15 = .ok (.iload 5, 2) := by decide +kernel
theorem dX7_waveOf_17 : decode cX7_waveOf 17 = .ok (.aload_n 0, 1) := by decide +kernel
theorem dX7_waveOf_18 : decode cX7_waveOf 18 = .ok (.aload_n 1, 1) := by decide +kernel
theorem dX7_waveOf_19 : decode cX7_waveOf 19 = .ok (.iload 6, 2) := by decide +kernel
theorem dX7_waveOf_21 : decode cX7_waveOf 21 = .ok (.iload_n 2, 1) := by decide +kernel
theorem dX7_waveOf_22 : decode cX7_waveOf 22 = .ok (.iload_n 3, 1) := by decide +kernel
theorem dX7_waveOf_23 : decode cX7_waveOf 23 = .ok (.iload 4, 2) := by decide +kernel
theorem dX7_waveOf_25 : decode cX7_waveOf 25 = .ok (.invokevirtual 154, 3) := by decide +kernel
theorem dX7_waveOf_28 : decode cX7_waveOf 28 = .ok (.iadd, 1) := by decide +kernel
theorem dX7_waveOf_29 : decode cX7_waveOf 29 = .ok (.istore 5, 2) := by decide +kernel
theorem dX7_waveOf_31 : decode cX7_waveOf 31 = .ok (.iinc 6 1, 3) := by decide +kernel
theorem dX7_waveOf_34 : decode cX7_waveOf 34 = .ok (.goto (-28), 3) := by decide +kernel
theorem dX7_waveOf_37 : decode cX7_waveOf 37 = .ok (.iconst 0, 1) := by decide +kernel
theorem dX7_waveOf_38 : decode cX7_waveOf 38 = .ok (.istore 6, 2) := by decide +kernel
theorem dX7_waveOf_40 : decode cX7_waveOf 40 = .ok (.iload 6, 2) := by decide +kernel
theorem dX7_waveOf_42 : decode cX7_waveOf 42 = .ok (.aload_n 0, 1) := by decide +kernel
theorem dX7_waveOf_43 : decode cX7_waveOf 43 = .ok (.getfield 52, 3) := by decide +kernel
theorem dX7_waveOf_46 : decode cX7_waveOf 46 = .ok (.if_icmp .ge 42, 3) := by decide +kernel
theorem dX7_waveOf_49 : decode cX7_waveOf 49 = .ok (.aload_n 0, 1) := by decide +kernel
theorem dX7_waveOf_50 : decode cX7_waveOf 50 = .ok (.getfield 29, 3) := by decide +kernel
theorem dX7_waveOf_53 : decode cX7_waveOf 53 = .ok (.iload 6, 2) := by decide +kernel
theorem dX7_waveOf_55 : decode cX7_waveOf 55 = .ok (.aaload, 1) := by decide +kernel
theorem dX7_waveOf_56 : decode cX7_waveOf 56 = .ok (.iload_n 2, 1) := by decide +kernel
theorem dX7_waveOf_57 : decode cX7_waveOf 57 = .ok (.iload_n 3, 1) := by decide +kernel
theorem dX7_waveOf_58 : decode cX7_waveOf 58 = .ok (.invokevirtual 158, 3) := by decide +kernel
theorem dX7_waveOf_61 : decode cX7_waveOf 61 = .ok (.ifCond .eq 21, 3) := by decide +kernel
theorem dX7_waveOf_64 : decode cX7_waveOf 64 = .ok (.iload 5, 2) := by decide +kernel
theorem dX7_waveOf_66 : decode cX7_waveOf 66 = .ok (.aload_n 0, 1) := by decide +kernel
theorem dX7_waveOf_67 : decode cX7_waveOf 67 = .ok (.getfield 29, 3) := by decide +kernel
theorem dX7_waveOf_70 : decode cX7_waveOf 70 = .ok (.iload 6, 2) := by decide +kernel
theorem dX7_waveOf_72 : decode cX7_waveOf 72 = .ok (.aaload, 1) := by decide +kernel
theorem dX7_waveOf_73 : decode cX7_waveOf 73 = .ok (.getfield 161, 3) := by decide +kernel
theorem dX7_waveOf_76 : decode cX7_waveOf 76 = .ok (.imul, 1) := by decide +kernel
theorem dX7_waveOf_77 : decode cX7_waveOf 77 = .ok (.bipush 100, 2) := by decide +kernel
theorem dX7_waveOf_79 : decode cX7_waveOf 79 = .ok (.idiv, 1) := by decide +kernel
theorem dX7_waveOf_80 : decode cX7_waveOf 80 = .ok (.istore 5, 2) := by decide +kernel
theorem dX7_waveOf_82 : decode cX7_waveOf 82 = .ok (.iinc 6 1, 3) := by decide +kernel
theorem dX7_waveOf_85 : decode cX7_waveOf 85 = .ok (.goto (-45), 3) := by decide +kernel
theorem dX7_waveOf_88 : decode cX7_waveOf 88 = .ok (.iload 5, 2) := by decide +kernel
theorem dX7_waveOf_90 : decode cX7_waveOf 90 = .ok (.ireturn, 1) := by decide +kernel
theorem dX7_staysCalm_0 : decode cX7_staysCalm 0 = .ok (.iconst 0, 1) := by decide +kernel
theorem dX7_staysCalm_1 : decode cX7_staysCalm 1 = .ok (.istore 6, 2) := by decide +kernel
theorem dX7_staysCalm_3 : decode cX7_staysCalm 3 = .ok (.iload 6, 2) := by decide +kernel
theorem dX7_staysCalm_5 : decode cX7_staysCalm 5 = .ok (.iload 4, 2) := by decide +kernel
theorem dX7_staysCalm_7 : decode cX7_staysCalm 7 = .ok (.if_icmp .ge 33, 3) := by decide +kernel
theorem dX7_staysCalm_10 : decode cX7_staysCalm 10 = .ok (.aload_n 0, 1) := by decide +kernel
theorem dX7_staysCalm_11 : decode cX7_staysCalm 11 = .ok (.aload_n 1, 1) := by decide +kernel
theorem dX7_staysCalm_12 : decode cX7_staysCalm 12 = .ok (.iload_n 2, 1) := by decide +kernel
theorem dX7_staysCalm_13 : decode cX7_staysCalm 13 = .ok (.iload_n 3, 1) := by decide +kernel
theorem dX7_staysCalm_14 : decode cX7_staysCalm 14 = .ok (.aload_n 1, 1) := by decide +kernel
theorem dX7_staysCalm_15 : decode cX7_staysCalm 15 = .ok (.getfield 79, 3) := by decide +kernel
theorem dX7_staysCalm_18 : decode cX7_staysCalm 18 = .ok (.iload 6, 2) := by decide +kernel
theorem dX7_staysCalm_20 : decode cX7_staysCalm 20 = .ok (.iadd, 1) := by decide +kernel
theorem dX7_staysCalm_21 : decode cX7_staysCalm 21 = .ok (.invokevirtual 164, 3) := by decide +kernel
theorem dX7_staysCalm_24 : decode cX7_staysCalm 24 = .ok (.invokestatic 167, 3) := by decide +kernel
theorem dX7_staysCalm_27 : decode cX7_staysCalm 27 = .ok (.iload 5, 2) := by decide +kernel
theorem dX7_staysCalm_29 : decode cX7_staysCalm 29 = .ok (.if_icmp .le 5, 3) := by decide +kernel
theorem dX7_staysCalm_32 : decode cX7_staysCalm 32 = .ok (.iconst 0, 1) := by decide +kernel
theorem dX7_staysCalm_33 : decode cX7_staysCalm 33 = .ok (.ireturn, 1) := by decide +kernel
theorem dX7_staysCalm_34 : decode cX7_staysCalm 34 = .ok (.iinc 6 1, 3) := by decide +kernel
theorem dX7_staysCalm_37 : decode cX7_staysCalm 37 = .ok (.goto (-34), 3) := by decide +kernel
theorem dX7_staysCalm_40 : decode cX7_staysCalm 40 = .ok (.iconst 1, 1) := by decide +kernel
theorem dX7_staysCalm_41 : decode cX7_staysCalm 41 = .ok (.ireturn, 1) := by decide +kernel
theorem dX7_energyOf_0 : decode cX7_energyOf 0 = .ok (.lconst 0, 1) := by decide +kernel
theorem dX7_energyOf_1 : decode cX7_energyOf 1 = .ok (.lstore 5, 2) := by decide +kernel
theorem dX7_energyOf_3 : decode cX7_energyOf 3 = .ok (.iconst 0, 1) := by decide +kernel
theorem dX7_energyOf_4 : decode cX7_energyOf 4 = .ok (.istore 7, 2) := by decide +kernel
theorem dX7_energyOf_6 : decode cX7_energyOf 6 = .ok (.iload 7, 2) := by decide +kernel
theorem dX7_energyOf_8 : decode cX7_energyOf 8 = .ok (.iload 4, 2) := by decide +kernel
theorem dX7_energyOf_10 : decode cX7_energyOf 10 = .ok (.if_icmp .ge 36, 3) := by decide +kernel
theorem dX7_energyOf_13 : decode cX7_energyOf 13 = .ok (.aload_n 0, 1) := by decide +kernel
theorem dX7_energyOf_14 : decode cX7_energyOf 14 = .ok (.aload_n 1, 1) := by decide +kernel
theorem dX7_energyOf_15 : decode cX7_energyOf 15 = .ok (.iload_n 2, 1) := by decide +kernel
theorem dX7_energyOf_16 : decode cX7_energyOf 16 = .ok (.iload_n 3, 1) := by decide +kernel
theorem dX7_energyOf_17 : decode cX7_energyOf 17 = .ok (.aload_n 1, 1) := by decide +kernel
theorem dX7_energyOf_18 : decode cX7_energyOf 18 = .ok (.getfield 79, 3) := by decide +kernel
theorem dX7_energyOf_21 : decode cX7_energyOf 21 = .ok (.iload 7, 2) := by decide +kernel
theorem dX7_energyOf_23 : decode cX7_energyOf 23 = .ok (.iadd, 1) := by decide +kernel
theorem dX7_energyOf_24 : decode cX7_energyOf 24 = .ok (.invokevirtual 164, 3) := by decide +kernel
theorem dX7_energyOf_27 : decode cX7_energyOf 27 = .ok (.i2l, 1) := by decide +kernel
theorem dX7_energyOf_28 : decode cX7_energyOf 28 = .ok (.lstore 8, 2) := by decide +kernel
theorem dX7_energyOf_30 : decode cX7_energyOf 30 = .ok (.lload 5, 2) := by decide +kernel
theorem dX7_energyOf_32 : decode cX7_energyOf 32 = .ok (.lload 8, 2) := by decide +kernel
theorem dX7_energyOf_34 : decode cX7_energyOf 34 = .ok (.lload 8, 2) := by decide +kernel
theorem dX7_energyOf_36 : decode cX7_energyOf 36 = .ok (.lmul, 1) := by decide +kernel
theorem dX7_energyOf_37 : decode cX7_energyOf 37 = .ok (.ladd, 1) := by decide +kernel
theorem dX7_energyOf_38 : decode cX7_energyOf 38 = .ok (.lstore 5, 2) := by decide +kernel
theorem dX7_energyOf_40 : decode cX7_energyOf 40 = .ok (.iinc 7 1, 3) := by decide +kernel
theorem dX7_energyOf_43 : decode cX7_energyOf 43 = .ok (.goto (-37), 3) := by decide +kernel
theorem dX7_energyOf_46 : decode cX7_energyOf 46 = .ok (.lload 5, 2) := by decide +kernel
theorem dX7_energyOf_48 : decode cX7_energyOf 48 = .ok (.lreturn, 1) := by decide +kernel
theorem dX8_init_0 : decode cX8_init 0 = .ok (.aload_n 0, 1) := by decide +kernel
theorem dX8_init_1 : decode cX8_init 1 = .ok (.invokespecial 3, 3) := by decide +kernel
theorem dX8_init_4 : decode cX8_init 4 = .ok (.aload_n 0, 1) := by decide +kernel
theorem dX8_init_5 : decode cX8_init 5 = .ok (.bipush 50, 2) := by decide +kernel
theorem dX8_init_7 : decode cX8_init 7 = .ok (.putfield 9, 3) := by decide +kernel
theorem dX8_init_10 : decode cX8_init 10 = .ok (.aload_n 0, 1) := by decide +kernel
theorem dX8_init_11 : decode cX8_init 11 = .ok (.iconst 2, 1) := by decide +kernel
theorem dX8_init_12 : decode cX8_init 12 = .ok (.putfield 15, 3) := by decide +kernel
theorem dX8_init_15 : decode cX8_init 15 = .ok (.aload_n 0, 1) := by decide +kernel
theorem dX8_init_16 : decode cX8_init 16 = .ok (.bipush 6, 2) := by decide +kernel
theorem dX8_init_18 : decode cX8_init 18 = .ok (.newarray .int, 2) := by decide +kernel
theorem dX8_init_20 : decode cX8_init 20 = .ok (.putfield 18, 3) := by decide +kernel
theorem dX8_init_23 : decode cX8_init 23 = .ok (.aload_n 0, 1) := by decide +kernel
theorem dX8_init_24 : decode cX8_init 24 = .ok (.bipush 6, 2) := by decide +kernel
theorem dX8_init_26 : decode cX8_init 26 = .ok (.newarray .int, 2) := by decide +kernel
theorem dX8_init_28 : decode cX8_init 28 = .ok (.putfield 22, 3) := by decide +kernel
theorem dX8_init_31 : decode cX8_init 31 = .ok (.return_, 1) := by decide +kernel
theorem dX8_addCut_0 : decode cX8_addCut 0 = .ok (.aload_n 0, 1) := by decide +kernel
theorem dX8_addCut_1 : decode cX8_addCut 1 = .ok (.getfield 25, 3) := by decide +kernel
theorem dX8_addCut_4 : decode cX8_addCut 4 = .ok (.bipush 6, 2) := by decide +kernel
theorem dX8_addCut_6 : decode cX8_addCut 6 = .ok (.if_icmp .ge 33, 3) := by decide +kernel
theorem dX8_addCut_9 : decode cX8_addCut 9 = .ok (.aload_n 0, 1) := by decide +kernel
theorem dX8_addCut_10 : decode cX8_addCut 10 = .ok (.getfield 18, 3) := by decide +kernel
theorem dX8_addCut_13 : decode cX8_addCut 13 = .ok (.aload_n 0, 1) := by decide +kernel
theorem dX8_addCut_14 : decode cX8_addCut 14 = .ok (.getfield 25, 3) := by decide +kernel
theorem dX8_addCut_17 : decode cX8_addCut 17 = .ok (.iload_n 1, 1) := by decide +kernel
theorem dX8_addCut_18 : decode cX8_addCut 18 = .ok (.iastore, 1) := by decide +kernel
theorem dX8_addCut_19 : decode cX8_addCut 19 = .ok (.aload_n 0, 1) := by decide +kernel
theorem dX8_addCut_20 : decode cX8_addCut 20 = .ok (.getfield 22, 3) := by decide +kernel
theorem dX8_addCut_23 : decode cX8_addCut 23 = .ok (.aload_n 0, 1) := by decide +kernel
theorem dX8_addCut_24 : decode cX8_addCut 24 = .ok (.getfield 25, 3) := by decide +kernel
theorem dX8_addCut_27 : decode cX8_addCut 27 = .ok (.iload_n 2, 1) := by decide +kernel
theorem dX8_addCut_28 : decode cX8_addCut 28 = .ok (.iastore, 1) := by decide +kernel
theorem dX8_addCut_29 : decode cX8_addCut 29 = .ok (.aload_n 0, 1) := by decide +kernel
theorem dX8_addCut_30 : decode cX8_addCut 30 = .ok (.dup, 1) := by decide +kernel
theorem dX8_addCut_31 : decode cX8_addCut 31 = .ok (.getfield 25, 3) := by decide +kernel
theorem dX8_addCut_34 : decode cX8_addCut 34 = .ok (.iconst 1, 1) := by decide +kernel
theorem dX8_addCut_35 : decode cX8_addCut 35 = .ok (.iadd, 1) := by decide +kernel
theorem dX8_addCut_36 : decode cX8_addCut 36 = .ok (.putfield 25, 3) := by decide +kernel
theorem dX8_addCut_39 : decode cX8_addCut 39 = .ok (.return_, 1) := by decide +kernel
theorem dX8_emitted_0 : decode cX8_emitted 0 = .ok (.iload_n 2, 1) := by decide +kernel
theorem dX8_emitted_1 : decode cX8_emitted 1 = .ok (.aload_n 0, 1) := by decide +kernel
theorem dX8_emitted_2 : decode cX8_emitted 2 = .ok (.getfield 28, 3) := by decide +kernel
theorem dX8_emitted_5 : decode cX8_emitted 5 = .ok (.if_icmp .lt 11, 3) := by decide +kernel
theorem dX8_emitted_8 : decode cX8_emitted 8 = .ok (.iload_n 2, 1) := by decide +kernel
theorem dX8_emitted_9 : decode cX8_emitted 9 = .ok (.aload_n 0, 1) := by decide +kernel
theorem dX8_emitted_10 : decode cX8_emitted 10 = .ok (.getfield 31, 3) := by decide +kernel
theorem dX8_emitted_13 : decode cX8_emitted 13 = .ok (.if_icmp .le 5, 3) := by decide +kernel
theorem dX8_emitted_16 : decode cX8_emitted 16 = .ok (.iconst 0, 1) := by decide +kernel
theorem dX8_emitted_17 : decode cX8_emitted 17 = .ok (.ireturn, 1) := by decide +kernel
theorem dX8_emitted_18 : decode cX8_emitted 18 = .ok (.iconst 0, 1) := by decide +kernel
theorem dX8_emitted_19 : decode cX8_emitted 19 = .ok (.istore_n 3, 1) := by decide +kernel
theorem dX8_emitted_20 : decode cX8_emitted 20 = .ok (.iload_n 3, 1) := by decide +kernel
theorem dX8_emitted_21 : decode cX8_emitted 21 = .ok (.aload_n 0, 1) := by decide +kernel
theorem dX8_emitted_22 : decode cX8_emitted 22 = .ok (.getfield 25, 3) := by decide +kernel
theorem dX8_emitted_25 : decode cX8_emitted 25 = .ok (.if_icmp .ge 31, 3) := by decide +kernel
theorem dX8_emitted_28 : decode cX8_emitted 28 = .ok (.iload_n 2, 1) := by decide +kernel
theorem dX8_emitted_29 : decode cX8_emitted 29 = .ok (.aload_n 0, 1) := by decide +kernel
theorem dX8_emitted_30 : decode cX8_emitted 30 = .ok (.getfield 18, 3) := by decide +kernel
theorem dX8_emitted_33 : decode cX8_emitted 33 = .ok (.iload_n 3, 1) := by decide +kernel
theorem dX8_emitted_34 : decode cX8_emitted 34 = .ok (.iaload, 1) := by decide +kernel
theorem dX8_emitted_35 : decode cX8_emitted 35 = .ok (.if_icmp .lt 15, 3) := by decide +kernel
theorem dX8_emitted_38 : decode cX8_emitted 38 = .ok (.iload_n 2, 1) := by decide +kernel
theorem dX8_emitted_39 : decode cX8_emitted 39 = .ok (.aload_n 0, 1) := by decide +kernel
theorem dX8_emitted_40 : decode cX8_emitted 40 = .ok (.getfield 22, 3) := by decide +kernel
theorem dX8_emitted_43 : decode cX8_emitted 43 = .ok (.iload_n 3, 1) := by decide +kernel
theorem dX8_emitted_44 : decode cX8_emitted 44 = .ok (.iaload, 1) := by decide +kernel
theorem dX8_emitted_45 : decode cX8_emitted 45 = .ok (.if_icmp .gt 5, 3) := by decide +kernel
theorem dX8_emitted_48 : decode cX8_emitted 48 = .ok (.iconst 0, 1) := by decide +kernel
theorem dX8_emitted_49 : decode cX8_emitted 49 = .ok (.ireturn, 1) := by decide +kernel
theorem dX8_emitted_50 : decode cX8_emitted 50 = .ok (.iinc 3 1, 3) := by decide +kernel
theorem dX8_emitted_53 : decode cX8_emitted 53 = .ok (.goto (-33), 3) := by decide +kernel
theorem dX8_emitted_56 : decode cX8_emitted 56 = .ok (.aload_n 0, 1) := by decide +kernel
theorem dX8_emitted_57 : decode cX8_emitted 57 = .ok (.getfield 34, 3) := by decide +kernel
theorem dX8_emitted_60 : decode cX8_emitted 60 = .ok (.ifCond .le 32, 3) := by decide +kernel
theorem dX8_emitted_63 : decode cX8_emitted 63 = .ok (.iload_n 2, 1) := by decide +kernel
theorem dX8_emitted_64 : decode cX8_emitted 64 = .ok (.aload_n 0, 1) := by decide +kernel
theorem dX8_emitted_65 : decode cX8_emitted 65 = .ok (.getfield 28, 3) := by decide +kernel
theorem dX8_emitted_68 : decode cX8_emitted 68 = .ok (.isub, 1) := by decide +kernel
theorem dX8_emitted_69 : decode cX8_emitted 69 = .ok (.aload_n 0, 1) := by decide +kernel
theorem dX8_emitted_70 : decode cX8_emitted 70 = .ok (.getfield 34, 3) := by decide +kernel
theorem dX8_emitted_73 : decode cX8_emitted 73 = .ok (.aload_n 0, 1) := by decide +kernel
theorem dX8_emitted_74 : decode cX8_emitted 74 = .ok (.getfield 37, 3) := by decide +kernel
theorem dX8_emitted_77 : decode cX8_emitted 77 = .ok (.iadd, 1) := by decide +kernel
theorem dX8_emitted_78 : decode cX8_emitted 78 = .ok (.irem, 1) := by decide +kernel
theorem dX8_emitted_79 : decode cX8_emitted 79 = .ok (.aload_n 0, 1) := by decide +kernel
theorem dX8_emitted_80 : decode cX8_emitted 80 = .ok (.getfield 34, 3) := by decide +kernel
theorem dX8_emitted_83 : decode cX8_emitted 83 = .ok (.if_icmp .ge 7, 3) := by decide +kernel
theorem dX8_emitted_86 : decode cX8_emitted 86 = .ok (.iload_n 1, 1) := by decide +kernel
theorem dX8_emitted_87 : decode cX8_emitted 87 = .ok (.goto 4, 3) := by decide +kernel
theorem dX8_emitted_90 : decode cX8_emitted 90 = .ok (.iconst 0, 1) := by decide +kernel
theorem dX8_emitted_91 : decode cX8_emitted 91 = .ok (.ireturn, 1) := by decide +kernel
theorem dX8_emitted_92 : decode cX8_emitted 92 = .ok (.aload_n 0, 1) := by decide +kernel
theorem dX8_emitted_93 : decode cX8_emitted 93 = .ok (.getfield 40, 3) := by decide +kernel
theorem dX8_emitted_96 : decode cX8_emitted 96 = .ok (.ifCond .le 26, 3) := by decide +kernel
theorem dX8_emitted_99 : decode cX8_emitted 99 = .ok (.iload_n 1, 1) := by decide +kernel
theorem dX8_emitted_100 : decode cX8_emitted 100 = .ok (.iload_n 2, 1) := by decide +kernel
theorem dX8_emitted_101 : decode cX8_emitted 101 = .ok (.aload_n 0, 1) := by decide +kernel
theorem dX8_emitted_102 : decode cX8_emitted 102 = .ok (.getfield 28, 3) := by decide +kernel
theorem dX8_emitted_105 : decode cX8_emitted 105 = .ok (.isub, 1) := by decide +kernel
theorem dX8_emitted_106 : decode cX8_emitted 106 = .ok (.iconst 1, 1) := by decide +kernel
theorem dX8_emitted_107 : decode cX8_emitted 107 = .ok (.iadd, 1) := by decide +kernel
theorem dX8_emitted_108 : decode cX8_emitted 108 = .ok (.aload_n 0, 1) := by decide +kernel
theorem dX8_emitted_109 : decode cX8_emitted 109 = .ok (.getfield 40, 3) := by decide +kernel
theorem dX8_emitted_112 : decode cX8_emitted 112 = .ok (.invokestatic 43, 3) := by decide +kernel
theorem dX8_emitted_115 : decode cX8_emitted 115 = .ok (.imul, 1) := by decide +kernel
theorem dX8_emitted_116 : decode cX8_emitted 116 = .ok (.aload_n 0, 1) := by decide +kernel
theorem dX8_emitted_117 : decode cX8_emitted 117 = .ok (.getfield 40, 3) := by decide +kernel
theorem dX8_emitted_120 : decode cX8_emitted 120 = .ok (.idiv, 1) := by decide +kernel
theorem dX8_emitted_121 : decode cX8_emitted 121 = .ok (.ireturn, 1) := by decide +kernel
theorem dX8_emitted_122 : decode cX8_emitted 122 = .ok (.iload_n 1, 1) := by decide +kernel
theorem dX8_emitted_123 : decode cX8_emitted 123 = .ok (.ireturn, 1) := by decide +kernel
theorem dX8_delayOf_0 : decode cX8_delayOf 0 = .ok (.iload_n 1, 1) := by decide +kernel
theorem dX8_delayOf_1 : decode cX8_delayOf 1 = .ok (.aload_n 0, 1) := by decide +kernel
theorem dX8_delayOf_2 : decode cX8_delayOf 2 = .ok (.getfield 15, 3) := by decide +kernel
theorem dX8_delayOf_5 : decode cX8_delayOf 5 = .ok (.imul, 1) := by decide +kernel
theorem dX8_delayOf_6 : decode cX8_delayOf 6 = .ok (.aload_n 0, 1) := by decide +kernel
theorem dX8_delayOf_7 : decode cX8_delayOf 7 = .ok (.getfield 9, 3) := by decide +kernel
theorem dX8_delayOf_10 : decode cX8_delayOf 10 = .ok (.idiv, 1) := by decide +kernel
theorem dX8_delayOf_11 : decode cX8_delayOf 11 = .ok (.ireturn, 1) := by decide +kernel
theorem dX8_angleOf_0 : decode cX8_angleOf 0 = .ok (.iload_n 1, 1) := by decide +kernel
theorem dX8_angleOf_1 : decode cX8_angleOf 1 = .ok (.sipush 360, 3) := by decide +kernel
theorem dX8_angleOf_4 : decode cX8_angleOf 4 = .ok (.iload_n 3, 1) := by decide +kernel
theorem dX8_angleOf_5 : decode cX8_angleOf 5 = .ok (.imul, 1) := by decide +kernel
theorem dX8_angleOf_6 : decode cX8_angleOf 6 = .ok (.aload_n 0, 1) := by decide +kernel
theorem dX8_angleOf_7 : decode cX8_angleOf 7 = .ok (.getfield 15, 3) := by decide +kernel
theorem dX8_angleOf_10 : decode cX8_angleOf 10 = .ok (.idiv, 1) := by decide +kernel
theorem dX8_angleOf_11 : decode cX8_angleOf 11 = .ok (.iadd, 1) := by decide +kernel
theorem dX8_angleOf_12 : decode cX8_angleOf 12 = .ok (.sipush 360, 3) := by decide +kernel
theorem dX8_angleOf_15 : decode cX8_angleOf 15 = .ok (.iload_n 2, 1) := by decide +kernel
theorem dX8_angleOf_16 : decode cX8_angleOf 16 = .ok (.imul, 1) := by decide +kernel
theorem dX8_angleOf_17 : decode cX8_angleOf 17 = .ok (.aload_n 0, 1) := by decide +kernel
theorem dX8_angleOf_18 : decode cX8_angleOf 18 = .ok (.getfield 9, 3) := by decide +kernel
theorem dX8_angleOf_21 : decode cX8_angleOf 21 = .ok (.idiv, 1) := by decide +kernel
theorem dX8_angleOf_22 : decode cX8_angleOf 22 = .ok (.isub, 1) := by decide +kernel
theorem dX8_angleOf_23 : decode cX8_angleOf 23 = .ok (.istore 4, 2) := by decide +kernel
theorem dX8_angleOf_25 : decode cX8_angleOf 25 = .ok (.iload 4, 2) := by decide +kernel
theorem dX8_angleOf_27 : decode cX8_angleOf 27 = .ok (.sipush 360, 3) := by decide +kernel
theorem dX8_angleOf_30 : decode cX8_angleOf 30 = .ok (.invokestatic 49, 3) := by decide +kernel
theorem dX8_angleOf_33 : decode cX8_angleOf 33 = .ok (.ireturn, 1) := by decide +kernel
theorem dX8_valueOf_0 : decode cX8_valueOf 0 = .ok (.aload_n 0, 1) := by decide +kernel
theorem dX8_valueOf_1 : decode cX8_valueOf 1 = .ok (.getfield 52, 3) := by decide +kernel
theorem dX8_valueOf_4 : decode cX8_valueOf 4 = .ok (.iconst 1, 1) := by decide +kernel
theorem dX8_valueOf_5 : decode cX8_valueOf 5 = .ok (.if_icmp .ne 20, 3) := by decide +kernel
theorem dX8_valueOf_8 : decode cX8_valueOf 8 = .ok (.iload_n 1, 1) := by decide +kernel
theorem dX8_valueOf_9 : decode cX8_valueOf 9 = .ok (.sipush 180, 3) := by decide +kernel
theorem dX8_valueOf_12 : decode cX8_valueOf 12 = .ok (.if_icmp .ge 9, 3) := by decide +kernel
theorem dX8_valueOf_15 : decode cX8_valueOf 15 = .ok (.sipush 1000, 3) := by decide +kernel
theorem dX8_valueOf_18 : decode cX8_valueOf 18 = .ok (.goto 6, 3) := by decide +kernel
theorem dX8_valueOf_21 : decode cX8_valueOf 21 = .ok (.sipush (-1000), 3) := by decide +kernel
theorem dX8_valueOf_24 : decode cX8_valueOf 24 = .ok (.ireturn, 1) := by decide +kernel
theorem dX8_valueOf_25 : decode cX8_valueOf 25 = .ok (.aload_n 0, 1) := by decide +kernel
theorem dX8_valueOf_26 : decode cX8_valueOf 26 = .ok (.getfield 52, 3) := by decide +kernel
theorem dX8_valueOf_29 : decode cX8_valueOf 29 = .ok (.iconst 2, 1) := by decide +kernel
theorem dX8_valueOf_30 : decode cX8_valueOf 30 = .ok (.if_icmp .ne 17, 3) := by decide +kernel
theorem dX8_valueOf_33 : decode cX8_valueOf 33 = .ok (.iload_n 1, 1) := by decide +kernel
theorem dX8_valueOf_34 : decode cX8_valueOf 34 = .ok (.sipush 1000, 3) := by decide +kernel
theorem dX8_valueOf_37 : decode cX8_valueOf 37 = .ok (.imul, 1) := by decide +kernel
theorem dX8_valueOf_38 : decode cX8_valueOf 38 = .ok (.sipush 180, 3) := by decide +kernel
theorem dX8_valueOf_41 : decode cX8_valueOf 41 = .ok (.idiv, 1) := by decide +kernel
theorem dX8_valueOf_42 : decode cX8_valueOf 42 = .ok (.sipush 1000, 3) := by decide +kernel
theorem dX8_valueOf_45 : decode cX8_valueOf 45 = .ok (.isub, 1) := by decide +kernel
theorem dX8_valueOf_46 : decode cX8_valueOf 46 = .ok (.ireturn, 1) := by decide +kernel
theorem dX8_valueOf_47 : decode cX8_valueOf 47 = .ok (.iload_n 1, 1) := by decide +kernel
theorem dX8_valueOf_48 : decode cX8_valueOf 48 = .ok (.invokestatic 55, 3) := by decide +kernel
theorem dX8_valueOf_51 : decode cX8_valueOf 51 = .ok (.ireturn, 1) := by decide +kernel
theorem dX8_brings_0 : decode cX8_brings 0 = .ok (.aload_n 0, 1) := by decide +kernel
theorem dX8_brings_1 : decode cX8_brings 1 = .ok (.iload_n 1, 1) := by decide +kernel
theorem dX8_brings_2 : decode cX8_brings 2 = .ok (.iload 4, 2) := by decide +kernel
theorem dX8_brings_4 : decode cX8_brings 4 = .ok (.aload_n 0, 1) := by decide +kernel
theorem dX8_brings_5 : decode cX8_brings 5 = .ok (.iload_n 3, 1) := by decide +kernel
theorem dX8_brings_6 : decode cX8_brings 6 = .ok (.invokevirtual 59, 3) := by decide +kernel
theorem dX8_brings_9 : decode cX8_brings 9 = .ok (.isub, 1) := by decide +kernel
theorem dX8_brings_10 : decode cX8_brings 10 = .ok (.invokevirtual 62, 3) := by decide +kernel
theorem dX8_brings_13 : decode cX8_brings 13 = .ok (.istore 6, 2) := by decide +kernel
theorem dX8_brings_15 : decode cX8_brings 15 = .ok (.iload 6, 2) := by decide +kernel
theorem dX8_brings_17 : decode cX8_brings 17 = .ok (.ifCond .ne 5, 3) := by decide +kernel
theorem dX8_brings_20 : decode cX8_brings 20 = .ok (.iconst 0, 1) := by decide +kernel
theorem dX8_brings_21 : decode cX8_brings 21 = .ok (.ireturn, 1) := by decide +kernel
theorem dX8_brings_22 : decode cX8_brings 22 = .ok (.iload 5, 2) := by decide +kernel
theorem dX8_brings_24 : decode cX8_brings 24 = .ok (.ifCond .le 15, 3) := by decide +kernel
theorem dX8_brings_27 : decode cX8_brings 27 = .ok (.iload 6, 2) := by decide +kernel
theorem dX8_brings_29 : decode cX8_brings 29 = .ok (.iload 5, 2) := by decide +kernel
theorem dX8_brings_31 : decode cX8_brings 31 = .ok (.imul, 1) := by decide +kernel
theorem dX8_brings_32 : decode cX8_brings 32 = .ok (.iload 5, 2) := by decide +kernel
theorem dX8_brings_34 : decode cX8_brings 34 = .ok (.iload_n 3, 1) := by decide +kernel
theorem dX8_brings_35 : decode cX8_brings 35 = .ok (.iadd, 1) := by decide +kernel
theorem dX8_brings_36 : decode cX8_brings 36 = .ok (.idiv, 1) := by decide +kernel
theorem dX8_brings_37 : decode cX8_brings 37 = .ok (.istore 6, 2) := by decide +kernel
theorem dX8_brings_39 : decode cX8_brings 39 = .ok (.iload 6, 2) := by decide +kernel
theorem dX8_brings_41 : decode cX8_brings 41 = .ok (.aload_n 0, 1) := by decide +kernel
theorem dX8_brings_42 : decode cX8_brings 42 = .ok (.aload_n 0, 1) := by decide +kernel
theorem dX8_brings_43 : decode cX8_brings 43 = .ok (.iload_n 2, 1) := by decide +kernel
theorem dX8_brings_44 : decode cX8_brings 44 = .ok (.iload_n 3, 1) := by decide +kernel
theorem dX8_brings_45 : decode cX8_brings 45 = .ok (.iload 4, 2) := by decide +kernel
theorem dX8_brings_47 : decode cX8_brings 47 = .ok (.invokevirtual 65, 3) := by decide +kernel
theorem dX8_brings_50 : decode cX8_brings 50 = .ok (.invokevirtual 69, 3) := by decide +kernel
theorem dX8_brings_53 : decode cX8_brings 53 = .ok (.imul, 1) := by decide +kernel
theorem dX8_brings_54 : decode cX8_brings 54 = .ok (.sipush 1000, 3) := by decide +kernel
theorem dX8_brings_57 : decode cX8_brings 57 = .ok (.idiv, 1) := by decide +kernel
theorem dX8_brings_58 : decode cX8_brings 58 = .ok (.ireturn, 1) := by decide +kernel
theorem dX8_sineOf_0 : decode cX8_sineOf 0 = .ok (.iload_n 0, 1) := by decide +kernel
theorem dX8_sineOf_1 : decode cX8_sineOf 1 = .ok (.sipush 180, 3) := by decide +kernel
theorem dX8_sineOf_4 : decode cX8_sineOf 4 = .ok (.if_icmp .ge 7, 3) := by decide +kernel
theorem dX8_sineOf_7 : decode cX8_sineOf 7 = .ok (.iload_n 0, 1) := by decide +kernel
theorem dX8_sineOf_8 : decode cX8_sineOf 8 = .ok (.goto 8, 3) := by decide +kernel
theorem dX8_sineOf_11 : decode cX8_sineOf 11 = .ok (.iload_n 0, 1) := by decide +kernel
theorem dX8_sineOf_12 : decode cX8_sineOf 12 = .ok (.sipush 180, 3) := by decide +kernel
theorem dX8_sineOf_15 : decode cX8_sineOf 15 = .ok (.isub, 1) := by decide +kernel
theorem dX8_sineOf_16 : decode cX8_sineOf 16 = .ok (.istore_n 1, 1) := by decide +kernel
theorem dX8_sineOf_17 : decode cX8_sineOf 17 = .ok (.iload_n 1, 1) := by decide +kernel
theorem dX8_sineOf_18 : decode cX8_sineOf 18 = .ok (.sipush 180, 3) := by decide +kernel
theorem dX8_sineOf_21 : decode cX8_sineOf 21 = .ok (.iload_n 1, 1) := by decide +kernel
theorem dX8_sineOf_22 : decode cX8_sineOf 22 = .ok (.isub, 1) := by decide +kernel
theorem dX8_sineOf_23 : decode cX8_sineOf 23 = .ok (.imul, 1) := by decide +kernel
theorem dX8_sineOf_24 : decode cX8_sineOf 24 = .ok (.istore_n 2, 1) := by decide +kernel
theorem dX8_sineOf_25 : decode cX8_sineOf 25 = .ok (.sipush 4000, 3) := by decide +kernel
theorem dX8_sineOf_28 : decode cX8_sineOf 28 = .ok (.iload_n 2, 1) := by decide +kernel
theorem dX8_sineOf_29 : decode cX8_sineOf 29 = .ok (.imul, 1) := by decide +kernel
theorem dX8_sineOf_30 : decode cX8_sineOf 30 = .ok (.ldc 72, 2) := by decide +kernel
theorem dX8_sineOf_32 : decode cX8_sineOf 32 = .ok (.iload_n 2, 1) := by decide +kernel
theorem dX8_sineOf_33 : decode cX8_sineOf 33 = .ok (.isub, 1) := by decide +kernel
theorem dX8_sineOf_34 : decode cX8_sineOf 34 = .ok (.idiv, 1) := by decide +kernel
theorem dX8_sineOf_35 : decode cX8_sineOf 35 = .ok (.istore_n 3, 1) := by decide +kernel
theorem dX8_sineOf_36 : decode cX8_sineOf 36 = .ok (.iload_n 0, 1) := by decide +kernel
theorem dX8_sineOf_37 : decode cX8_sineOf 37 = .ok (.sipush 180, 3) := by decide +kernel
theorem dX8_sineOf_40 : decode cX8_sineOf 40 = .ok (.if_icmp .ge 7, 3) := by decide +kernel
theorem dX8_sineOf_43 : decode cX8_sineOf 43 = .ok (.iload_n 3, 1) := by decide +kernel
theorem dX8_sineOf_44 : decode cX8_sineOf 44 = .ok (.goto 5, 3) := by decide +kernel
theorem dX8_sineOf_47 : decode cX8_sineOf 47 = .ok (.iload_n 3, 1) := by decide +kernel
theorem dX8_sineOf_48 : decode cX8_sineOf 48 = .ok (.ineg, 1) := by decide +kernel
theorem dX8_sineOf_49 : decode cX8_sineOf 49 = .ok (.ireturn, 1) := by decide +kernel
theorem dX9_init_0 : decode cX9_init 0 = .ok (.aload_n 0, 1) := by decide +kernel
theorem dX9_init_1 : decode cX9_init 1 = .ok (.invokespecial 1, 3) := by decide +kernel
theorem dX9_init_4 : decode cX9_init 4 = .ok (.aload_n 0, 1) := by decide +kernel
theorem dX9_init_5 : decode cX9_init 5 = .ok (.sipush 900, 3) := by decide +kernel
theorem dX9_init_8 : decode cX9_init 8 = .ok (.newarray .byte, 2) := by decide +kernel
theorem dX9_init_10 : decode cX9_init 10 = .ok (.putfield 9, 3) := by decide +kernel
theorem dX9_init_13 : decode cX9_init 13 = .ok (.aload_n 0, 1) := by decide +kernel
theorem dX9_init_14 : decode cX9_init 14 = .ok (.iconst (-1), 1) := by decide +kernel
theorem dX9_init_15 : decode cX9_init 15 = .ok (.putfield 13, 3) := by decide +kernel
theorem dX9_init_18 : decode cX9_init 18 = .ok (.aload_n 0, 1) := by decide +kernel
theorem dX9_init_19 : decode cX9_init 19 = .ok (.new 17, 3) := by decide +kernel
theorem dX9_init_22 : decode cX9_init 22 = .ok (.dup, 1) := by decide +kernel
theorem dX9_init_23 : decode cX9_init 23 = .ok (.invokespecial 19, 3) := by decide +kernel
theorem dX9_init_26 : decode cX9_init 26 = .ok (.putfield 20, 3) := by decide +kernel
theorem dX9_init_29 : decode cX9_init 29 = .ok (.aload_n 0, 1) := by decide +kernel
theorem dX9_init_30 : decode cX9_init 30 = .ok (.new 17, 3) := by decide +kernel
theorem dX9_init_33 : decode cX9_init 33 = .ok (.dup, 1) := by decide +kernel
theorem dX9_init_34 : decode cX9_init 34 = .ok (.invokespecial 19, 3) := by decide +kernel
theorem dX9_init_37 : decode cX9_init 37 = .ok (.putfield 24, 3) := by decide +kernel
theorem dX9_init_40 : decode cX9_init 40 = .ok (.aload_n 0, 1) := by decide +kernel
theorem dX9_init_41 : decode cX9_init 41 = .ok (.new 27, 3) := by decide +kernel
theorem dX9_init_44 : decode cX9_init 44 = .ok (.dup, 1) := by decide +kernel
theorem dX9_init_45 : decode cX9_init 45 = .ok (.invokespecial 29, 3) := by decide +kernel
theorem dX9_init_48 : decode cX9_init 48 = .ok (.putfield 30, 3) := by decide +kernel
theorem dX9_init_51 : decode cX9_init 51 = .ok (.aload_n 0, 1) := by decide +kernel
theorem dX9_init_52 : decode cX9_init 52 = .ok (.iconst 2, 1) := by decide +kernel
theorem dX9_init_53 : decode cX9_init 53 = .ok (.anewarray 17, 3) := by decide +kernel
theorem dX9_init_56 : decode cX9_init 56 = .ok (.putfield 34, 3) := by decide +kernel
theorem dX9_init_59 : decode cX9_init 59 = .ok (.aload_n 0, 1) := by decide +kernel
theorem dX9_init_60 : decode cX9_init 60 = .ok (.iconst 2, 1) := by decide +kernel
theorem dX9_init_61 : decode cX9_init 61 = .ok (.newarray .boolean, 2) := by decide +kernel
theorem dX9_init_63 : decode cX9_init 63 = .ok (.putfield 38, 3) := by decide +kernel
theorem dX9_init_66 : decode cX9_init 66 = .ok (.aload_n 0, 1) := by decide +kernel
theorem dX9_init_67 : decode cX9_init 67 = .ok (.new 42, 3) := by decide +kernel
theorem dX9_init_70 : decode cX9_init 70 = .ok (.dup, 1) := by decide +kernel
theorem dX9_init_71 : decode cX9_init 71 = .ok (.invokespecial 44, 3) := by decide +kernel
theorem dX9_init_74 : decode cX9_init 74 = .ok (.putfield 45, 3) := by decide +kernel
theorem dX9_init_77 : decode cX9_init 77 = .ok (.aload_n 0, 1) := by decide +kernel
theorem dX9_init_78 : decode cX9_init 78 = .ok (.new 49, 3) := by decide +kernel
theorem dX9_init_81 : decode cX9_init 81 = .ok (.dup, 1) := by decide +kernel
theorem dX9_init_82 : decode cX9_init 82 = .ok (.invokespecial 51, 3) := by decide +kernel
theorem dX9_init_85 : decode cX9_init 85 = .ok (.putfield 52, 3) := by decide +kernel
theorem dX9_init_88 : decode cX9_init 88 = .ok (.aload_n 0, 1) := by decide +kernel
theorem dX9_init_89 : decode cX9_init 89 = .ok (.sipush 160, 3) := by decide +kernel
theorem dX9_init_92 : decode cX9_init 92 = .ok (.newarray .long, 2) := by decide +kernel
theorem dX9_init_94 : decode cX9_init 94 = .ok (.putfield 56, 3) := by decide +kernel
theorem dX9_init_97 : decode cX9_init 97 = .ok (.aload_n 0, 1) := by decide +kernel
theorem dX9_init_98 : decode cX9_init 98 = .ok (.bipush 60, 2) := by decide +kernel
theorem dX9_init_100 : decode cX9_init 100 = .ok (.newarray .int, 2) := by decide +kernel
theorem dX9_init_102 : decode cX9_init 102 = .ok (.putfield 60, 3) := by decide +kernel
theorem dX9_init_105 : decode cX9_init 105 = .ok (.new 64, 3) := by decide +kernel
theorem dX9_init_108 : decode cX9_init 108 = .ok (.dup, 1) := by decide +kernel
theorem dX9_init_109 : decode cX9_init 109 = .ok (.invokespecial 66, 3) := by decide +kernel
theorem dX9_init_112 : decode cX9_init 112 = .ok (.astore_n 1, 1) := by decide +kernel
theorem dX9_init_113 : decode cX9_init 113 = .ok (.aload_n 0, 1) := by decide +kernel
theorem dX9_init_114 : decode cX9_init 114 = .ok (.new 67, 3) := by decide +kernel
theorem dX9_init_117 : decode cX9_init 117 = .ok (.dup, 1) := by decide +kernel
theorem dX9_init_118 : decode cX9_init 118 = .ok (.aload_n 1, 1) := by decide +kernel
theorem dX9_init_119 : decode cX9_init 119 = .ok (.invokespecial 69, 3) := by decide +kernel
theorem dX9_init_122 : decode cX9_init 122 = .ok (.putfield 72, 3) := by decide +kernel
theorem dX9_init_125 : decode cX9_init 125 = .ok (.aload_n 0, 1) := by decide +kernel
theorem dX9_init_126 : decode cX9_init 126 = .ok (.new 67, 3) := by decide +kernel
theorem dX9_init_129 : decode cX9_init 129 = .ok (.dup, 1) := by decide +kernel
theorem dX9_init_130 : decode cX9_init 130 = .ok (.aload_n 1, 1) := by decide +kernel
theorem dX9_init_131 : decode cX9_init 131 = .ok (.invokespecial 69, 3) := by decide +kernel
theorem dX9_init_134 : decode cX9_init 134 = .ok (.putfield 76, 3) := by decide +kernel
theorem dX9_init_137 : decode cX9_init 137 = .ok (.iconst 0, 1) := by decide +kernel
theorem dX9_init_138 : decode cX9_init 138 = .ok (.istore_n 2, 1) := by decide +kernel
theorem dX9_init_139 : decode cX9_init 139 = .ok (.iload_n 2, 1) := by decide +kernel
theorem dX9_init_140 : decode cX9_init 140 = .ok (.iconst 2, 1) := by decide +kernel
theorem dX9_init_141 : decode cX9_init 141 = .ok (.if_icmp .ge 22, 3) := by decide +kernel
theorem dX9_init_144 : decode cX9_init 144 = .ok (.aload_n 0, 1) := by decide +kernel
theorem dX9_init_145 : decode cX9_init 145 = .ok (.getfield 34, 3) := by decide +kernel
theorem dX9_init_148 : decode cX9_init 148 = .ok (.iload_n 2, 1) := by decide +kernel
theorem dX9_init_149 : decode cX9_init 149 = .ok (.new 17, 3) := by decide +kernel
theorem dX9_init_152 : decode cX9_init 152 = .ok (.dup, 1) := by decide +kernel
theorem dX9_init_153 : decode cX9_init 153 = .ok (.invokespecial 19, 3) := by decide +kernel
theorem dX9_init_156 : decode cX9_init 156 = .ok (.aastore, 1) := by decide +kernel
theorem dX9_init_157 : decode cX9_init 157 = .ok (.iinc 2 1, 3) := by decide +kernel
theorem dX9_init_160 : decode cX9_init 160 = .ok (.goto (-21), 3) := by decide +kernel
theorem dX9_init_163 : decode cX9_init 163 = .ok (.return_, 1) := by decide +kernel
theorem dX9_append_0 : decode cX9_append 0 = .ok (.aload_n 0, 1) := by decide +kernel
theorem dX9_append_1 : decode cX9_append 1 = .ok (.getfield 79, 3) := by decide +kernel
theorem dX9_append_4 : decode cX9_append 4 = .ok (.sipush 880, 3) := by decide +kernel
theorem dX9_append_7 : decode cX9_append 7 = .ok (.if_icmp .le 5, 3) := by decide +kernel
theorem dX9_append_10 : decode cX9_append 10 = .ok (.iconst (-1), 1) := by decide +kernel
theorem dX9_append_11 : decode cX9_append 11 = .ok (.ireturn, 1) := by decide +kernel
theorem dX9_append_12 : decode cX9_append 12 = .ok (.aload_n 0, 1) := by decide +kernel
theorem dX9_append_13 : decode cX9_append 13 = .ok (.iload_n 1, 1) := by decide +kernel
theorem dX9_append_14 : decode cX9_append 14 = .ok (.invokevirtual 82, 3) := by decide +kernel
theorem dX9_append_17 : decode cX9_append 17 = .ok (.aload_n 0, 1) := by decide +kernel
theorem dX9_append_18 : decode cX9_append 18 = .ok (.iload_n 2, 1) := by decide +kernel
theorem dX9_append_19 : decode cX9_append 19 = .ok (.invokevirtual 82, 3) := by decide +kernel
theorem dX9_append_22 : decode cX9_append 22 = .ok (.aload_n 0, 1) := by decide +kernel
theorem dX9_append_23 : decode cX9_append 23 = .ok (.iload_n 3, 1) := by decide +kernel
theorem dX9_append_24 : decode cX9_append 24 = .ok (.invokevirtual 82, 3) := by decide +kernel
theorem dX9_append_27 : decode cX9_append 27 = .ok (.aload_n 0, 1) := by decide +kernel
theorem dX9_append_28 : decode cX9_append 28 = .ok (.iload 4, 2) := by decide +kernel
theorem dX9_append_30 : decode cX9_append 30 = .ok (.invokevirtual 82, 3) := by decide +kernel
theorem dX9_append_33 : decode cX9_append 33 = .ok (.aload_n 0, 1) := by decide +kernel
theorem dX9_append_34 : decode cX9_append 34 = .ok (.iload 5, 2) := by decide +kernel
theorem dX9_append_36 : decode cX9_append 36 = .ok (.invokevirtual 82, 3) := by decide +kernel
theorem dX9_append_39 : decode cX9_append 39 = .ok (.aload_n 0, 1) := by decide +kernel
theorem dX9_append_40 : decode cX9_append 40 = .ok (.getfield 79, 3) := by decide +kernel
theorem dX9_append_43 : decode cX9_append 43 = .ok (.ireturn, 1) := by decide +kernel
theorem dX9_load_0 : decode cX9_load 0 = .ok (.iload_n 1, 1) := by decide +kernel
theorem dX9_load_1 : decode cX9_load 1 = .ok (.ifCond .lt 11, 3) := by decide +kernel
theorem dX9_load_4 : decode cX9_load 4 = .ok (.iload_n 1, 1) := by decide +kernel
theorem dX9_load_5 : decode cX9_load 5 = .ok (.aload_n 0, 1) := by decide +kernel
theorem dX9_load_6 : decode cX9_load 6 = .ok (.getfield 79, 3) := by decide +kernel
theorem dX9_load_9 : decode cX9_load 9 = .ok (.if_icmp .le 13, 3) := by decide +kernel
theorem dX9_load_12 : decode cX9_load 12 = .ok (.new 86, 3) := by decide +kernel
theorem dX9_load_15 : decode cX9_load 15 = .ok (.dup, 1) := by decide +kernel
theorem dX9_load_16 : decode cX9_load 16 = .ok (.ldc 88, 2) := by decide +kernel
theorem dX9_load_18 : decode cX9_load 18 = .ok (.invokespecial 90, 3) := by decide +kernel
theorem dX9_load_21 : decode cX9_load 21 = .ok (.athrow, 1) := by decide +kernel
theorem dX9_load_22 : decode cX9_load 22 = .ok (.aload_n 0, 1) := by decide +kernel
theorem dX9_load_23 : decode cX9_load 23 = .ok (.iconst 0, 1) := by decide +kernel
theorem dX9_load_24 : decode cX9_load 24 = .ok (.putfield 79, 3) := by decide +kernel
theorem dX9_load_27 : decode cX9_load 27 = .ok (.new 93, 3) := by decide +kernel
theorem dX9_load_30 : decode cX9_load 30 = .ok (.dup, 1) := by decide +kernel
theorem dX9_load_31 : decode cX9_load 31 = .ok (.aload_n 0, 1) := by decide +kernel
theorem dX9_load_32 : decode cX9_load 32 = .ok (.getfield 9, 3) := by decide +kernel
theorem dX9_load_35 : decode cX9_load 35 = .ok (.iload_n 1, 1) := by decide +kernel
theorem dX9_load_36 : decode cX9_load 36 = .ok (.aload_n 0, 1) := by decide +kernel
theorem dX9_load_37 : decode cX9_load 37 = .ok (.getfield 76, 3) := by decide +kernel
theorem dX9_load_40 : decode cX9_load 40 = .ok (.aload_n 0, 1) := by decide +kernel
theorem dX9_load_41 : decode cX9_load 41 = .ok (.getfield 24, 3) := by decide +kernel
theorem dX9_load_44 : decode cX9_load 44 = .ok (.invokespecial 95, 3) := by decide +kernel
theorem dX9_load_47 : decode cX9_load 47 = .ok (.astore_n 2, 1) := by decide +kernel
theorem dX9_load_48 : decode cX9_load 48 = .ok (.aload_n 2, 1) := by decide +kernel
theorem dX9_load_49 : decode cX9_load 49 = .ok (.invokevirtual 98, 3) := by decide +kernel
theorem dX9_load_52 : decode cX9_load 52 = .ok (.aload_n 0, 1) := by decide +kernel
theorem dX9_load_53 : decode cX9_load 53 = .ok (.aload_n 2, 1) := by decide +kernel
theorem dX9_load_54 : decode cX9_load 54 = .ok (.getfield 101, 3) := by decide +kernel
theorem dX9_load_57 : decode cX9_load 57 = .ok (.putfield 104, 3) := by decide +kernel
theorem dX9_load_60 : decode cX9_load 60 = .ok (.aload_n 0, 1) := by decide +kernel
theorem dX9_load_61 : decode cX9_load 61 = .ok (.aload_n 2, 1) := by decide +kernel
theorem dX9_load_62 : decode cX9_load 62 = .ok (.getfield 105, 3) := by decide +kernel
theorem dX9_load_65 : decode cX9_load 65 = .ok (.putfield 13, 3) := by decide +kernel
theorem dX9_load_68 : decode cX9_load 68 = .ok (.aload_n 0, 1) := by decide +kernel
theorem dX9_load_69 : decode cX9_load 69 = .ok (.getfield 104, 3) := by decide +kernel
theorem dX9_load_72 : decode cX9_load 72 = .ok (.ifCond .eq 13, 3) := by decide +kernel
theorem dX9_load_75 : decode cX9_load 75 = .ok (.new 106, 3) := by decide +kernel
theorem dX9_load_78 : decode cX9_load 78 = .ok (.dup, 1) := by decide +kernel
theorem dX9_load_79 : decode cX9_load 79 = .ok (.ldc 108, 2) := by decide +kernel
theorem dX9_load_81 : decode cX9_load 81 = .ok (.invokespecial 110, 3) := by decide +kernel
theorem dX9_load_84 : decode cX9_load 84 = .ok (.athrow, 1) := by decide +kernel
theorem dX9_load_85 : decode cX9_load 85 = .ok (.aload_n 0, 1) := by decide +kernel
theorem dX9_load_86 : decode cX9_load 86 = .ok (.getfield 72, 3) := by decide +kernel
theorem dX9_load_89 : decode cX9_load 89 = .ok (.astore_n 3, 1) := by decide +kernel
theorem dX9_load_90 : decode cX9_load 90 = .ok (.aload_n 0, 1) := by decide +kernel
theorem dX9_load_91 : decode cX9_load 91 = .ok (.aload_n 0, 1) := by decide +kernel
theorem dX9_load_92 : decode cX9_load 92 = .ok (.getfield 76, 3) := by decide +kernel
theorem dX9_load_95 : decode cX9_load 95 = .ok (.putfield 72, 3) := by decide +kernel
theorem dX9_load_98 : decode cX9_load 98 = .ok (.aload_n 0, 1) := by decide +kernel
theorem dX9_load_99 : decode cX9_load 99 = .ok (.aload_n 3, 1) := by decide +kernel
theorem dX9_load_100 : decode cX9_load 100 = .ok (.putfield 76, 3) := by decide +kernel
theorem dX9_load_103 : decode cX9_load 103 = .ok (.aload_n 0, 1) := by decide +kernel
theorem dX9_load_104 : decode cX9_load 104 = .ok (.getfield 20, 3) := by decide +kernel
theorem dX9_load_107 : decode cX9_load 107 = .ok (.aload_n 0, 1) := by decide +kernel
theorem dX9_load_108 : decode cX9_load 108 = .ok (.getfield 24, 3) := by decide +kernel
theorem dX9_load_111 : decode cX9_load 111 = .ok (.invokevirtual 111, 3) := by decide +kernel
theorem dX9_load_114 : decode cX9_load 114 = .ok (.aload_n 0, 1) := by decide +kernel
theorem dX9_load_115 : decode cX9_load 115 = .ok (.getfield 30, 3) := by decide +kernel
theorem dX9_load_118 : decode cX9_load 118 = .ok (.invokevirtual 115, 3) := by decide +kernel
theorem dX9_load_121 : decode cX9_load 121 = .ok (.iconst 0, 1) := by decide +kernel
theorem dX9_load_122 : decode cX9_load 122 = .ok (.istore 4, 2) := by decide +kernel
theorem dX9_load_124 : decode cX9_load 124 = .ok (.iload 4, 2) := by decide +kernel
theorem dX9_load_126 : decode cX9_load 126 = .ok (.iconst 2, 1) := by decide +kernel
theorem dX9_load_127 : decode cX9_load 127 = .ok (.if_icmp .ge 17, 3) := by decide +kernel
theorem dX9_load_130 : decode cX9_load 130 = .ok (.aload_n 0, 1) := by decide +kernel
theorem dX9_load_131 : decode cX9_load 131 = .ok (.getfield 38, 3) := by decide +kernel
theorem dX9_load_134 : decode cX9_load 134 = .ok (.iload 4, 2) := by decide +kernel
theorem dX9_load_136 : decode cX9_load 136 = .ok (.iconst 0, 1) := by decide +kernel
theorem dX9_load_137 : decode cX9_load 137 = .ok (.bastore, 1) := by decide +kernel
theorem dX9_load_138 : decode cX9_load 138 = .ok (.iinc 4 1, 3) := by decide +kernel
theorem dX9_load_141 : decode cX9_load 141 = .ok (.goto (-17), 3) := by decide +kernel
theorem dX9_load_144 : decode cX9_load 144 = .ok (.aload_n 0, 1) := by decide +kernel
theorem dX9_load_145 : decode cX9_load 145 = .ok (.iconst 1, 1) := by decide +kernel
theorem dX9_load_146 : decode cX9_load 146 = .ok (.putfield 118, 3) := by decide +kernel
theorem dX9_load_149 : decode cX9_load 149 = .ok (.aload_n 0, 1) := by decide +kernel
theorem dX9_load_150 : decode cX9_load 150 = .ok (.getfield 72, 3) := by decide +kernel
theorem dX9_load_153 : decode cX9_load 153 = .ok (.getfield 122, 3) := by decide +kernel
theorem dX9_load_156 : decode cX9_load 156 = .ok (.ireturn, 1) := by decide +kernel
theorem dX9_time_0 : decode cX9_time 0 = .ok (.aload_n 0, 1) := by decide +kernel
theorem dX9_time_1 : decode cX9_time 1 = .ok (.getfield 118, 3) := by decide +kernel
theorem dX9_time_4 : decode cX9_time 4 = .ok (.ifCond .eq 13, 3) := by decide +kernel
theorem dX9_time_7 : decode cX9_time 7 = .ok (.aload_n 0, 1) := by decide +kernel
theorem dX9_time_8 : decode cX9_time 8 = .ok (.getfield 20, 3) := by decide +kernel
theorem dX9_time_11 : decode cX9_time 11 = .ok (.getfield 125, 3) := by decide +kernel
theorem dX9_time_14 : decode cX9_time 14 = .ok (.goto 4, 3) := by decide +kernel
theorem dX9_time_17 : decode cX9_time 17 = .ok (.iconst 0, 1) := by decide +kernel
theorem dX9_time_18 : decode cX9_time 18 = .ok (.ireturn, 1) := by decide +kernel
theorem dX9_openRows_0 : decode cX9_openRows 0 = .ok (.aload_n 0, 1) := by decide +kernel
theorem dX9_openRows_1 : decode cX9_openRows 1 = .ok (.invokevirtual 134, 3) := by decide +kernel
theorem dX9_openRows_4 : decode cX9_openRows 4 = .ok (.aload_n 0, 1) := by decide +kernel
theorem dX9_openRows_5 : decode cX9_openRows 5 = .ok (.getfield 20, 3) := by decide +kernel
theorem dX9_openRows_8 : decode cX9_openRows 8 = .ok (.getfield 140, 3) := by decide +kernel
theorem dX9_openRows_11 : decode cX9_openRows 11 = .ok (.ireturn, 1) := by decide +kernel
theorem dX9_isOpen_0 : decode cX9_isOpen 0 = .ok (.aload_n 0, 1) := by decide +kernel
theorem dX9_isOpen_1 : decode cX9_isOpen 1 = .ok (.invokevirtual 134, 3) := by decide +kernel
theorem dX9_isOpen_4 : decode cX9_isOpen 4 = .ok (.aload_n 0, 1) := by decide +kernel
theorem dX9_isOpen_5 : decode cX9_isOpen 5 = .ok (.iload_n 1, 1) := by decide +kernel
theorem dX9_isOpen_6 : decode cX9_isOpen 6 = .ok (.invokevirtual 143, 3) := by decide +kernel
theorem dX9_isOpen_9 : decode cX9_isOpen 9 = .ok (.aload_n 0, 1) := by decide +kernel
theorem dX9_isOpen_10 : decode cX9_isOpen 10 = .ok (.getfield 20, 3) := by decide +kernel
theorem dX9_isOpen_13 : decode cX9_isOpen 13 = .ok (.iload_n 1, 1) := by decide +kernel
theorem dX9_isOpen_14 : decode cX9_isOpen 14 = .ok (.invokevirtual 146, 3) := by decide +kernel
theorem dX9_isOpen_17 : decode cX9_isOpen 17 = .ok (.ireturn, 1) := by decide +kernel
theorem dX9_sourceAt_0 : decode cX9_sourceAt 0 = .ok (.aload_n 0, 1) := by decide +kernel
theorem dX9_sourceAt_1 : decode cX9_sourceAt 1 = .ok (.invokevirtual 134, 3) := by decide +kernel
theorem dX9_sourceAt_4 : decode cX9_sourceAt 4 = .ok (.aload_n 0, 1) := by decide +kernel
theorem dX9_sourceAt_5 : decode cX9_sourceAt 5 = .ok (.iload_n 1, 1) := by decide +kernel
theorem dX9_sourceAt_6 : decode cX9_sourceAt 6 = .ok (.invokevirtual 150, 3) := by decide +kernel
theorem dX9_sourceAt_9 : decode cX9_sourceAt 9 = .ok (.iload_n 2, 1) := by decide +kernel
theorem dX9_sourceAt_10 : decode cX9_sourceAt 10 = .ok (.iconst 0, 1) := by decide +kernel
theorem dX9_sourceAt_11 : decode cX9_sourceAt 11 = .ok (.iconst 1, 1) := by decide +kernel
theorem dX9_sourceAt_12 : decode cX9_sourceAt 12 = .ok (.invokestatic 153, 3) := by decide +kernel
theorem dX9_sourceAt_15 : decode cX9_sourceAt 15 = .ok (.iload_n 3, 1) := by decide +kernel
theorem dX9_sourceAt_16 : decode cX9_sourceAt 16 = .ok (.iconst 0, 1) := by decide +kernel
theorem dX9_sourceAt_17 : decode cX9_sourceAt 17 = .ok (.sipush 9999, 3) := by decide +kernel
theorem dX9_sourceAt_20 : decode cX9_sourceAt 20 = .ok (.invokestatic 153, 3) := by decide +kernel
theorem dX9_sourceAt_23 : decode cX9_sourceAt 23 = .ok (.iload_n 2, 1) := by decide +kernel
theorem dX9_sourceAt_24 : decode cX9_sourceAt 24 = .ok (.ifCond .ne 19, 3) := by decide +kernel
theorem dX9_sourceAt_27 : decode cX9_sourceAt 27 = .ok (.aload_n 0, 1) := by decide +kernel
theorem dX9_sourceAt_28 : decode cX9_sourceAt 28 = .ok (.getfield 72, 3) := by decide +kernel
theorem dX9_sourceAt_31 : decode cX9_sourceAt 31 = .ok (.aload_n 0, 1) := by decide +kernel
theorem dX9_sourceAt_32 : decode cX9_sourceAt 32 = .ok (.getfield 20, 3) := by decide +kernel
theorem dX9_sourceAt_35 : decode cX9_sourceAt 35 = .ok (.iload_n 1, 1) := by decide +kernel
theorem dX9_sourceAt_36 : decode cX9_sourceAt 36 = .ok (.iload_n 3, 1) := by decide +kernel
theorem dX9_sourceAt_37 : decode cX9_sourceAt 37 = .ok (.invokevirtual 157, 3) := by decide +kernel
theorem dX9_sourceAt_40 : decode cX9_sourceAt 40 = .ok (.goto 16, 3) := by decide +kernel
theorem dX9_sourceAt_43 : decode cX9_sourceAt 43 = .ok (.aload_n 0, 1) := by decide +kernel
theorem dX9_sourceAt_44 : decode cX9_sourceAt 44 = .ok (.getfield 72, 3) := by decide +kernel
theorem dX9_sourceAt_47 : decode cX9_sourceAt 47 = .ok (.aload_n 0, 1) := by decide +kernel
theorem dX9_sourceAt_48 : decode cX9_sourceAt 48 = .ok (.getfield 20, 3) := by decide +kernel
theorem dX9_sourceAt_51 : decode cX9_sourceAt 51 = .ok (.iload_n 1, 1) := by decide +kernel
theorem dX9_sourceAt_52 : decode cX9_sourceAt 52 = .ok (.iload_n 3, 1) := by decide +kernel
theorem dX9_sourceAt_53 : decode cX9_sourceAt 53 = .ok (.invokevirtual 161, 3) := by decide +kernel
theorem dX9_sourceAt_56 : decode cX9_sourceAt 56 = .ok (.ireturn, 1) := by decide +kernel
theorem dX9_property_0 : decode cX9_property 0 = .ok (.aload_n 0, 1) := by decide +kernel
theorem dX9_property_1 : decode cX9_property 1 = .ok (.invokevirtual 134, 3) := by decide +kernel
theorem dX9_property_4 : decode cX9_property 4 = .ok (.aload_n 0, 1) := by decide +kernel
theorem dX9_property_5 : decode cX9_property 5 = .ok (.iload_n 1, 1) := by decide +kernel
theorem dX9_property_6 : decode cX9_property 6 = .ok (.invokevirtual 150, 3) := by decide +kernel
theorem dX9_property_9 : decode cX9_property 9 = .ok (.iload_n 2, 1) := by decide +kernel
theorem dX9_property_10 : decode cX9_property 10 = .ok (.iconst 0, 1) := by decide +kernel
theorem dX9_property_11 : decode cX9_property 11 = .ok (.iconst 5, 1) := by decide +kernel
theorem dX9_property_12 : decode cX9_property 12 = .ok (.invokestatic 153, 3) := by decide +kernel
theorem dX9_property_15 : decode cX9_property 15 = .ok (.iload_n 2, 1) := by decide +kernel
theorem dX9_property_16 : decode cX9_property 16 = .ok (.tableswitch 95 0 4 #[36, 46, 59, 72, 82], 36) := by decide +kernel
theorem dX9_property_52 : decode cX9_property 52 = .ok (.aload_n 0, 1) := by decide +kernel
theorem dX9_property_53 : decode cX9_property 53 = .ok (.getfield 20, 3) := by decide +kernel
theorem dX9_property_56 : decode cX9_property 56 = .ok (.getfield 164, 3) := by decide +kernel
theorem dX9_property_59 : decode cX9_property 59 = .ok (.iload_n 1, 1) := by decide +kernel
theorem dX9_property_60 : decode cX9_property 60 = .ok (.iaload, 1) := by decide +kernel
theorem dX9_property_61 : decode cX9_property 61 = .ok (.ireturn, 1) := by decide +kernel
theorem dX9_property_62 : decode cX9_property 62 = .ok (.aload_n 0, 1) := by decide +kernel
theorem dX9_property_63 : decode cX9_property 63 = .ok (.getfield 72, 3) := by decide +kernel
theorem dX9_property_66 : decode cX9_property 66 = .ok (.getfield 167, 3) := by decide +kernel
theorem dX9_property_69 : decode cX9_property 69 = .ok (.iload_n 1, 1) := by decide +kernel
theorem dX9_property_70 : decode cX9_property 70 = .ok (.aaload, 1) := by decide +kernel
theorem dX9_property_71 : decode cX9_property 71 = .ok (.getfield 171, 3) := by decide +kernel
theorem dX9_property_74 : decode cX9_property 74 = .ok (.ireturn, 1) := by decide +kernel
theorem dX9_property_75 : decode cX9_property 75 = .ok (.aload_n 0, 1) := by decide +kernel
theorem dX9_property_76 : decode cX9_property 76 = .ok (.getfield 72, 3) := by decide +kernel
theorem dX9_property_79 : decode cX9_property 79 = .ok (.getfield 167, 3) := by decide +kernel
theorem dX9_property_82 : decode cX9_property 82 = .ok (.iload_n 1, 1) := by decide +kernel
theorem dX9_property_83 : decode cX9_property 83 = .ok (.aaload, 1) := by decide +kernel
theorem dX9_property_84 : decode cX9_property 84 = .ok (.getfield 176, 3) := by decide +kernel
theorem dX9_property_87 : decode cX9_property 87 = .ok (.ireturn, 1) := by decide +kernel
theorem dX9_property_88 : decode cX9_property 88 = .ok (.aload_n 0, 1) := by decide +kernel
theorem dX9_property_89 : decode cX9_property 89 = .ok (.getfield 20, 3) := by decide +kernel
theorem dX9_property_92 : decode cX9_property 92 = .ok (.getfield 179, 3) := by decide +kernel
theorem dX9_property_95 : decode cX9_property 95 = .ok (.iload_n 1, 1) := by decide +kernel
theorem dX9_property_96 : decode cX9_property 96 = .ok (.iaload, 1) := by decide +kernel
theorem dX9_property_97 : decode cX9_property 97 = .ok (.ireturn, 1) := by decide +kernel
theorem dX9_property_98 : decode cX9_property 98 = .ok (.aload_n 0, 1) := by decide +kernel
theorem dX9_property_99 : decode cX9_property 99 = .ok (.getfield 72, 3) := by decide +kernel
theorem dX9_property_102 : decode cX9_property 102 = .ok (.getfield 167, 3) := by decide +kernel
theorem dX9_property_105 : decode cX9_property 105 = .ok (.iload_n 1, 1) := by decide +kernel
theorem dX9_property_106 : decode cX9_property 106 = .ok (.aaload, 1) := by decide +kernel
theorem dX9_property_107 : decode cX9_property 107 = .ok (.getfield 182, 3) := by decide +kernel
theorem dX9_property_110 : decode cX9_property 110 = .ok (.ireturn, 1) := by decide +kernel
theorem dX9_property_111 : decode cX9_property 111 = .ok (.aload_n 0, 1) := by decide +kernel
theorem dX9_property_112 : decode cX9_property 112 = .ok (.getfield 72, 3) := by decide +kernel
theorem dX9_property_115 : decode cX9_property 115 = .ok (.getfield 167, 3) := by decide +kernel
theorem dX9_property_118 : decode cX9_property 118 = .ok (.iload_n 1, 1) := by decide +kernel
theorem dX9_property_119 : decode cX9_property 119 = .ok (.aaload, 1) := by decide +kernel
theorem dX9_property_120 : decode cX9_property 120 = .ok (.getfield 185, 3) := by decide +kernel
theorem dX9_property_123 : decode cX9_property 123 = .ok (.ireturn, 1) := by decide +kernel
theorem dX9_isOn_0 : decode cX9_isOn 0 = .ok (.aload_n 0, 1) := by decide +kernel
theorem dX9_isOn_1 : decode cX9_isOn 1 = .ok (.invokevirtual 134, 3) := by decide +kernel
theorem dX9_isOn_4 : decode cX9_isOn 4 = .ok (.aload_n 0, 1) := by decide +kernel
theorem dX9_isOn_5 : decode cX9_isOn 5 = .ok (.iload_n 1, 1) := by decide +kernel
theorem dX9_isOn_6 : decode cX9_isOn 6 = .ok (.invokevirtual 150, 3) := by decide +kernel
theorem dX9_isOn_9 : decode cX9_isOn 9 = .ok (.aload_n 0, 1) := by decide +kernel
theorem dX9_isOn_10 : decode cX9_isOn 10 = .ok (.getfield 20, 3) := by decide +kernel
theorem dX9_isOn_13 : decode cX9_isOn 13 = .ok (.getfield 188, 3) := by decide +kernel
theorem dX9_isOn_16 : decode cX9_isOn 16 = .ok (.iload_n 1, 1) := by decide +kernel
theorem dX9_isOn_17 : decode cX9_isOn 17 = .ok (.baload, 1) := by decide +kernel
theorem dX9_isOn_18 : decode cX9_isOn 18 = .ok (.ireturn, 1) := by decide +kernel
theorem dX9_distance_0 : decode cX9_distance 0 = .ok (.iload_n 1, 1) := by decide +kernel
theorem dX9_distance_1 : decode cX9_distance 1 = .ok (.iconst 0, 1) := by decide +kernel
theorem dX9_distance_2 : decode cX9_distance 2 = .ok (.bipush 15, 2) := by decide +kernel
theorem dX9_distance_4 : decode cX9_distance 4 = .ok (.invokestatic 153, 3) := by decide +kernel
theorem dX9_distance_7 : decode cX9_distance 7 = .ok (.iload_n 2, 1) := by decide +kernel
theorem dX9_distance_8 : decode cX9_distance 8 = .ok (.iconst 0, 1) := by decide +kernel
theorem dX9_distance_9 : decode cX9_distance 9 = .ok (.bipush 9, 2) := by decide +kernel
theorem dX9_distance_11 : decode cX9_distance 11 = .ok (.invokestatic 153, 3) := by decide +kernel
theorem dX9_distance_14 : decode cX9_distance 14 = .ok (.aload_n 0, 1) := by decide +kernel
theorem dX9_distance_15 : decode cX9_distance 15 = .ok (.getfield 72, 3) := by decide +kernel
theorem dX9_distance_18 : decode cX9_distance 18 = .ok (.getfield 199, 3) := by decide +kernel
theorem dX9_distance_21 : decode cX9_distance 21 = .ok (.iload_n 1, 1) := by decide +kernel
theorem dX9_distance_22 : decode cX9_distance 22 = .ok (.iload_n 2, 1) := by decide +kernel
theorem dX9_distance_23 : decode cX9_distance 23 = .ok (.invokevirtual 203, 3) := by decide +kernel
theorem dX9_distance_26 : decode cX9_distance 26 = .ok (.ireturn, 1) := by decide +kernel
theorem dX9_isBehind_0 : decode cX9_isBehind 0 = .ok (.aload_n 0, 1) := by decide +kernel
theorem dX9_isBehind_1 : decode cX9_isBehind 1 = .ok (.invokevirtual 134, 3) := by decide +kernel
theorem dX9_isBehind_4 : decode cX9_isBehind 4 = .ok (.aload_n 0, 1) := by decide +kernel
theorem dX9_isBehind_5 : decode cX9_isBehind 5 = .ok (.iload_n 1, 1) := by decide +kernel
theorem dX9_isBehind_6 : decode cX9_isBehind 6 = .ok (.invokevirtual 150, 3) := by decide +kernel
theorem dX9_isBehind_9 : decode cX9_isBehind 9 = .ok (.aload_n 0, 1) := by decide +kernel
theorem dX9_isBehind_10 : decode cX9_isBehind 10 = .ok (.iload_n 2, 1) := by decide +kernel
theorem dX9_isBehind_11 : decode cX9_isBehind 11 = .ok (.iload_n 3, 1) := by decide +kernel
theorem dX9_isBehind_12 : decode cX9_isBehind 12 = .ok (.invokevirtual 206, 3) := by decide +kernel
theorem dX9_isBehind_15 : decode cX9_isBehind 15 = .ok (.aload_n 0, 1) := by decide +kernel
theorem dX9_isBehind_16 : decode cX9_isBehind 16 = .ok (.getfield 72, 3) := by decide +kernel
theorem dX9_isBehind_19 : decode cX9_isBehind 19 = .ok (.aload_n 0, 1) := by decide +kernel
theorem dX9_isBehind_20 : decode cX9_isBehind 20 = .ok (.getfield 72, 3) := by decide +kernel
theorem dX9_isBehind_23 : decode cX9_isBehind 23 = .ok (.aload_n 0, 1) := by decide +kernel
theorem dX9_isBehind_24 : decode cX9_isBehind 24 = .ok (.getfield 20, 3) := by decide +kernel
theorem dX9_isBehind_27 : decode cX9_isBehind 27 = .ok (.iload_n 1, 1) := by decide +kernel
theorem dX9_isBehind_28 : decode cX9_isBehind 28 = .ok (.aload_n 0, 1) := by decide +kernel
theorem dX9_isBehind_29 : decode cX9_isBehind 29 = .ok (.getfield 20, 3) := by decide +kernel
theorem dX9_isBehind_32 : decode cX9_isBehind 32 = .ok (.getfield 125, 3) := by decide +kernel
theorem dX9_isBehind_35 : decode cX9_isBehind 35 = .ok (.invokevirtual 157, 3) := by decide +kernel
theorem dX9_isBehind_38 : decode cX9_isBehind 38 = .ok (.iload_n 2, 1) := by decide +kernel
theorem dX9_isBehind_39 : decode cX9_isBehind 39 = .ok (.invokevirtual 210, 3) := by decide +kernel
theorem dX9_isBehind_42 : decode cX9_isBehind 42 = .ok (.ireturn, 1) := by decide +kernel
theorem dX9_path_0 : decode cX9_path 0 = .ok (.aload_n 0, 1) := by decide +kernel
theorem dX9_path_1 : decode cX9_path 1 = .ok (.invokevirtual 134, 3) := by decide +kernel
theorem dX9_path_4 : decode cX9_path 4 = .ok (.aload_n 0, 1) := by decide +kernel
theorem dX9_path_5 : decode cX9_path 5 = .ok (.iload_n 1, 1) := by decide +kernel
theorem dX9_path_6 : decode cX9_path 6 = .ok (.invokevirtual 150, 3) := by decide +kernel
theorem dX9_path_9 : decode cX9_path 9 = .ok (.aload_n 0, 1) := by decide +kernel
theorem dX9_path_10 : decode cX9_path 10 = .ok (.iload_n 2, 1) := by decide +kernel
theorem dX9_path_11 : decode cX9_path 11 = .ok (.iload_n 3, 1) := by decide +kernel
theorem dX9_path_12 : decode cX9_path 12 = .ok (.invokevirtual 206, 3) := by decide +kernel
theorem dX9_path_15 : decode cX9_path 15 = .ok (.aload_n 0, 1) := by decide +kernel
theorem dX9_path_16 : decode cX9_path 16 = .ok (.iload 4, 2) := by decide +kernel
theorem dX9_path_18 : decode cX9_path 18 = .ok (.invokevirtual 143, 3) := by decide +kernel
theorem dX9_path_21 : decode cX9_path 21 = .ok (.aload_n 0, 1) := by decide +kernel
theorem dX9_path_22 : decode cX9_path 22 = .ok (.getfield 72, 3) := by decide +kernel
theorem dX9_path_25 : decode cX9_path 25 = .ok (.getfield 137, 3) := by decide +kernel
theorem dX9_path_28 : decode cX9_path 28 = .ok (.iconst (-1), 1) := by decide +kernel
theorem dX9_path_29 : decode cX9_path 29 = .ok (.if_icmp .ne 5, 3) := by decide +kernel
theorem dX9_path_32 : decode cX9_path 32 = .ok (.iconst (-1), 1) := by decide +kernel
theorem dX9_path_33 : decode cX9_path 33 = .ok (.ireturn, 1) := by decide +kernel
theorem dX9_path_34 : decode cX9_path 34 = .ok (.aload_n 0, 1) := by decide +kernel
theorem dX9_path_35 : decode cX9_path 35 = .ok (.getfield 72, 3) := by decide +kernel
theorem dX9_path_38 : decode cX9_path 38 = .ok (.aload_n 0, 1) := by decide +kernel
theorem dX9_path_39 : decode cX9_path 39 = .ok (.getfield 20, 3) := by decide +kernel
theorem dX9_path_42 : decode cX9_path 42 = .ok (.iload_n 1, 1) := by decide +kernel
theorem dX9_path_43 : decode cX9_path 43 = .ok (.aload_n 0, 1) := by decide +kernel
theorem dX9_path_44 : decode cX9_path 44 = .ok (.getfield 20, 3) := by decide +kernel
theorem dX9_path_47 : decode cX9_path 47 = .ok (.getfield 125, 3) := by decide +kernel
theorem dX9_path_50 : decode cX9_path 50 = .ok (.invokevirtual 157, 3) := by decide +kernel
theorem dX9_path_53 : decode cX9_path 53 = .ok (.istore 5, 2) := by decide +kernel
theorem dX9_path_55 : decode cX9_path 55 = .ok (.aload_n 0, 1) := by decide +kernel
theorem dX9_path_56 : decode cX9_path 56 = .ok (.getfield 72, 3) := by decide +kernel
theorem dX9_path_59 : decode cX9_path 59 = .ok (.aload_n 0, 1) := by decide +kernel
theorem dX9_path_60 : decode cX9_path 60 = .ok (.getfield 20, 3) := by decide +kernel
theorem dX9_path_63 : decode cX9_path 63 = .ok (.iload_n 1, 1) := by decide +kernel
theorem dX9_path_64 : decode cX9_path 64 = .ok (.aload_n 0, 1) := by decide +kernel
theorem dX9_path_65 : decode cX9_path 65 = .ok (.getfield 20, 3) := by decide +kernel
theorem dX9_path_68 : decode cX9_path 68 = .ok (.getfield 125, 3) := by decide +kernel
theorem dX9_path_71 : decode cX9_path 71 = .ok (.invokevirtual 161, 3) := by decide +kernel
theorem dX9_path_74 : decode cX9_path 74 = .ok (.istore 6, 2) := by decide +kernel
theorem dX9_path_76 : decode cX9_path 76 = .ok (.aload_n 0, 1) := by decide +kernel
theorem dX9_path_77 : decode cX9_path 77 = .ok (.getfield 72, 3) := by decide +kernel
theorem dX9_path_80 : decode cX9_path 80 = .ok (.iload 4, 2) := by decide +kernel
theorem dX9_path_82 : decode cX9_path 82 = .ok (.iload 5, 2) := by decide +kernel
theorem dX9_path_84 : decode cX9_path 84 = .ok (.iload 6, 2) := by decide +kernel
theorem dX9_path_86 : decode cX9_path 86 = .ok (.iload_n 2, 1) := by decide +kernel
theorem dX9_path_87 : decode cX9_path 87 = .ok (.iload_n 3, 1) := by decide +kernel
theorem dX9_path_88 : decode cX9_path 88 = .ok (.invokevirtual 214, 3) := by decide +kernel
theorem dX9_path_91 : decode cX9_path 91 = .ok (.ireturn, 1) := by decide +kernel
theorem dX9_shortest_0 : decode cX9_shortest 0 = .ok (.aload_n 0, 1) := by decide +kernel
theorem dX9_shortest_1 : decode cX9_shortest 1 = .ok (.invokevirtual 134, 3) := by decide +kernel
theorem dX9_shortest_4 : decode cX9_shortest 4 = .ok (.aload_n 0, 1) := by decide +kernel
theorem dX9_shortest_5 : decode cX9_shortest 5 = .ok (.iload_n 1, 1) := by decide +kernel
theorem dX9_shortest_6 : decode cX9_shortest 6 = .ok (.invokevirtual 150, 3) := by decide +kernel
theorem dX9_shortest_9 : decode cX9_shortest 9 = .ok (.aload_n 0, 1) := by decide +kernel
theorem dX9_shortest_10 : decode cX9_shortest 10 = .ok (.iload_n 2, 1) := by decide +kernel
theorem dX9_shortest_11 : decode cX9_shortest 11 = .ok (.iload_n 3, 1) := by decide +kernel
theorem dX9_shortest_12 : decode cX9_shortest 12 = .ok (.invokevirtual 206, 3) := by decide +kernel
theorem dX9_shortest_15 : decode cX9_shortest 15 = .ok (.aload_n 0, 1) := by decide +kernel
theorem dX9_shortest_16 : decode cX9_shortest 16 = .ok (.getfield 72, 3) := by decide +kernel
theorem dX9_shortest_19 : decode cX9_shortest 19 = .ok (.aload_n 0, 1) := by decide +kernel
theorem dX9_shortest_20 : decode cX9_shortest 20 = .ok (.getfield 20, 3) := by decide +kernel
theorem dX9_shortest_23 : decode cX9_shortest 23 = .ok (.iload_n 1, 1) := by decide +kernel
theorem dX9_shortest_24 : decode cX9_shortest 24 = .ok (.iload_n 2, 1) := by decide +kernel
theorem dX9_shortest_25 : decode cX9_shortest 25 = .ok (.iload_n 3, 1) := by decide +kernel
theorem dX9_shortest_26 : decode cX9_shortest 26 = .ok (.invokevirtual 218, 3) := by decide +kernel
theorem dX9_shortest_29 : decode cX9_shortest 29 = .ok (.ireturn, 1) := by decide +kernel
theorem dX9_phase_0 : decode cX9_phase 0 = .ok (.aload_n 0, 1) := by decide +kernel
theorem dX9_phase_1 : decode cX9_phase 1 = .ok (.invokevirtual 134, 3) := by decide +kernel
theorem dX9_phase_4 : decode cX9_phase 4 = .ok (.aload_n 0, 1) := by decide +kernel
theorem dX9_phase_5 : decode cX9_phase 5 = .ok (.iload_n 1, 1) := by decide +kernel
theorem dX9_phase_6 : decode cX9_phase 6 = .ok (.invokevirtual 150, 3) := by decide +kernel
theorem dX9_phase_9 : decode cX9_phase 9 = .ok (.aload_n 0, 1) := by decide +kernel
theorem dX9_phase_10 : decode cX9_phase 10 = .ok (.iload_n 2, 1) := by decide +kernel
theorem dX9_phase_11 : decode cX9_phase 11 = .ok (.iload_n 3, 1) := by decide +kernel
theorem dX9_phase_12 : decode cX9_phase 12 = .ok (.invokevirtual 206, 3) := by decide +kernel
theorem dX9_phase_15 : decode cX9_phase 15 = .ok (.aload_n 0, 1) := by decide +kernel
theorem dX9_phase_16 : decode cX9_phase 16 = .ok (.getfield 72, 3) := by decide +kernel
theorem dX9_phase_19 : decode cX9_phase 19 = .ok (.aload_n 0, 1) := by decide +kernel
theorem dX9_phase_20 : decode cX9_phase 20 = .ok (.getfield 20, 3) := by decide +kernel
theorem dX9_phase_23 : decode cX9_phase 23 = .ok (.iload_n 1, 1) := by decide +kernel
theorem dX9_phase_24 : decode cX9_phase 24 = .ok (.iload_n 2, 1) := by decide +kernel
theorem dX9_phase_25 : decode cX9_phase 25 = .ok (.iload_n 3, 1) := by decide +kernel
theorem dX9_phase_26 : decode cX9_phase 26 = .ok (.invokevirtual 218, 3) := by decide +kernel
theorem dX9_phase_29 : decode cX9_phase 29 = .ok (.istore 4, 2) := by decide +kernel
theorem dX9_phase_31 : decode cX9_phase 31 = .ok (.iload 4, 2) := by decide +kernel
theorem dX9_phase_33 : decode cX9_phase 33 = .ok (.iconst (-1), 1) := by decide +kernel
theorem dX9_phase_34 : decode cX9_phase 34 = .ok (.if_icmp .ne 5, 3) := by decide +kernel
theorem dX9_phase_37 : decode cX9_phase 37 = .ok (.iconst (-1), 1) := by decide +kernel
theorem dX9_phase_38 : decode cX9_phase 38 = .ok (.ireturn, 1) := by decide +kernel
theorem dX9_phase_39 : decode cX9_phase 39 = .ok (.aload_n 0, 1) := by decide +kernel
theorem dX9_phase_40 : decode cX9_phase 40 = .ok (.getfield 72, 3) := by decide +kernel
theorem dX9_phase_43 : decode cX9_phase 43 = .ok (.getfield 167, 3) := by decide +kernel
theorem dX9_phase_46 : decode cX9_phase 46 = .ok (.iload_n 1, 1) := by decide +kernel
theorem dX9_phase_47 : decode cX9_phase 47 = .ok (.aaload, 1) := by decide +kernel
theorem dX9_phase_48 : decode cX9_phase 48 = .ok (.aload_n 0, 1) := by decide +kernel
theorem dX9_phase_49 : decode cX9_phase 49 = .ok (.getfield 20, 3) := by decide +kernel
theorem dX9_phase_52 : decode cX9_phase 52 = .ok (.getfield 179, 3) := by decide +kernel
theorem dX9_phase_55 : decode cX9_phase 55 = .ok (.iload_n 1, 1) := by decide +kernel
theorem dX9_phase_56 : decode cX9_phase 56 = .ok (.iaload, 1) := by decide +kernel
theorem dX9_phase_57 : decode cX9_phase 57 = .ok (.iload 4, 2) := by decide +kernel
theorem dX9_phase_59 : decode cX9_phase 59 = .ok (.aload_n 0, 1) := by decide +kernel
theorem dX9_phase_60 : decode cX9_phase 60 = .ok (.getfield 20, 3) := by decide +kernel
theorem dX9_phase_63 : decode cX9_phase 63 = .ok (.getfield 125, 3) := by decide +kernel
theorem dX9_phase_66 : decode cX9_phase 66 = .ok (.invokevirtual 222, 3) := by decide +kernel
theorem dX9_phase_69 : decode cX9_phase 69 = .ok (.ireturn, 1) := by decide +kernel
theorem dX9_arrival_0 : decode cX9_arrival 0 = .ok (.aload_n 0, 1) := by decide +kernel
theorem dX9_arrival_1 : decode cX9_arrival 1 = .ok (.invokevirtual 134, 3) := by decide +kernel
theorem dX9_arrival_4 : decode cX9_arrival 4 = .ok (.aload_n 0, 1) := by decide +kernel
theorem dX9_arrival_5 : decode cX9_arrival 5 = .ok (.iload_n 1, 1) := by decide +kernel
theorem dX9_arrival_6 : decode cX9_arrival 6 = .ok (.invokevirtual 150, 3) := by decide +kernel
