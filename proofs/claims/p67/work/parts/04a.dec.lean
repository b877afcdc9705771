theorem dX0_init_0 : decode cX0_init 0 = .ok (.aload_n 0, 1) := by decide +kernel
theorem dX0_init_1 : decode cX0_init 1 = .ok (.invokespecial 1, 3) := by decide +kernel
theorem dX0_init_4 : decode cX0_init 4 = .ok (.aload_n 0, 1) := by decide +kernel
theorem dX0_init_5 : decode cX0_init 5 = .ok (.bipush 8, 2) := by decide +kernel
theorem dX0_init_7 : decode cX0_init 7 = .ok (.anewarray 9, 3) := by decide +kernel
theorem dX0_init_10 : decode cX0_init 10 = .ok (.putfield 11, 3) := by decide +kernel
theorem dX0_init_13 : decode cX0_init 13 = .ok (.iconst 0, 1) := by decide +kernel
theorem dX0_init_14 : decode cX0_init 14 = .ok (.istore_n 1, 1) := by decide +kernel
theorem dX0_init_15 : decode cX0_init 15 = .ok (.iload_n 1, 1) := by decide +kernel
theorem dX0_init_16 : decode cX0_init 16 = .ok (.bipush 8, 2) := by decide +kernel
theorem dX0_init_18 : decode cX0_init 18 = .ok (.if_icmp .ge 22, 3) := by decide +kernel
theorem dX0_init_21 : decode cX0_init 21 = .ok (.aload_n 0, 1) := by decide +kernel
theorem dX0_init_22 : decode cX0_init 22 = .ok (.getfield 11, 3) := by decide +kernel
theorem dX0_init_25 : decode cX0_init 25 = .ok (.iload_n 1, 1) := by decide +kernel
theorem dX0_init_26 : decode cX0_init 26 = .ok (.new 9, 3) := by decide +kernel
theorem dX0_init_29 : decode cX0_init 29 = .ok (.dup, 1) := by decide +kernel
theorem dX0_init_30 : decode cX0_init 30 = .ok (.invokespecial 15, 3) := by decide +kernel
theorem dX0_init_33 : decode cX0_init 33 = .ok (.aastore, 1) := by decide +kernel
theorem dX0_init_34 : decode cX0_init 34 = .ok (.iinc 1 1, 3) := by decide +kernel
theorem dX0_init_37 : decode cX0_init 37 = .ok (.goto (-22), 3) := by decide +kernel
theorem dX0_init_40 : decode cX0_init 40 = .ok (.return_, 1) := by decide +kernel
theorem dX0_clear_0 : decode cX0_clear 0 = .ok (.aload_n 0, 1) := by decide +kernel
theorem dX0_clear_1 : decode cX0_clear 1 = .ok (.iconst 0, 1) := by decide +kernel
theorem dX0_clear_2 : decode cX0_clear 2 = .ok (.putfield 16, 3) := by decide +kernel
theorem dX0_clear_5 : decode cX0_clear 5 = .ok (.return_, 1) := by decide +kernel
theorem dX0_keep_0 : decode cX0_keep 0 = .ok (.aload_n 0, 1) := by decide +kernel
theorem dX0_keep_1 : decode cX0_keep 1 = .ok (.getfield 11, 3) := by decide +kernel
theorem dX0_keep_4 : decode cX0_keep 4 = .ok (.aload_n 0, 1) := by decide +kernel
theorem dX0_keep_5 : decode cX0_keep 5 = .ok (.getfield 20, 3) := by decide +kernel
theorem dX0_keep_8 : decode cX0_keep 8 = .ok (.aload_n 0, 1) := by decide +kernel
theorem dX0_keep_9 : decode cX0_keep 9 = .ok (.getfield 16, 3) := by decide +kernel
theorem dX0_keep_12 : decode cX0_keep 12 = .ok (.iadd, 1) := by decide +kernel
theorem dX0_keep_13 : decode cX0_keep 13 = .ok (.bipush 8, 2) := by decide +kernel
theorem dX0_keep_15 : decode cX0_keep 15 = .ok (.irem, 1) := by decide +kernel
theorem dX0_keep_16 : decode cX0_keep 16 = .ok (.aaload, 1) := by decide +kernel
theorem dX0_keep_17 : decode cX0_keep 17 = .ok (.aload_n 1, 1) := by decide +kernel
theorem dX0_keep_18 : decode cX0_keep 18 = .ok (.invokevirtual 23, 3) := by decide +kernel
theorem dX0_keep_21 : decode cX0_keep 21 = .ok (.aload_n 0, 1) := by decide +kernel
theorem dX0_keep_22 : decode cX0_keep 22 = .ok (.getfield 16, 3) := by decide +kernel
theorem dX0_keep_25 : decode cX0_keep 25 = .ok (.bipush 8, 2) := by decide +kernel
theorem dX0_keep_27 : decode cX0_keep 27 = .ok (.if_icmp .ge 16, 3) := by decide +kernel
theorem dX0_keep_30 : decode cX0_keep 30 = .ok (.aload_n 0, 1) := by decide +kernel
theorem dX0_keep_31 : decode cX0_keep 31 = .ok (.dup, 1) := by decide +kernel
theorem dX0_keep_32 : decode cX0_keep 32 = .ok (.getfield 16, 3) := by decide +kernel
theorem dX0_keep_35 : decode cX0_keep 35 = .ok (.iconst 1, 1) := by decide +kernel
theorem dX0_keep_36 : decode cX0_keep 36 = .ok (.iadd, 1) := by decide +kernel
theorem dX0_keep_37 : decode cX0_keep 37 = .ok (.putfield 16, 3) := by decide +kernel
theorem dX0_keep_40 : decode cX0_keep 40 = .ok (.goto 16, 3) := by decide +kernel
theorem dX0_keep_43 : decode cX0_keep 43 = .ok (.aload_n 0, 1) := by decide +kernel
theorem dX0_keep_44 : decode cX0_keep 44 = .ok (.aload_n 0, 1) := by decide +kernel
theorem dX0_keep_45 : decode cX0_keep 45 = .ok (.getfield 20, 3) := by decide +kernel
theorem dX0_keep_48 : decode cX0_keep 48 = .ok (.iconst 1, 1) := by decide +kernel
theorem dX0_keep_49 : decode cX0_keep 49 = .ok (.iadd, 1) := by decide +kernel
theorem dX0_keep_50 : decode cX0_keep 50 = .ok (.bipush 8, 2) := by decide +kernel
theorem dX0_keep_52 : decode cX0_keep 52 = .ok (.irem, 1) := by decide +kernel
theorem dX0_keep_53 : decode cX0_keep 53 = .ok (.putfield 20, 3) := by decide +kernel
theorem dX0_keep_56 : decode cX0_keep 56 = .ok (.return_, 1) := by decide +kernel
theorem dX0_takeBack_0 : decode cX0_takeBack 0 = .ok (.aload_n 0, 1) := by decide +kernel
theorem dX0_takeBack_1 : decode cX0_takeBack 1 = .ok (.getfield 16, 3) := by decide +kernel
theorem dX0_takeBack_4 : decode cX0_takeBack 4 = .ok (.ifCond .le 34, 3) := by decide +kernel
theorem dX0_takeBack_7 : decode cX0_takeBack 7 = .ok (.aload_n 0, 1) := by decide +kernel
theorem dX0_takeBack_8 : decode cX0_takeBack 8 = .ok (.dup, 1) := by decide +kernel
theorem dX0_takeBack_9 : decode cX0_takeBack 9 = .ok (.getfield 16, 3) := by decide +kernel
theorem dX0_takeBack_12 : decode cX0_takeBack 12 = .ok (.iconst 1, 1) := by decide +kernel
theorem dX0_takeBack_13 : decode cX0_takeBack 13 = .ok (.isub, 1) := by decide +kernel
theorem dX0_takeBack_14 : decode cX0_takeBack 14 = .ok (.putfield 16, 3) := by decide +kernel
theorem dX0_takeBack_17 : decode cX0_takeBack 17 = .ok (.aload_n 1, 1) := by decide +kernel
theorem dX0_takeBack_18 : decode cX0_takeBack 18 = .ok (.aload_n 0, 1) := by decide +kernel
theorem dX0_takeBack_19 : decode cX0_takeBack 19 = .ok (.getfield 11, 3) := by decide +kernel
theorem dX0_takeBack_22 : decode cX0_takeBack 22 = .ok (.aload_n 0, 1) := by decide +kernel
theorem dX0_takeBack_23 : decode cX0_takeBack 23 = .ok (.getfield 20, 3) := by decide +kernel
theorem dX0_takeBack_26 : decode cX0_takeBack 26 = .ok (.aload_n 0, 1) := by decide +kernel
theorem dX0_takeBack_27 : decode cX0_takeBack 27 = .ok (.getfield 16, 3) := by decide +kernel
theorem dX0_takeBack_30 : decode cX0_takeBack 30 = .ok (.iadd, 1) := by decide +kernel
theorem dX0_takeBack_31 : decode cX0_takeBack 31 = .ok (.bipush 8, 2) := by decide +kernel
theorem dX0_takeBack_33 : decode cX0_takeBack 33 = .ok (.irem, 1) := by decide +kernel
theorem dX0_takeBack_34 : decode cX0_takeBack 34 = .ok (.aaload, 1) := by decide +kernel
theorem dX0_takeBack_35 : decode cX0_takeBack 35 = .ok (.invokevirtual 23, 3) := by decide +kernel
theorem dX0_takeBack_38 : decode cX0_takeBack 38 = .ok (.return_, 1) := by decide +kernel
theorem dX1_init_0 : decode cX1_init 0 = .ok (.aload_n 0, 1) := by decide +kernel
theorem dX1_init_1 : decode cX1_init 1 = .ok (.invokespecial 3, 3) := by decide +kernel
theorem dX1_init_4 : decode cX1_init 4 = .ok (.aload_n 0, 1) := by decide +kernel
theorem dX1_init_5 : decode cX1_init 5 = .ok (.bipush 10, 2) := by decide +kernel
theorem dX1_init_7 : decode cX1_init 7 = .ok (.newarray .int, 2) := by decide +kernel
theorem dX1_init_9 : decode cX1_init 9 = .ok (.putfield 9, 3) := by decide +kernel
theorem dX1_init_12 : decode cX1_init 12 = .ok (.aload_n 0, 1) := by decide +kernel
theorem dX1_init_13 : decode cX1_init 13 = .ok (.sipush 160, 3) := by decide +kernel
theorem dX1_init_16 : decode cX1_init 16 = .ok (.newarray .int, 2) := by decide +kernel
theorem dX1_init_18 : decode cX1_init 18 = .ok (.putfield 15, 3) := by decide +kernel
theorem dX1_init_21 : decode cX1_init 21 = .ok (.return_, 1) := by decide +kernel
theorem dX1_countGroups_0 : decode cX1_countGroups 0 = .ok (.iconst 0, 1) := by decide +kernel
theorem dX1_countGroups_1 : decode cX1_countGroups 1 = .ok (.istore_n 3, 1) := by decide +kernel
theorem dX1_countGroups_2 : decode cX1_countGroups 2 = .ok (.iconst 0, 1) := by decide +kernel
theorem dX1_countGroups_3 : decode cX1_countGroups 3 = .ok (.istore 4, 2) := by decide +kernel
theorem dX1_countGroups_5 : decode cX1_countGroups 5 = .ok (.iload 4, 2) := by decide +kernel
theorem dX1_countGroups_7 : decode cX1_countGroups 7 = .ok (.iload_n 2, 1) := by decide +kernel
theorem dX1_countGroups_8 : decode cX1_countGroups 8 = .ok (.if_icmp .ge 53, 3) := by decide +kernel
theorem dX1_countGroups_11 : decode cX1_countGroups 11 = .ok (.iconst 0, 1) := by decide +kernel
theorem dX1_countGroups_12 : decode cX1_countGroups 12 = .ok (.istore 5, 2) := by decide +kernel
theorem dX1_countGroups_14 : decode cX1_countGroups 14 = .ok (.iload 5, 2) := by decide +kernel
theorem dX1_countGroups_16 : decode cX1_countGroups 16 = .ok (.iload_n 1, 1) := by decide +kernel
theorem dX1_countGroups_17 : decode cX1_countGroups 17 = .ok (.if_icmp .ge 38, 3) := by decide +kernel
theorem dX1_countGroups_20 : decode cX1_countGroups 20 = .ok (.aload_n 0, 1) := by decide +kernel
theorem dX1_countGroups_21 : decode cX1_countGroups 21 = .ok (.getfield 9, 3) := by decide +kernel
theorem dX1_countGroups_24 : decode cX1_countGroups 24 = .ok (.iload 4, 2) := by decide +kernel
theorem dX1_countGroups_26 : decode cX1_countGroups 26 = .ok (.iaload, 1) := by decide +kernel
theorem dX1_countGroups_27 : decode cX1_countGroups 27 = .ok (.iload 5, 2) := by decide +kernel
theorem dX1_countGroups_29 : decode cX1_countGroups 29 = .ok (.ishr, 1) := by decide +kernel
theorem dX1_countGroups_30 : decode cX1_countGroups 30 = .ok (.iconst 1, 1) := by decide +kernel
theorem dX1_countGroups_31 : decode cX1_countGroups 31 = .ok (.iand, 1) := by decide +kernel
theorem dX1_countGroups_32 : decode cX1_countGroups 32 = .ok (.iconst 1, 1) := by decide +kernel
theorem dX1_countGroups_33 : decode cX1_countGroups 33 = .ok (.if_icmp .ne 16, 3) := by decide +kernel
theorem dX1_countGroups_36 : decode cX1_countGroups 36 = .ok (.iinc 3 1, 3) := by decide +kernel
theorem dX1_countGroups_39 : decode cX1_countGroups 39 = .ok (.aload_n 0, 1) := by decide +kernel
theorem dX1_countGroups_40 : decode cX1_countGroups 40 = .ok (.iload 5, 2) := by decide +kernel
theorem dX1_countGroups_42 : decode cX1_countGroups 42 = .ok (.iload 4, 2) := by decide +kernel
theorem dX1_countGroups_44 : decode cX1_countGroups 44 = .ok (.iload_n 1, 1) := by decide +kernel
theorem dX1_countGroups_45 : decode cX1_countGroups 45 = .ok (.iload_n 2, 1) := by decide +kernel
theorem dX1_countGroups_46 : decode cX1_countGroups 46 = .ok (.invokevirtual 18, 3) := by decide +kernel
theorem dX1_countGroups_49 : decode cX1_countGroups 49 = .ok (.iinc 5 1, 3) := by decide +kernel
theorem dX1_countGroups_52 : decode cX1_countGroups 52 = .ok (.goto (-38), 3) := by decide +kernel
theorem dX1_countGroups_55 : decode cX1_countGroups 55 = .ok (.iinc 4 1, 3) := by decide +kernel
theorem dX1_countGroups_58 : decode cX1_countGroups 58 = .ok (.goto (-53), 3) := by decide +kernel
theorem dX1_countGroups_61 : decode cX1_countGroups 61 = .ok (.iload_n 3, 1) := by decide +kernel
theorem dX1_countGroups_62 : decode cX1_countGroups 62 = .ok (.ireturn, 1) := by decide +kernel
theorem dX1_removeGroup_0 : decode cX1_removeGroup 0 = .ok (.aload_n 0, 1) := by decide +kernel
theorem dX1_removeGroup_1 : decode cX1_removeGroup 1 = .ok (.iconst 0, 1) := by decide +kernel
theorem dX1_removeGroup_2 : decode cX1_removeGroup 2 = .ok (.putfield 22, 3) := by decide +kernel
theorem dX1_removeGroup_5 : decode cX1_removeGroup 5 = .ok (.aload_n 0, 1) := by decide +kernel
theorem dX1_removeGroup_6 : decode cX1_removeGroup 6 = .ok (.iload_n 1, 1) := by decide +kernel
theorem dX1_removeGroup_7 : decode cX1_removeGroup 7 = .ok (.iload_n 2, 1) := by decide +kernel
theorem dX1_removeGroup_8 : decode cX1_removeGroup 8 = .ok (.iload_n 3, 1) := by decide +kernel
theorem dX1_removeGroup_9 : decode cX1_removeGroup 9 = .ok (.iload 4, 2) := by decide +kernel
theorem dX1_removeGroup_11 : decode cX1_removeGroup 11 = .ok (.invokevirtual 26, 3) := by decide +kernel
theorem dX1_removeGroup_14 : decode cX1_removeGroup 14 = .ok (.iconst 0, 1) := by decide +kernel
theorem dX1_removeGroup_15 : decode cX1_removeGroup 15 = .ok (.istore 5, 2) := by decide +kernel
theorem dX1_removeGroup_17 : decode cX1_removeGroup 17 = .ok (.iload 5, 2) := by decide +kernel
theorem dX1_removeGroup_19 : decode cX1_removeGroup 19 = .ok (.aload_n 0, 1) := by decide +kernel
theorem dX1_removeGroup_20 : decode cX1_removeGroup 20 = .ok (.getfield 22, 3) := by decide +kernel
theorem dX1_removeGroup_23 : decode cX1_removeGroup 23 = .ok (.if_icmp .ge 91, 3) := by decide +kernel
theorem dX1_removeGroup_26 : decode cX1_removeGroup 26 = .ok (.iload 5, 2) := by decide +kernel
theorem dX1_removeGroup_28 : decode cX1_removeGroup 28 = .ok (.sipush 160, 3) := by decide +kernel
theorem dX1_removeGroup_31 : decode cX1_removeGroup 31 = .ok (.if_icmp .ge 83, 3) := by decide +kernel
theorem dX1_removeGroup_34 : decode cX1_removeGroup 34 = .ok (.aload_n 0, 1) := by decide +kernel
theorem dX1_removeGroup_35 : decode cX1_removeGroup 35 = .ok (.getfield 15, 3) := by decide +kernel
theorem dX1_removeGroup_38 : decode cX1_removeGroup 38 = .ok (.iload 5, 2) := by decide +kernel
theorem dX1_removeGroup_40 : decode cX1_removeGroup 40 = .ok (.iaload, 1) := by decide +kernel
theorem dX1_removeGroup_41 : decode cX1_removeGroup 41 = .ok (.iload_n 3, 1) := by decide +kernel
theorem dX1_removeGroup_42 : decode cX1_removeGroup 42 = .ok (.irem, 1) := by decide +kernel
theorem dX1_removeGroup_43 : decode cX1_removeGroup 43 = .ok (.istore 6, 2) := by decide +kernel
theorem dX1_removeGroup_45 : decode cX1_removeGroup 45 = .ok (.aload_n 0, 1) := by decide +kernel
theorem dX1_removeGroup_46 : decode cX1_removeGroup 46 = .ok (.getfield 15, 3) := by decide +kernel
theorem dX1_removeGroup_49 : decode cX1_removeGroup 49 = .ok (.iload 5, 2) := by decide +kernel
theorem dX1_removeGroup_51 : decode cX1_removeGroup 51 = .ok (.iaload, 1) := by decide +kernel
theorem dX1_removeGroup_52 : decode cX1_removeGroup 52 = .ok (.iload_n 3, 1) := by decide +kernel
theorem dX1_removeGroup_53 : decode cX1_removeGroup 53 = .ok (.idiv, 1) := by decide +kernel
theorem dX1_removeGroup_54 : decode cX1_removeGroup 54 = .ok (.istore 7, 2) := by decide +kernel
theorem dX1_removeGroup_56 : decode cX1_removeGroup 56 = .ok (.aload_n 0, 1) := by decide +kernel
theorem dX1_removeGroup_57 : decode cX1_removeGroup 57 = .ok (.iload 6, 2) := by decide +kernel
theorem dX1_removeGroup_59 : decode cX1_removeGroup 59 = .ok (.iconst 1, 1) := by decide +kernel
theorem dX1_removeGroup_60 : decode cX1_removeGroup 60 = .ok (.isub, 1) := by decide +kernel
theorem dX1_removeGroup_61 : decode cX1_removeGroup 61 = .ok (.iload 7, 2) := by decide +kernel
theorem dX1_removeGroup_63 : decode cX1_removeGroup 63 = .ok (.iload_n 3, 1) := by decide +kernel
theorem dX1_removeGroup_64 : decode cX1_removeGroup 64 = .ok (.iload 4, 2) := by decide +kernel
theorem dX1_removeGroup_66 : decode cX1_removeGroup 66 = .ok (.invokevirtual 26, 3) := by decide +kernel
theorem dX1_removeGroup_69 : decode cX1_removeGroup 69 = .ok (.aload_n 0, 1) := by decide +kernel
theorem dX1_removeGroup_70 : decode cX1_removeGroup 70 = .ok (.iload 6, 2) := by decide +kernel
theorem dX1_removeGroup_72 : decode cX1_removeGroup 72 = .ok (.iconst 1, 1) := by decide +kernel
theorem dX1_removeGroup_73 : decode cX1_removeGroup 73 = .ok (.iadd, 1) := by decide +kernel
theorem dX1_removeGroup_74 : decode cX1_removeGroup 74 = .ok (.iload 7, 2) := by decide +kernel
theorem dX1_removeGroup_76 : decode cX1_removeGroup 76 = .ok (.iload_n 3, 1) := by decide +kernel
theorem dX1_removeGroup_77 : decode cX1_removeGroup 77 = .ok (.iload 4, 2) := by decide +kernel
theorem dX1_removeGroup_79 : decode cX1_removeGroup 79 = .ok (.invokevirtual 26, 3) := by decide +kernel
theorem dX1_removeGroup_82 : decode cX1_removeGroup 82 = .ok (.aload_n 0, 1) := by decide +kernel
theorem dX1_removeGroup_83 : decode cX1_removeGroup 83 = .ok (.iload 6, 2) := by decide +kernel
theorem dX1_removeGroup_85 : decode cX1_removeGroup 85 = .ok (.iload 7, 2) := by decide +kernel
theorem dX1_removeGroup_87 : decode cX1_removeGroup 87 = .ok (.iconst 1, 1) := by decide +kernel
theorem dX1_removeGroup_88 : decode cX1_removeGroup 88 = .ok (.isub, 1) := by decide +kernel
theorem dX1_removeGroup_89 : decode cX1_removeGroup 89 = .ok (.iload_n 3, 1) := by decide +kernel
theorem dX1_removeGroup_90 : decode cX1_removeGroup 90 = .ok (.iload 4, 2) := by decide +kernel
theorem dX1_removeGroup_92 : decode cX1_removeGroup 92 = .ok (.invokevirtual 26, 3) := by decide +kernel
theorem dX1_removeGroup_95 : decode cX1_removeGroup 95 = .ok (.aload_n 0, 1) := by decide +kernel
theorem dX1_removeGroup_96 : decode cX1_removeGroup 96 = .ok (.iload 6, 2) := by decide +kernel
theorem dX1_removeGroup_98 : decode cX1_removeGroup 98 = .ok (.iload 7, 2) := by decide +kernel
theorem dX1_removeGroup_100 : decode cX1_removeGroup 100 = .ok (.iconst 1, 1) := by decide +kernel
theorem dX1_removeGroup_101 : decode cX1_removeGroup 101 = .ok (.iadd, 1) := by decide +kernel
theorem dX1_removeGroup_102 : decode cX1_removeGroup 102 = .ok (.iload_n 3, 1) := by decide +kernel
theorem dX1_removeGroup_103 : decode cX1_removeGroup 103 = .ok (.iload 4, 2) := by decide +kernel
theorem dX1_removeGroup_105 : decode cX1_removeGroup 105 = .ok (.invokevirtual 26, 3) := by decide +kernel
theorem dX1_removeGroup_108 : decode cX1_removeGroup 108 = .ok (.iinc 5 1, 3) := by decide +kernel
theorem dX1_removeGroup_111 : decode cX1_removeGroup 111 = .ok (.goto (-94), 3) := by decide +kernel
theorem dX1_removeGroup_114 : decode cX1_removeGroup 114 = .ok (.return_, 1) := by decide +kernel
theorem dX1_gather_0 : decode cX1_gather 0 = .ok (.iload_n 1, 1) := by decide +kernel
theorem dX1_gather_1 : decode cX1_gather 1 = .ok (.ifCond .lt 31, 3) := by decide +kernel
theorem dX1_gather_4 : decode cX1_gather 4 = .ok (.iload_n 1, 1) := by decide +kernel
theorem dX1_gather_5 : decode cX1_gather 5 = .ok (.iload_n 3, 1) := by decide +kernel
theorem dX1_gather_6 : decode cX1_gather 6 = .ok (.if_icmp .ge 26, 3) := by decide +kernel
theorem dX1_gather_9 : decode cX1_gather 9 = .ok (.iload_n 2, 1) := by decide +kernel
theorem dX1_gather_10 : decode cX1_gather 10 = .ok (.ifCond .lt 22, 3) := by decide +kernel
theorem dX1_gather_13 : decode cX1_gather 13 = .ok (.iload_n 2, 1) := by decide +kernel
theorem dX1_gather_14 : decode cX1_gather 14 = .ok (.iload 4, 2) := by decide +kernel
theorem dX1_gather_16 : decode cX1_gather 16 = .ok (.if_icmp .ge 16, 3) := by decide +kernel
theorem dX1_gather_19 : decode cX1_gather 19 = .ok (.aload_n 0, 1) := by decide +kernel
theorem dX1_gather_20 : decode cX1_gather 20 = .ok (.getfield 9, 3) := by decide +kernel
theorem dX1_gather_23 : decode cX1_gather 23 = .ok (.iload_n 2, 1) := by decide +kernel
theorem dX1_gather_24 : decode cX1_gather 24 = .ok (.iaload, 1) := by decide +kernel
theorem dX1_gather_25 : decode cX1_gather 25 = .ok (.iload_n 1, 1) := by decide +kernel
theorem dX1_gather_26 : decode cX1_gather 26 = .ok (.ishr, 1) := by decide +kernel
theorem dX1_gather_27 : decode cX1_gather 27 = .ok (.iconst 1, 1) := by decide +kernel
theorem dX1_gather_28 : decode cX1_gather 28 = .ok (.iand, 1) := by decide +kernel
theorem dX1_gather_29 : decode cX1_gather 29 = .ok (.ifCond .ne 4, 3) := by decide +kernel
theorem dX1_gather_32 : decode cX1_gather 32 = .ok (.return_, 1) := by decide +kernel
theorem dX1_gather_33 : decode cX1_gather 33 = .ok (.aload_n 0, 1) := by decide +kernel
theorem dX1_gather_34 : decode cX1_gather 34 = .ok (.getfield 9, 3) := by decide +kernel
theorem dX1_gather_37 : decode cX1_gather 37 = .ok (.iload_n 2, 1) := by decide +kernel
theorem dX1_gather_38 : decode cX1_gather 38 = .ok (.dup2, 1) := by decide +kernel
theorem dX1_gather_39 : decode cX1_gather 39 = .ok (.iaload, 1) := by decide +kernel
theorem dX1_gather_40 : decode cX1_gather 40 = .ok (.iconst 1, 1) := by decide +kernel
theorem dX1_gather_41 : decode cX1_gather 41 = .ok (.iload_n 1, 1) := by decide +kernel
theorem dX1_gather_42 : decode cX1_gather 42 = .ok (.ishl, 1) := by decide +kernel
theorem dX1_gather_43 : decode cX1_gather 43 = .ok (.ixor, 1) := by decide +kernel
theorem dX1_gather_44 : decode cX1_gather 44 = .ok (.iastore, 1) := by decide +kernel
theorem dX1_gather_45 : decode cX1_gather 45 = .ok (.aload_n 0, 1) := by decide +kernel
theorem dX1_gather_46 : decode cX1_gather 46 = .ok (.getfield 22, 3) := by decide +kernel
theorem dX1_gather_49 : decode cX1_gather 49 = .ok (.sipush 160, 3) := by decide +kernel
theorem dX1_gather_52 : decode cX1_gather 52 = .ok (.if_icmp .ge 27, 3) := by decide +kernel
theorem dX1_gather_55 : decode cX1_gather 55 = .ok (.aload_n 0, 1) := by decide +kernel
theorem dX1_gather_56 : decode cX1_gather 56 = .ok (.getfield 15, 3) := by decide +kernel
theorem dX1_gather_59 : decode cX1_gather 59 = .ok (.aload_n 0, 1) := by decide +kernel
theorem dX1_gather_60 : decode cX1_gather 60 = .ok (.getfield 22, 3) := by decide +kernel
theorem dX1_gather_63 : decode cX1_gather 63 = .ok (.iload_n 2, 1) := by decide +kernel
theorem dX1_gather_64 : decode cX1_gather 64 = .ok (.iload_n 3, 1) := by decide +kernel
theorem dX1_gather_65 : decode cX1_gather 65 = .ok (.imul, 1) := by decide +kernel
theorem dX1_gather_66 : decode cX1_gather 66 = .ok (.iload_n 1, 1) := by decide +kernel
theorem dX1_gather_67 : decode cX1_gather 67 = .ok (.iadd, 1) := by decide +kernel
theorem dX1_gather_68 : decode cX1_gather 68 = .ok (.iastore, 1) := by decide +kernel
theorem dX1_gather_69 : decode cX1_gather 69 = .ok (.aload_n 0, 1) := by decide +kernel
theorem dX1_gather_70 : decode cX1_gather 70 = .ok (.dup, 1) := by decide +kernel
theorem dX1_gather_71 : decode cX1_gather 71 = .ok (.getfield 22, 3) := by decide +kernel
theorem dX1_gather_74 : decode cX1_gather 74 = .ok (.iconst 1, 1) := by decide +kernel
theorem dX1_gather_75 : decode cX1_gather 75 = .ok (.iadd, 1) := by decide +kernel
theorem dX1_gather_76 : decode cX1_gather 76 = .ok (.putfield 22, 3) := by decide +kernel
theorem dX1_gather_79 : decode cX1_gather 79 = .ok (.return_, 1) := by decide +kernel
theorem dX2_init_0 : decode cX2_init 0 = .ok (.aload_n 0, 1) := by decide +kernel
theorem dX2_init_1 : decode cX2_init 1 = .ok (.invokespecial 1, 3) := by decide +kernel
theorem dX2_init_4 : decode cX2_init 4 = .ok (.aload_n 0, 1) := by decide +kernel
theorem dX2_init_5 : decode cX2_init 5 = .ok (.sipush 256, 3) := by decide +kernel
theorem dX2_init_8 : decode cX2_init 8 = .ok (.newarray .byte, 2) := by decide +kernel
theorem dX2_init_10 : decode cX2_init 10 = .ok (.putfield 7, 3) := by decide +kernel
theorem dX2_init_13 : decode cX2_init 13 = .ok (.return_, 1) := by decide +kernel
theorem dX3_init_0 : decode cX3_init 0 = .ok (.aload_n 0, 1) := by decide +kernel
theorem dX3_init_1 : decode cX3_init 1 = .ok (.invokespecial 3, 3) := by decide +kernel
theorem dX3_init_4 : decode cX3_init 4 = .ok (.aload_n 0, 1) := by decide +kernel
theorem dX3_init_5 : decode cX3_init 5 = .ok (.iconst (-1), 1) := by decide +kernel
theorem dX3_init_6 : decode cX3_init 6 = .ok (.putfield 9, 3) := by decide +kernel
theorem dX3_init_9 : decode cX3_init 9 = .ok (.aload_n 0, 1) := by decide +kernel
theorem dX3_init_10 : decode cX3_init 10 = .ok (.aload_n 1, 1) := by decide +kernel
theorem dX3_init_11 : decode cX3_init 11 = .ok (.putfield 15, 3) := by decide +kernel
theorem dX3_init_14 : decode cX3_init 14 = .ok (.aload_n 0, 1) := by decide +kernel
theorem dX3_init_15 : decode cX3_init 15 = .ok (.iload_n 2, 1) := by decide +kernel
theorem dX3_init_16 : decode cX3_init 16 = .ok (.putfield 19, 3) := by decide +kernel
theorem dX3_init_19 : decode cX3_init 19 = .ok (.aload_n 0, 1) := by decide +kernel
theorem dX3_init_20 : decode cX3_init 20 = .ok (.aload_n 3, 1) := by decide +kernel
theorem dX3_init_21 : decode cX3_init 21 = .ok (.putfield 22, 3) := by decide +kernel
theorem dX3_init_24 : decode cX3_init 24 = .ok (.aload_n 0, 1) := by decide +kernel
theorem dX3_init_25 : decode cX3_init 25 = .ok (.aload 4, 2) := by decide +kernel
theorem dX3_init_27 : decode cX3_init 27 = .ok (.putfield 26, 3) := by decide +kernel
theorem dX3_init_30 : decode cX3_init 30 = .ok (.return_, 1) := by decide +kernel
theorem dX3_readText_0 : decode cX3_readText 0 = .ok (.aload_n 0, 1) := by decide +kernel
theorem dX3_readText_1 : decode cX3_readText 1 = .ok (.getfield 22, 3) := by decide +kernel
theorem dX3_readText_4 : decode cX3_readText 4 = .ok (.invokevirtual 30, 3) := by decide +kernel
theorem dX3_readText_7 : decode cX3_readText 7 = .ok (.aload_n 0, 1) := by decide +kernel
theorem dX3_readText_8 : decode cX3_readText 8 = .ok (.getfield 26, 3) := by decide +kernel
theorem dX3_readText_11 : decode cX3_readText 11 = .ok (.iconst 0, 1) := by decide +kernel
theorem dX3_readText_12 : decode cX3_readText 12 = .ok (.putfield 35, 3) := by decide +kernel
theorem dX3_readText_15 : decode cX3_readText 15 = .ok (.aload_n 0, 1) := by decide +kernel
theorem dX3_readText_16 : decode cX3_readText 16 = .ok (.getfield 26, 3) := by decide +kernel
theorem dX3_readText_19 : decode cX3_readText 19 = .ok (.iconst 0, 1) := by decide +kernel
theorem dX3_readText_20 : decode cX3_readText 20 = .ok (.putfield 40, 3) := by decide +kernel
theorem dX3_readText_23 : decode cX3_readText 23 = .ok (.aload_n 0, 1) := by decide +kernel
theorem dX3_readText_24 : decode cX3_readText 24 = .ok (.invokevirtual 43, 3) := by decide +kernel
theorem dX3_readText_27 : decode cX3_readText 27 = .ok (.aload_n 0, 1) := by decide +kernel
theorem dX3_readText_28 : decode cX3_readText 28 = .ok (.invokevirtual 46, 3) := by decide +kernel
theorem dX3_readText_31 : decode cX3_readText 31 = .ok (.iconst 0, 1) := by decide +kernel
theorem dX3_readText_32 : decode cX3_readText 32 = .ok (.istore_n 1, 1) := by decide +kernel
theorem dX3_readText_33 : decode cX3_readText 33 = .ok (.iload_n 1, 1) := by decide +kernel
theorem dX3_readText_34 : decode cX3_readText 34 = .ok (.sipush 900, 3) := by decide +kernel
theorem dX3_readText_37 : decode cX3_readText 37 = .ok (.if_icmp .ge 20, 3) := by decide +kernel
theorem dX3_readText_40 : decode cX3_readText 40 = .ok (.aload_n 0, 1) := by decide +kernel
theorem dX3_readText_41 : decode cX3_readText 41 = .ok (.invokevirtual 49, 3) := by decide +kernel
theorem dX3_readText_44 : decode cX3_readText 44 = .ok (.ifCond .eq 13, 3) := by decide +kernel
theorem dX3_readText_47 : decode cX3_readText 47 = .ok (.aload_n 0, 1) := by decide +kernel
theorem dX3_readText_48 : decode cX3_readText 48 = .ok (.invokevirtual 53, 3) := by decide +kernel
theorem dX3_readText_51 : decode cX3_readText 51 = .ok (.iinc 1 1, 3) := by decide +kernel
theorem dX3_readText_54 : decode cX3_readText 54 = .ok (.goto (-21), 3) := by decide +kernel
theorem dX3_readText_57 : decode cX3_readText 57 = .ok (.aload_n 0, 1) := by decide +kernel
theorem dX3_readText_58 : decode cX3_readText 58 = .ok (.getfield 56, 3) := by decide +kernel
theorem dX3_readText_61 : decode cX3_readText 61 = .ok (.ifCond .ne 15, 3) := by decide +kernel
theorem dX3_readText_64 : decode cX3_readText 64 = .ok (.aload_n 0, 1) := by decide +kernel
theorem dX3_readText_65 : decode cX3_readText 65 = .ok (.getfield 59, 3) := by decide +kernel
theorem dX3_readText_68 : decode cX3_readText 68 = .ok (.ifCond .eq 8, 3) := by decide +kernel
theorem dX3_readText_71 : decode cX3_readText 71 = .ok (.aload_n 0, 1) := by decide +kernel
theorem dX3_readText_72 : decode cX3_readText 72 = .ok (.iconst 1, 1) := by decide +kernel
theorem dX3_readText_73 : decode cX3_readText 73 = .ok (.invokevirtual 62, 3) := by decide +kernel
theorem dX3_readText_76 : decode cX3_readText 76 = .ok (.aload_n 0, 1) := by decide +kernel
theorem dX3_readText_77 : decode cX3_readText 77 = .ok (.getfield 56, 3) := by decide +kernel
theorem dX3_readText_80 : decode cX3_readText 80 = .ok (.ifCond .ne 18, 3) := by decide +kernel
theorem dX3_readText_83 : decode cX3_readText 83 = .ok (.aload_n 0, 1) := by decide +kernel
theorem dX3_readText_84 : decode cX3_readText 84 = .ok (.getfield 22, 3) := by decide +kernel
theorem dX3_readText_87 : decode cX3_readText 87 = .ok (.getfield 66, 3) := by decide +kernel
theorem dX3_readText_90 : decode cX3_readText 90 = .ok (.ifCond .ne 8, 3) := by decide +kernel
theorem dX3_readText_93 : decode cX3_readText 93 = .ok (.aload_n 0, 1) := by decide +kernel
theorem dX3_readText_94 : decode cX3_readText 94 = .ok (.iconst 5, 1) := by decide +kernel
theorem dX3_readText_95 : decode cX3_readText 95 = .ok (.invokevirtual 62, 3) := by decide +kernel
theorem dX3_readText_98 : decode cX3_readText 98 = .ok (.return_, 1) := by decide +kernel
theorem dX3_readHead_0 : decode cX3_readHead 0 = .ok (.aload_n 0, 1) := by decide +kernel
theorem dX3_readHead_1 : decode cX3_readHead 1 = .ok (.ldc 69, 2) := by decide +kernel
theorem dX3_readHead_3 : decode cX3_readHead 3 = .ok (.invokevirtual 70, 3) := by decide +kernel
theorem dX3_readHead_6 : decode cX3_readHead 6 = .ok (.aload_n 0, 1) := by decide +kernel
theorem dX3_readHead_7 : decode cX3_readHead 7 = .ok (.ldc 74, 2) := by decide +kernel
theorem dX3_readHead_9 : decode cX3_readHead 9 = .ok (.invokevirtual 70, 3) := by decide +kernel
theorem dX3_readHead_12 : decode cX3_readHead 12 = .ok (.aload_n 0, 1) := by decide +kernel
theorem dX3_readHead_13 : decode cX3_readHead 13 = .ok (.iconst 1, 1) := by decide +kernel
theorem dX3_readHead_14 : decode cX3_readHead 14 = .ok (.bipush 16, 2) := by decide +kernel
theorem dX3_readHead_16 : decode cX3_readHead 16 = .ok (.invokevirtual 76, 3) := by decide +kernel
theorem dX3_readHead_19 : decode cX3_readHead 19 = .ok (.istore_n 1, 1) := by decide +kernel
theorem dX3_readHead_20 : decode cX3_readHead 20 = .ok (.aload_n 0, 1) := by decide +kernel
theorem dX3_readHead_21 : decode cX3_readHead 21 = .ok (.ldc 80, 2) := by decide +kernel
theorem dX3_readHead_23 : decode cX3_readHead 23 = .ok (.invokevirtual 70, 3) := by decide +kernel
theorem dX3_readHead_26 : decode cX3_readHead 26 = .ok (.aload_n 0, 1) := by decide +kernel
theorem dX3_readHead_27 : decode cX3_readHead 27 = .ok (.iconst 1, 1) := by decide +kernel
theorem dX3_readHead_28 : decode cX3_readHead 28 = .ok (.bipush 10, 2) := by decide +kernel
theorem dX3_readHead_30 : decode cX3_readHead 30 = .ok (.invokevirtual 76, 3) := by decide +kernel
theorem dX3_readHead_33 : decode cX3_readHead 33 = .ok (.istore_n 2, 1) := by decide +kernel
theorem dX3_readHead_34 : decode cX3_readHead 34 = .ok (.aload_n 0, 1) := by decide +kernel
theorem dX3_readHead_35 : decode cX3_readHead 35 = .ok (.ldc 82, 2) := by decide +kernel
theorem dX3_readHead_37 : decode cX3_readHead 37 = .ok (.invokevirtual 70, 3) := by decide +kernel
theorem dX3_readHead_40 : decode cX3_readHead 40 = .ok (.aload_n 0, 1) := by decide +kernel
theorem dX3_readHead_41 : decode cX3_readHead 41 = .ok (.iconst 0, 1) := by decide +kernel
theorem dX3_readHead_42 : decode cX3_readHead 42 = .ok (.sipush 9999, 3) := by decide +kernel
theorem dX3_readHead_45 : decode cX3_readHead 45 = .ok (.invokevirtual 76, 3) := by decide +kernel
theorem dX3_readHead_48 : decode cX3_readHead 48 = .ok (.istore_n 3, 1) := by decide +kernel
theorem dX3_readHead_49 : decode cX3_readHead 49 = .ok (.aload_n 0, 1) := by decide +kernel
theorem dX3_readHead_50 : decode cX3_readHead 50 = .ok (.getfield 56, 3) := by decide +kernel
theorem dX3_readHead_53 : decode cX3_readHead 53 = .ok (.ifCond .ne 51, 3) := by decide +kernel
theorem dX3_readHead_56 : decode cX3_readHead 56 = .ok (.aload_n 0, 1) := by decide +kernel
theorem dX3_readHead_57 : decode cX3_readHead 57 = .ok (.getfield 22, 3) := by decide +kernel
theorem dX3_readHead_60 : decode cX3_readHead 60 = .ok (.iload_n 1, 1) := by decide +kernel
theorem dX3_readHead_61 : decode cX3_readHead 61 = .ok (.putfield 84, 3) := by decide +kernel
theorem dX3_readHead_64 : decode cX3_readHead 64 = .ok (.aload_n 0, 1) := by decide +kernel
theorem dX3_readHead_65 : decode cX3_readHead 65 = .ok (.getfield 22, 3) := by decide +kernel
theorem dX3_readHead_68 : decode cX3_readHead 68 = .ok (.iload_n 2, 1) := by decide +kernel
theorem dX3_readHead_69 : decode cX3_readHead 69 = .ok (.putfield 87, 3) := by decide +kernel
theorem dX3_readHead_72 : decode cX3_readHead 72 = .ok (.aload_n 0, 1) := by decide +kernel
theorem dX3_readHead_73 : decode cX3_readHead 73 = .ok (.getfield 22, 3) := by decide +kernel
theorem dX3_readHead_76 : decode cX3_readHead 76 = .ok (.iload_n 3, 1) := by decide +kernel
theorem dX3_readHead_77 : decode cX3_readHead 77 = .ok (.putfield 90, 3) := by decide +kernel
theorem dX3_readHead_80 : decode cX3_readHead 80 = .ok (.aload_n 0, 1) := by decide +kernel
theorem dX3_readHead_81 : decode cX3_readHead 81 = .ok (.ldc 92, 2) := by decide +kernel
theorem dX3_readHead_83 : decode cX3_readHead 83 = .ok (.invokevirtual 94, 3) := by decide +kernel
theorem dX3_readHead_86 : decode cX3_readHead 86 = .ok (.ifCond .eq 18, 3) := by decide +kernel
theorem dX3_readHead_89 : decode cX3_readHead 89 = .ok (.aload_n 0, 1) := by decide +kernel
theorem dX3_readHead_90 : decode cX3_readHead 90 = .ok (.getfield 22, 3) := by decide +kernel
theorem dX3_readHead_93 : decode cX3_readHead 93 = .ok (.aload_n 0, 1) := by decide +kernel
theorem dX3_readHead_94 : decode cX3_readHead 94 = .ok (.iconst 0, 1) := by decide +kernel
theorem dX3_readHead_95 : decode cX3_readHead 95 = .ok (.iload_n 1, 1) := by decide +kernel
theorem dX3_readHead_96 : decode cX3_readHead 96 = .ok (.iconst 1, 1) := by decide +kernel
theorem dX3_readHead_97 : decode cX3_readHead 97 = .ok (.isub, 1) := by decide +kernel
theorem dX3_readHead_98 : decode cX3_readHead 98 = .ok (.invokevirtual 76, 3) := by decide +kernel
theorem dX3_readHead_101 : decode cX3_readHead 101 = .ok (.putfield 98, 3) := by decide +kernel
theorem dX3_readHead_104 : decode cX3_readHead 104 = .ok (.return_, 1) := by decide +kernel
theorem dX3_readLine_0 : decode cX3_readLine 0 = .ok (.aload_n 0, 1) := by decide +kernel
theorem dX3_readLine_1 : decode cX3_readLine 1 = .ok (.ldc 101, 2) := by decide +kernel
theorem dX3_readLine_3 : decode cX3_readLine 3 = .ok (.invokevirtual 103, 3) := by decide +kernel
theorem dX3_readLine_6 : decode cX3_readLine 6 = .ok (.ifCond .eq 10, 3) := by decide +kernel
theorem dX3_readLine_9 : decode cX3_readLine 9 = .ok (.aload_n 0, 1) := by decide +kernel
theorem dX3_readLine_10 : decode cX3_readLine 10 = .ok (.invokevirtual 106, 3) := by decide +kernel
theorem dX3_readLine_13 : decode cX3_readLine 13 = .ok (.goto 136, 3) := by decide +kernel
theorem dX3_readLine_16 : decode cX3_readLine 16 = .ok (.aload_n 0, 1) := by decide +kernel
theorem dX3_readLine_17 : decode cX3_readLine 17 = .ok (.ldc 109, 2) := by decide +kernel
theorem dX3_readLine_19 : decode cX3_readLine 19 = .ok (.invokevirtual 103, 3) := by decide +kernel
theorem dX3_readLine_22 : decode cX3_readLine 22 = .ok (.ifCond .eq 10, 3) := by decide +kernel
theorem dX3_readLine_25 : decode cX3_readLine 25 = .ok (.aload_n 0, 1) := by decide +kernel
theorem dX3_readLine_26 : decode cX3_readLine 26 = .ok (.invokevirtual 111, 3) := by decide +kernel
theorem dX3_readLine_29 : decode cX3_readLine 29 = .ok (.goto 120, 3) := by decide +kernel
theorem dX3_readLine_32 : decode cX3_readLine 32 = .ok (.aload_n 0, 1) := by decide +kernel
theorem dX3_readLine_33 : decode cX3_readLine 33 = .ok (.ldc 114, 2) := by decide +kernel
theorem dX3_readLine_35 : decode cX3_readLine 35 = .ok (.invokevirtual 103, 3) := by decide +kernel
theorem dX3_readLine_38 : decode cX3_readLine 38 = .ok (.ifCond .eq 10, 3) := by decide +kernel
theorem dX3_readLine_41 : decode cX3_readLine 41 = .ok (.aload_n 0, 1) := by decide +kernel
theorem dX3_readLine_42 : decode cX3_readLine 42 = .ok (.invokevirtual 116, 3) := by decide +kernel
theorem dX3_readLine_45 : decode cX3_readLine 45 = .ok (.goto 104, 3) := by decide +kernel
theorem dX3_readLine_48 : decode cX3_readLine 48 = .ok (.aload_n 0, 1) := by decide +kernel
theorem dX3_readLine_49 : decode cX3_readLine 49 = .ok (.ldc 119, 2) := by decide +kernel
theorem dX3_readLine_51 : decode cX3_readLine 51 = .ok (.invokevirtual 103, 3) := by decide +kernel
theorem dX3_readLine_54 : decode cX3_readLine 54 = .ok (.ifCond .eq 10, 3) := by decide +kernel
theorem dX3_readLine_57 : decode cX3_readLine 57 = .ok (.aload_n 0, 1) := by decide +kernel
theorem dX3_readLine_58 : decode cX3_readLine 58 = .ok (.invokevirtual 121, 3) := by decide +kernel
theorem dX3_readLine_61 : decode cX3_readLine 61 = .ok (.goto 88, 3) := by decide +kernel
theorem dX3_readLine_64 : decode cX3_readLine 64 = .ok (.aload_n 0, 1) := by decide +kernel
theorem dX3_readLine_65 : decode cX3_readLine 65 = .ok (.ldc 124, 2) := by decide +kernel
theorem dX3_readLine_67 : decode cX3_readLine 67 = .ok (.invokevirtual 103, 3) := by decide +kernel
theorem dX3_readLine_70 : decode cX3_readLine 70 = .ok (.ifCond .eq 10, 3) := by decide +kernel
theorem dX3_readLine_73 : decode cX3_readLine 73 = .ok (.aload_n 0, 1) := by decide +kernel
theorem dX3_readLine_74 : decode cX3_readLine 74 = .ok (.invokevirtual 126, 3) := by decide +kernel
theorem dX3_readLine_77 : decode cX3_readLine 77 = .ok (.goto 72, 3) := by decide +kernel
theorem dX3_readLine_80 : decode cX3_readLine 80 = .ok (.aload_n 0, 1) := by decide +kernel
theorem dX3_readLine_81 : decode cX3_readLine 81 = .ok (.ldc 129, 2) := by decide +kernel
theorem dX3_readLine_83 : decode cX3_readLine 83 = .ok (.invokevirtual 103, 3) := by decide +kernel
theorem dX3_readLine_86 : decode cX3_readLine 86 = .ok (.ifCond .eq 10, 3) := by decide +kernel
theorem dX3_readLine_89 : decode cX3_readLine 89 = .ok (.aload_n 0, 1) := by decide +kernel
theorem dX3_readLine_90 : decode cX3_readLine 90 = .ok (.invokevirtual 131, 3) := by decide +kernel
theorem dX3_readLine_93 : decode cX3_readLine 93 = .ok (.goto 56, 3) := by decide +kernel
theorem dX3_readLine_96 : decode cX3_readLine 96 = .ok (.aload_n 0, 1) := by decide +kernel
theorem dX3_readLine_97 : decode cX3_readLine 97 = .ok (.ldc 134, 2) := by decide +kernel
theorem dX3_readLine_99 : decode cX3_readLine 99 = .ok (.invokevirtual 103, 3) := by decide +kernel
theorem dX3_readLine_102 : decode cX3_readLine 102 = .ok (.ifCond .eq 10, 3) := by decide +kernel
theorem dX3_readLine_105 : decode cX3_readLine 105 = .ok (.aload_n 0, 1) := by decide +kernel
theorem dX3_readLine_106 : decode cX3_readLine 106 = .ok (.invokevirtual 136, 3) := by decide +kernel
theorem dX3_readLine_109 : decode cX3_readLine 109 = .ok (.goto 40, 3) := by decide +kernel
theorem dX3_readLine_112 : decode cX3_readLine 112 = .ok (.aload_n 0, 1) := by decide +kernel
theorem dX3_readLine_113 : decode cX3_readLine 113 = .ok (.ldc 139, 2) := by decide +kernel
theorem dX3_readLine_115 : decode cX3_readLine 115 = .ok (.invokevirtual 103, 3) := by decide +kernel
theorem dX3_readLine_118 : decode cX3_readLine 118 = .ok (.ifCond .eq 10, 3) := by decide +kernel
theorem dX3_readLine_121 : decode cX3_readLine 121 = .ok (.aload_n 0, 1) := by decide +kernel
theorem dX3_readLine_122 : decode cX3_readLine 122 = .ok (.invokevirtual 141, 3) := by decide +kernel
theorem dX3_readLine_125 : decode cX3_readLine 125 = .ok (.goto 24, 3) := by decide +kernel
theorem dX3_readLine_128 : decode cX3_readLine 128 = .ok (.aload_n 0, 1) := by decide +kernel
theorem dX3_readLine_129 : decode cX3_readLine 129 = .ok (.ldc 144, 2) := by decide +kernel
theorem dX3_readLine_131 : decode cX3_readLine 131 = .ok (.invokevirtual 103, 3) := by decide +kernel
theorem dX3_readLine_134 : decode cX3_readLine 134 = .ok (.ifCond .eq 10, 3) := by decide +kernel
theorem dX3_readLine_137 : decode cX3_readLine 137 = .ok (.aload_n 0, 1) := by decide +kernel
theorem dX3_readLine_138 : decode cX3_readLine 138 = .ok (.invokevirtual 146, 3) := by decide +kernel
theorem dX3_readLine_141 : decode cX3_readLine 141 = .ok (.goto 8, 3) := by decide +kernel
theorem dX3_readLine_144 : decode cX3_readLine 144 = .ok (.aload_n 0, 1) := by decide +kernel
theorem dX3_readLine_145 : decode cX3_readLine 145 = .ok (.iconst 1, 1) := by decide +kernel
theorem dX3_readLine_146 : decode cX3_readLine 146 = .ok (.invokevirtual 62, 3) := by decide +kernel
theorem dX3_readLine_149 : decode cX3_readLine 149 = .ok (.return_, 1) := by decide +kernel
theorem dX3_readTrain_0 : decode cX3_readTrain 0 = .ok (.aload_n 0, 1) := by decide +kernel
theorem dX3_readTrain_1 : decode cX3_readTrain 1 = .ok (.aload_n 0, 1) := by decide +kernel
theorem dX3_readTrain_2 : decode cX3_readTrain 2 = .ok (.getfield 22, 3) := by decide +kernel
theorem dX3_readTrain_5 : decode cX3_readTrain 5 = .ok (.getfield 66, 3) := by decide +kernel
theorem dX3_readTrain_8 : decode cX3_readTrain 8 = .ok (.iconst 4, 1) := by decide +kernel
theorem dX3_readTrain_9 : decode cX3_readTrain 9 = .ok (.invokevirtual 149, 3) := by decide +kernel
theorem dX3_readTrain_12 : decode cX3_readTrain 12 = .ok (.ifCond .ne 4, 3) := by decide +kernel
theorem dX3_readTrain_15 : decode cX3_readTrain 15 = .ok (.return_, 1) := by decide +kernel
theorem dX3_readTrain_16 : decode cX3_readTrain 16 = .ok (.aload_n 0, 1) := by decide +kernel
theorem dX3_readTrain_17 : decode cX3_readTrain 17 = .ok (.getfield 22, 3) := by decide +kernel
theorem dX3_readTrain_20 : decode cX3_readTrain 20 = .ok (.getfield 66, 3) := by decide +kernel
theorem dX3_readTrain_23 : decode cX3_readTrain 23 = .ok (.istore_n 1, 1) := by decide +kernel
theorem dX3_readTrain_24 : decode cX3_readTrain 24 = .ok (.aload_n 0, 1) := by decide +kernel
theorem dX3_readTrain_25 : decode cX3_readTrain 25 = .ok (.getfield 22, 3) := by decide +kernel
theorem dX3_readTrain_28 : decode cX3_readTrain 28 = .ok (.getfield 153, 3) := by decide +kernel
theorem dX3_readTrain_31 : decode cX3_readTrain 31 = .ok (.iload_n 1, 1) := by decide +kernel
theorem dX3_readTrain_32 : decode cX3_readTrain 32 = .ok (.aaload, 1) := by decide +kernel
theorem dX3_readTrain_33 : decode cX3_readTrain 33 = .ok (.astore_n 2, 1) := by decide +kernel
theorem dX3_readTrain_34 : decode cX3_readTrain 34 = .ok (.aload_n 0, 1) := by decide +kernel
theorem dX3_readTrain_35 : decode cX3_readTrain 35 = .ok (.getfield 26, 3) := by decide +kernel
theorem dX3_readTrain_38 : decode cX3_readTrain 38 = .ok (.getfield 157, 3) := by decide +kernel
theorem dX3_readTrain_41 : decode cX3_readTrain 41 = .ok (.iload_n 1, 1) := by decide +kernel
theorem dX3_readTrain_42 : decode cX3_readTrain 42 = .ok (.aload_n 0, 1) := by decide +kernel
theorem dX3_readTrain_43 : decode cX3_readTrain 43 = .ok (.iconst 0, 1) := by decide +kernel
theorem dX3_readTrain_44 : decode cX3_readTrain 44 = .ok (.invokevirtual 160, 3) := by decide +kernel
theorem dX3_readTrain_47 : decode cX3_readTrain 47 = .ok (.iastore, 1) := by decide +kernel
theorem dX3_readTrain_48 : decode cX3_readTrain 48 = .ok (.aload_n 0, 1) := by decide +kernel
theorem dX3_readTrain_49 : decode cX3_readTrain 49 = .ok (.getfield 26, 3) := by decide +kernel
theorem dX3_readTrain_52 : decode cX3_readTrain 52 = .ok (.getfield 164, 3) := by decide +kernel
theorem dX3_readTrain_55 : decode cX3_readTrain 55 = .ok (.iload_n 1, 1) := by decide +kernel
theorem dX3_readTrain_56 : decode cX3_readTrain 56 = .ok (.aload_n 0, 1) := by decide +kernel
theorem dX3_readTrain_57 : decode cX3_readTrain 57 = .ok (.iconst 0, 1) := by decide +kernel
theorem dX3_readTrain_58 : decode cX3_readTrain 58 = .ok (.invokevirtual 166, 3) := by decide +kernel
theorem dX3_readTrain_61 : decode cX3_readTrain 61 = .ok (.iastore, 1) := by decide +kernel
theorem dX3_readTrain_62 : decode cX3_readTrain 62 = .ok (.aload_n 0, 1) := by decide +kernel
theorem dX3_readTrain_63 : decode cX3_readTrain 63 = .ok (.getfield 26, 3) := by decide +kernel
theorem dX3_readTrain_66 : decode cX3_readTrain 66 = .ok (.getfield 169, 3) := by decide +kernel
theorem dX3_readTrain_69 : decode cX3_readTrain 69 = .ok (.iload_n 1, 1) := by decide +kernel
theorem dX3_readTrain_70 : decode cX3_readTrain 70 = .ok (.aload_n 0, 1) := by decide +kernel
theorem dX3_readTrain_71 : decode cX3_readTrain 71 = .ok (.iconst 1, 1) := by decide +kernel
theorem dX3_readTrain_72 : decode cX3_readTrain 72 = .ok (.sipush 999, 3) := by decide +kernel
theorem dX3_readTrain_75 : decode cX3_readTrain 75 = .ok (.invokevirtual 76, 3) := by decide +kernel
theorem dX3_readTrain_78 : decode cX3_readTrain 78 = .ok (.iastore, 1) := by decide +kernel
theorem dX3_readTrain_79 : decode cX3_readTrain 79 = .ok (.aload_n 0, 1) := by decide +kernel
theorem dX3_readTrain_80 : decode cX3_readTrain 80 = .ok (.bipush 50, 2) := by decide +kernel
theorem dX3_readTrain_82 : decode cX3_readTrain 82 = .ok (.sipush 9999, 3) := by decide +kernel
theorem dX3_readTrain_85 : decode cX3_readTrain 85 = .ok (.invokevirtual 76, 3) := by decide +kernel
theorem dX3_readTrain_88 : decode cX3_readTrain 88 = .ok (.istore_n 3, 1) := by decide +kernel
theorem dX3_readTrain_89 : decode cX3_readTrain 89 = .ok (.aload_n 0, 1) := by decide +kernel
theorem dX3_readTrain_90 : decode cX3_readTrain 90 = .ok (.iconst 2, 1) := by decide +kernel
theorem dX3_readTrain_91 : decode cX3_readTrain 91 = .ok (.bipush 99, 2) := by decide +kernel
theorem dX3_readTrain_93 : decode cX3_readTrain 93 = .ok (.invokevirtual 76, 3) := by decide +kernel
theorem dX3_readTrain_96 : decode cX3_readTrain 96 = .ok (.istore 4, 2) := by decide +kernel
theorem dX3_readTrain_98 : decode cX3_readTrain 98 = .ok (.aload_n 0, 1) := by decide +kernel
theorem dX3_readTrain_99 : decode cX3_readTrain 99 = .ok (.getfield 26, 3) := by decide +kernel
theorem dX3_readTrain_102 : decode cX3_readTrain 102 = .ok (.getfield 172, 3) := by decide +kernel
theorem dX3_readTrain_105 : decode cX3_readTrain 105 = .ok (.iload_n 1, 1) := by decide +kernel
theorem dX3_readTrain_106 : decode cX3_readTrain 106 = .ok (.aload_n 0, 1) := by decide +kernel
theorem dX3_readTrain_107 : decode cX3_readTrain 107 = .ok (.iconst 0, 1) := by decide +kernel
theorem dX3_readTrain_108 : decode cX3_readTrain 108 = .ok (.sipush 359, 3) := by decide +kernel
theorem dX3_readTrain_111 : decode cX3_readTrain 111 = .ok (.invokevirtual 76, 3) := by decide +kernel
theorem dX3_readTrain_114 : decode cX3_readTrain 114 = .ok (.iastore, 1) := by decide +kernel
theorem dX3_readTrain_115 : decode cX3_readTrain 115 = .ok (.aload_n 2, 1) := by decide +kernel
theorem dX3_readTrain_116 : decode cX3_readTrain 116 = .ok (.aload_n 0, 1) := by decide +kernel
theorem dX3_readTrain_117 : decode cX3_readTrain 117 = .ok (.iconst 0, 1) := by decide +kernel
theorem dX3_readTrain_118 : decode cX3_readTrain 118 = .ok (.sipush 9999, 3) := by decide +kernel
theorem dX3_readTrain_121 : decode cX3_readTrain 121 = .ok (.invokevirtual 76, 3) := by decide +kernel
theorem dX3_readTrain_124 : decode cX3_readTrain 124 = .ok (.putfield 175, 3) := by decide +kernel
theorem dX3_readTrain_127 : decode cX3_readTrain 127 = .ok (.aload_n 2, 1) := by decide +kernel
theorem dX3_readTrain_128 : decode cX3_readTrain 128 = .ok (.aload_n 0, 1) := by decide +kernel
theorem dX3_readTrain_129 : decode cX3_readTrain 129 = .ok (.aload_n 2, 1) := by decide +kernel
theorem dX3_readTrain_130 : decode cX3_readTrain 130 = .ok (.getfield 175, 3) := by decide +kernel
theorem dX3_readTrain_133 : decode cX3_readTrain 133 = .ok (.sipush 9999, 3) := by decide +kernel
theorem dX3_readTrain_136 : decode cX3_readTrain 136 = .ok (.invokevirtual 76, 3) := by decide +kernel
theorem dX3_readTrain_139 : decode cX3_readTrain 139 = .ok (.putfield 180, 3) := by decide +kernel
theorem dX3_readTrain_142 : decode cX3_readTrain 142 = .ok (.aload_n 2, 1) := by decide +kernel
theorem dX3_readTrain_143 : decode cX3_readTrain 143 = .ok (.iconst 0, 1) := by decide +kernel
theorem dX3_readTrain_144 : decode cX3_readTrain 144 = .ok (.putfield 183, 3) := by decide +kernel
theorem dX3_readTrain_147 : decode cX3_readTrain 147 = .ok (.aload_n 2, 1) := by decide +kernel
theorem dX3_readTrain_148 : decode cX3_readTrain 148 = .ok (.iconst 0, 1) := by decide +kernel
theorem dX3_readTrain_149 : decode cX3_readTrain 149 = .ok (.putfield 186, 3) := by decide +kernel
theorem dX3_readTrain_152 : decode cX3_readTrain 152 = .ok (.aload_n 2, 1) := by decide +kernel
theorem dX3_readTrain_153 : decode cX3_readTrain 153 = .ok (.iconst 0, 1) := by decide +kernel
theorem dX3_readTrain_154 : decode cX3_readTrain 154 = .ok (.putfield 189, 3) := by decide +kernel
theorem dX3_readTrain_157 : decode cX3_readTrain 157 = .ok (.aload_n 0, 1) := by decide +kernel
theorem dX3_readTrain_158 : decode cX3_readTrain 158 = .ok (.ldc 192, 2) := by decide +kernel
theorem dX3_readTrain_160 : decode cX3_readTrain 160 = .ok (.invokevirtual 94, 3) := by decide +kernel
theorem dX3_readTrain_163 : decode cX3_readTrain 163 = .ok (.ifCond .eq 28, 3) := by decide +kernel
theorem dX3_readTrain_166 : decode cX3_readTrain 166 = .ok (.aload_n 2, 1) := by decide +kernel
theorem dX3_readTrain_167 : decode cX3_readTrain 167 = .ok (.aload_n 0, 1) := by decide +kernel
theorem dX3_readTrain_168 : decode cX3_readTrain 168 = .ok (.iconst 1, 1) := by decide +kernel
theorem dX3_readTrain_169 : decode cX3_readTrain 169 = .ok (.bipush 99, 2) := by decide +kernel
theorem dX3_readTrain_171 : decode cX3_readTrain 171 = .ok (.invokevirtual 76, 3) := by decide +kernel
theorem dX3_readTrain_174 : decode cX3_readTrain 174 = .ok (.putfield 183, 3) := by decide +kernel
theorem dX3_readTrain_177 : decode cX3_readTrain 177 = .ok (.aload_n 2, 1) := by decide +kernel
theorem dX3_readTrain_178 : decode cX3_readTrain 178 = .ok (.aload_n 0, 1) := by decide +kernel
theorem dX3_readTrain_179 : decode cX3_readTrain 179 = .ok (.iconst 1, 1) := by decide +kernel
theorem dX3_readTrain_180 : decode cX3_readTrain 180 = .ok (.bipush 99, 2) := by decide +kernel
theorem dX3_readTrain_182 : decode cX3_readTrain 182 = .ok (.invokevirtual 76, 3) := by decide +kernel
theorem dX3_readTrain_185 : decode cX3_readTrain 185 = .ok (.putfield 186, 3) := by decide +kernel
theorem dX3_readTrain_188 : decode cX3_readTrain 188 = .ok (.goto 23, 3) := by decide +kernel
theorem dX3_readTrain_191 : decode cX3_readTrain 191 = .ok (.aload_n 0, 1) := by decide +kernel
theorem dX3_readTrain_192 : decode cX3_readTrain 192 = .ok (.ldc 194, 2) := by decide +kernel
theorem dX3_readTrain_194 : decode cX3_readTrain 194 = .ok (.invokevirtual 94, 3) := by decide +kernel
theorem dX3_readTrain_197 : decode cX3_readTrain 197 = .ok (.ifCond .eq 14, 3) := by decide +kernel
theorem dX3_readTrain_200 : decode cX3_readTrain 200 = .ok (.aload_n 2, 1) := by decide +kernel
theorem dX3_readTrain_201 : decode cX3_readTrain 201 = .ok (.aload_n 0, 1) := by decide +kernel
theorem dX3_readTrain_202 : decode cX3_readTrain 202 = .ok (.iconst 1, 1) := by decide +kernel
theorem dX3_readTrain_203 : decode cX3_readTrain 203 = .ok (.bipush 99, 2) := by decide +kernel
theorem dX3_readTrain_205 : decode cX3_readTrain 205 = .ok (.invokevirtual 76, 3) := by decide +kernel
theorem dX3_readTrain_208 : decode cX3_readTrain 208 = .ok (.putfield 189, 3) := by decide +kernel
theorem dX3_readTrain_211 : decode cX3_readTrain 211 = .ok (.aload_n 0, 1) := by decide +kernel
theorem dX3_readTrain_212 : decode cX3_readTrain 212 = .ok (.getfield 56, 3) := by decide +kernel
theorem dX3_readTrain_215 : decode cX3_readTrain 215 = .ok (.ifCond .eq 4, 3) := by decide +kernel
theorem dX3_readTrain_218 : decode cX3_readTrain 218 = .ok (.return_, 1) := by decide +kernel
theorem dX3_readTrain_219 : decode cX3_readTrain 219 = .ok (.aload_n 2, 1) := by decide +kernel
theorem dX3_readTrain_220 : decode cX3_readTrain 220 = .ok (.iload_n 3, 1) := by decide +kernel
theorem dX3_readTrain_221 : decode cX3_readTrain 221 = .ok (.putfield 196, 3) := by decide +kernel
theorem dX3_readTrain_224 : decode cX3_readTrain 224 = .ok (.aload_n 2, 1) := by decide +kernel
theorem dX3_readTrain_225 : decode cX3_readTrain 225 = .ok (.iload 4, 2) := by decide +kernel
theorem dX3_readTrain_227 : decode cX3_readTrain 227 = .ok (.putfield 199, 3) := by decide +kernel
theorem dX3_readTrain_230 : decode cX3_readTrain 230 = .ok (.aload_n 2, 1) := by decide +kernel
theorem dX3_readTrain_231 : decode cX3_readTrain 231 = .ok (.iconst 0, 1) := by decide +kernel
theorem dX3_readTrain_232 : decode cX3_readTrain 232 = .ok (.putfield 202, 3) := by decide +kernel
theorem dX3_readTrain_235 : decode cX3_readTrain 235 = .ok (.aload_n 2, 1) := by decide +kernel
theorem dX3_readTrain_236 : decode cX3_readTrain 236 = .ok (.iconst 0, 1) := by decide +kernel
theorem dX3_readTrain_237 : decode cX3_readTrain 237 = .ok (.putfield 204, 3) := by decide +kernel
theorem dX3_readTrain_240 : decode cX3_readTrain 240 = .ok (.aload_n 0, 1) := by decide +kernel
theorem dX3_readTrain_241 : decode cX3_readTrain 241 = .ok (.getfield 26, 3) := by decide +kernel
theorem dX3_readTrain_244 : decode cX3_readTrain 244 = .ok (.getfield 207, 3) := by decide +kernel
theorem dX3_readTrain_247 : decode cX3_readTrain 247 = .ok (.iload_n 1, 1) := by decide +kernel
theorem dX3_readTrain_248 : decode cX3_readTrain 248 = .ok (.iconst 0, 1) := by decide +kernel
theorem dX3_readTrain_249 : decode cX3_readTrain 249 = .ok (.iastore, 1) := by decide +kernel
theorem dX3_readTrain_250 : decode cX3_readTrain 250 = .ok (.aload_n 0, 1) := by decide +kernel
theorem dX3_readTrain_251 : decode cX3_readTrain 251 = .ok (.getfield 26, 3) := by decide +kernel
theorem dX3_readTrain_254 : decode cX3_readTrain 254 = .ok (.getfield 210, 3) := by decide +kernel
theorem dX3_readTrain_257 : decode cX3_readTrain 257 = .ok (.iload_n 1, 1) := by decide +kernel
theorem dX3_readTrain_258 : decode cX3_readTrain 258 = .ok (.iconst 0, 1) := by decide +kernel
theorem dX3_readTrain_259 : decode cX3_readTrain 259 = .ok (.iastore, 1) := by decide +kernel
theorem dX3_readTrain_260 : decode cX3_readTrain 260 = .ok (.aload_n 0, 1) := by decide +kernel
theorem dX3_readTrain_261 : decode cX3_readTrain 261 = .ok (.getfield 26, 3) := by decide +kernel
theorem dX3_readTrain_264 : decode cX3_readTrain 264 = .ok (.getfield 213, 3) := by decide +kernel
theorem dX3_readTrain_267 : decode cX3_readTrain 267 = .ok (.iload_n 1, 1) := by decide +kernel
theorem dX3_readTrain_268 : decode cX3_readTrain 268 = .ok (.iconst 1, 1) := by decide +kernel
theorem dX3_readTrain_269 : decode cX3_readTrain 269 = .ok (.bastore, 1) := by decide +kernel
theorem dX3_readTrain_270 : decode cX3_readTrain 270 = .ok (.aload_n 0, 1) := by decide +kernel
theorem dX3_readTrain_271 : decode cX3_readTrain 271 = .ok (.getfield 22, 3) := by decide +kernel
theorem dX3_readTrain_274 : decode cX3_readTrain 274 = .ok (.dup, 1) := by decide +kernel
theorem dX3_readTrain_275 : decode cX3_readTrain 275 = .ok (.getfield 66, 3) := by decide +kernel
theorem dX3_readTrain_278 : decode cX3_readTrain 278 = .ok (.iconst 1, 1) := by decide +kernel
theorem dX3_readTrain_279 : decode cX3_readTrain 279 = .ok (.iadd, 1) := by decide +kernel
theorem dX3_readTrain_280 : decode cX3_readTrain 280 = .ok (.putfield 66, 3) := by decide +kernel
theorem dX3_readTrain_283 : decode cX3_readTrain 283 = .ok (.return_, 1) := by decide +kernel
theorem dX3_readDrift_0 : decode cX3_readDrift 0 = .ok (.aload_n 0, 1) := by decide +kernel
theorem dX3_readDrift_1 : decode cX3_readDrift 1 = .ok (.invokevirtual 43, 3) := by decide +kernel
theorem dX3_readDrift_4 : decode cX3_readDrift 4 = .ok (.aload_n 0, 1) := by decide +kernel
theorem dX3_readDrift_5 : decode cX3_readDrift 5 = .ok (.aload_n 0, 1) := by decide +kernel
theorem dX3_readDrift_6 : decode cX3_readDrift 6 = .ok (.getfield 217, 3) := by decide +kernel
theorem dX3_readDrift_9 : decode cX3_readDrift 9 = .ok (.invokevirtual 220, 3) := by decide +kernel
theorem dX3_readDrift_12 : decode cX3_readDrift 12 = .ok (.istore_n 1, 1) := by decide +kernel
theorem dX3_readDrift_13 : decode cX3_readDrift 13 = .ok (.aload_n 0, 1) := by decide +kernel
theorem dX3_readDrift_14 : decode cX3_readDrift 14 = .ok (.invokevirtual 223, 3) := by decide +kernel
theorem dX3_readDrift_17 : decode cX3_readDrift 17 = .ok (.istore_n 2, 1) := by decide +kernel
theorem dX3_readDrift_18 : decode cX3_readDrift 18 = .ok (.aload_n 0, 1) := by decide +kernel
theorem dX3_readDrift_19 : decode cX3_readDrift 19 = .ok (.invokevirtual 223, 3) := by decide +kernel
theorem dX3_readDrift_22 : decode cX3_readDrift 22 = .ok (.istore_n 3, 1) := by decide +kernel
theorem dX3_readDrift_23 : decode cX3_readDrift 23 = .ok (.aload_n 0, 1) := by decide +kernel
theorem dX3_readDrift_24 : decode cX3_readDrift 24 = .ok (.getfield 56, 3) := by decide +kernel
theorem dX3_readDrift_27 : decode cX3_readDrift 27 = .ok (.ifCond .ne 35, 3) := by decide +kernel
theorem dX3_readDrift_30 : decode cX3_readDrift 30 = .ok (.aload_n 0, 1) := by decide +kernel
theorem dX3_readDrift_31 : decode cX3_readDrift 31 = .ok (.dup, 1) := by decide +kernel
theorem dX3_readDrift_32 : decode cX3_readDrift 32 = .ok (.getfield 217, 3) := by decide +kernel
theorem dX3_readDrift_35 : decode cX3_readDrift 35 = .ok (.iconst 1, 1) := by decide +kernel
theorem dX3_readDrift_36 : decode cX3_readDrift 36 = .ok (.iload_n 1, 1) := by decide +kernel
theorem dX3_readDrift_37 : decode cX3_readDrift 37 = .ok (.ishl, 1) := by decide +kernel
theorem dX3_readDrift_38 : decode cX3_readDrift 38 = .ok (.ior, 1) := by decide +kernel
theorem dX3_readDrift_39 : decode cX3_readDrift 39 = .ok (.putfield 217, 3) := by decide +kernel
theorem dX3_readDrift_42 : decode cX3_readDrift 42 = .ok (.aload_n 0, 1) := by decide +kernel
theorem dX3_readDrift_43 : decode cX3_readDrift 43 = .ok (.getfield 26, 3) := by decide +kernel
theorem dX3_readDrift_46 : decode cX3_readDrift 46 = .ok (.getfield 207, 3) := by decide +kernel
theorem dX3_readDrift_49 : decode cX3_readDrift 49 = .ok (.iload_n 1, 1) := by decide +kernel
theorem dX3_readDrift_50 : decode cX3_readDrift 50 = .ok (.iload_n 2, 1) := by decide +kernel
theorem dX3_readDrift_51 : decode cX3_readDrift 51 = .ok (.iastore, 1) := by decide +kernel
theorem dX3_readDrift_52 : decode cX3_readDrift 52 = .ok (.aload_n 0, 1) := by decide +kernel
theorem dX3_readDrift_53 : decode cX3_readDrift 53 = .ok (.getfield 26, 3) := by decide +kernel
theorem dX3_readDrift_56 : decode cX3_readDrift 56 = .ok (.getfield 210, 3) := by decide +kernel
theorem dX3_readDrift_59 : decode cX3_readDrift 59 = .ok (.iload_n 1, 1) := by decide +kernel
theorem dX3_readDrift_60 : decode cX3_readDrift 60 = .ok (.iload_n 3, 1) := by decide +kernel
theorem dX3_readDrift_61 : decode cX3_readDrift 61 = .ok (.iastore, 1) := by decide +kernel
theorem dX3_readDrift_62 : decode cX3_readDrift 62 = .ok (.return_, 1) := by decide +kernel
theorem dX3_readSlit_0 : decode cX3_readSlit 0 = .ok (.aload_n 0, 1) := by decide +kernel
theorem dX3_readSlit_1 : decode cX3_readSlit 1 = .ok (.invokevirtual 43, 3) := by decide +kernel
theorem dX3_readSlit_4 : decode cX3_readSlit 4 = .ok (.aload_n 0, 1) := by decide +kernel
theorem dX3_readSlit_5 : decode cX3_readSlit 5 = .ok (.getfield 22, 3) := by decide +kernel
theorem dX3_readSlit_8 : decode cX3_readSlit 8 = .ok (.getfield 98, 3) := by decide +kernel
theorem dX3_readSlit_11 : decode cX3_readSlit 11 = .ok (.iconst (-1), 1) := by decide +kernel
theorem dX3_readSlit_12 : decode cX3_readSlit 12 = .ok (.if_icmp .ne 7, 3) := by decide +kernel
theorem dX3_readSlit_15 : decode cX3_readSlit 15 = .ok (.iconst (-1), 1) := by decide +kernel
theorem dX3_readSlit_16 : decode cX3_readSlit 16 = .ok (.goto 12, 3) := by decide +kernel
theorem dX3_readSlit_19 : decode cX3_readSlit 19 = .ok (.aload_n 0, 1) := by decide +kernel
theorem dX3_readSlit_20 : decode cX3_readSlit 20 = .ok (.getfield 22, 3) := by decide +kernel
theorem dX3_readSlit_23 : decode cX3_readSlit 23 = .ok (.getfield 87, 3) := by decide +kernel
theorem dX3_readSlit_26 : decode cX3_readSlit 26 = .ok (.iconst 1, 1) := by decide +kernel
theorem dX3_readSlit_27 : decode cX3_readSlit 27 = .ok (.isub, 1) := by decide +kernel
theorem dX3_readSlit_28 : decode cX3_readSlit 28 = .ok (.istore_n 1, 1) := by decide +kernel
theorem dX3_readSlit_29 : decode cX3_readSlit 29 = .ok (.aload_n 0, 1) := by decide +kernel
theorem dX3_readSlit_30 : decode cX3_readSlit 30 = .ok (.iconst 0, 1) := by decide +kernel
theorem dX3_readSlit_31 : decode cX3_readSlit 31 = .ok (.iload_n 1, 1) := by decide +kernel
theorem dX3_readSlit_32 : decode cX3_readSlit 32 = .ok (.invokevirtual 76, 3) := by decide +kernel
theorem dX3_readSlit_35 : decode cX3_readSlit 35 = .ok (.istore_n 2, 1) := by decide +kernel
theorem dX3_readSlit_36 : decode cX3_readSlit 36 = .ok (.aload_n 0, 1) := by decide +kernel
theorem dX3_readSlit_37 : decode cX3_readSlit 37 = .ok (.iload_n 2, 1) := by decide +kernel
theorem dX3_readSlit_38 : decode cX3_readSlit 38 = .ok (.iload_n 1, 1) := by decide +kernel
theorem dX3_readSlit_39 : decode cX3_readSlit 39 = .ok (.invokevirtual 76, 3) := by decide +kernel
theorem dX3_readSlit_42 : decode cX3_readSlit 42 = .ok (.istore_n 3, 1) := by decide +kernel
theorem dX3_readSlit_43 : decode cX3_readSlit 43 = .ok (.aload_n 0, 1) := by decide +kernel
theorem dX3_readSlit_44 : decode cX3_readSlit 44 = .ok (.getfield 56, 3) := by decide +kernel
theorem dX3_readSlit_47 : decode cX3_readSlit 47 = .ok (.ifCond .ne 34, 3) := by decide +kernel
theorem dX3_readSlit_50 : decode cX3_readSlit 50 = .ok (.iload_n 2, 1) := by decide +kernel
theorem dX3_readSlit_51 : decode cX3_readSlit 51 = .ok (.istore 4, 2) := by decide +kernel
theorem dX3_readSlit_53 : decode cX3_readSlit 53 = .ok (.iload 4, 2) := by decide +kernel
theorem dX3_readSlit_55 : decode cX3_readSlit 55 = .ok (.iload_n 3, 1) := by decide +kernel
theorem dX3_readSlit_56 : decode cX3_readSlit 56 = .ok (.if_icmp .gt 25, 3) := by decide +kernel
theorem dX3_readSlit_59 : decode cX3_readSlit 59 = .ok (.aload_n 0, 1) := by decide +kernel
theorem dX3_readSlit_60 : decode cX3_readSlit 60 = .ok (.getfield 26, 3) := by decide +kernel
theorem dX3_readSlit_63 : decode cX3_readSlit 63 = .ok (.dup, 1) := by decide +kernel
theorem dX3_readSlit_64 : decode cX3_readSlit 64 = .ok (.getfield 40, 3) := by decide +kernel
theorem dX3_readSlit_67 : decode cX3_readSlit 67 = .ok (.iconst 1, 1) := by decide +kernel
theorem dX3_readSlit_68 : decode cX3_readSlit 68 = .ok (.iload 4, 2) := by decide +kernel
theorem dX3_readSlit_70 : decode cX3_readSlit 70 = .ok (.ishl, 1) := by decide +kernel
theorem dX3_readSlit_71 : decode cX3_readSlit 71 = .ok (.ior, 1) := by decide +kernel
theorem dX3_readSlit_72 : decode cX3_readSlit 72 = .ok (.putfield 40, 3) := by decide +kernel
theorem dX3_readSlit_75 : decode cX3_readSlit 75 = .ok (.iinc 4 1, 3) := by decide +kernel
theorem dX3_readSlit_78 : decode cX3_readSlit 78 = .ok (.goto (-25), 3) := by decide +kernel
theorem dX3_readSlit_81 : decode cX3_readSlit 81 = .ok (.return_, 1) := by decide +kernel
theorem dX3_readOff_0 : decode cX3_readOff 0 = .ok (.aload_n 0, 1) := by decide +kernel
theorem dX3_readOff_1 : decode cX3_readOff 1 = .ok (.invokevirtual 43, 3) := by decide +kernel
theorem dX3_readOff_4 : decode cX3_readOff 4 = .ok (.aload_n 0, 1) := by decide +kernel
theorem dX3_readOff_5 : decode cX3_readOff 5 = .ok (.aload_n 0, 1) := by decide +kernel
theorem dX3_readOff_6 : decode cX3_readOff 6 = .ok (.getfield 227, 3) := by decide +kernel
theorem dX3_readOff_9 : decode cX3_readOff 9 = .ok (.invokevirtual 220, 3) := by decide +kernel
theorem dX3_readOff_12 : decode cX3_readOff 12 = .ok (.istore_n 1, 1) := by decide +kernel
theorem dX3_readOff_13 : decode cX3_readOff 13 = .ok (.aload_n 0, 1) := by decide +kernel
theorem dX3_readOff_14 : decode cX3_readOff 14 = .ok (.getfield 56, 3) := by decide +kernel
theorem dX3_readOff_17 : decode cX3_readOff 17 = .ok (.ifCond .ne 25, 3) := by decide +kernel
theorem dX3_readOff_20 : decode cX3_readOff 20 = .ok (.aload_n 0, 1) := by decide +kernel
theorem dX3_readOff_21 : decode cX3_readOff 21 = .ok (.dup, 1) := by decide +kernel
theorem dX3_readOff_22 : decode cX3_readOff 22 = .ok (.getfield 227, 3) := by decide +kernel
theorem dX3_readOff_25 : decode cX3_readOff 25 = .ok (.iconst 1, 1) := by decide +kernel
theorem dX3_readOff_26 : decode cX3_readOff 26 = .ok (.iload_n 1, 1) := by decide +kernel
theorem dX3_readOff_27 : decode cX3_readOff 27 = .ok (.ishl, 1) := by decide +kernel
theorem dX3_readOff_28 : decode cX3_readOff 28 = .ok (.ior, 1) := by decide +kernel
theorem dX3_readOff_29 : decode cX3_readOff 29 = .ok (.putfield 227, 3) := by decide +kernel
theorem dX3_readOff_32 : decode cX3_readOff 32 = .ok (.aload_n 0, 1) := by decide +kernel
theorem dX3_readOff_33 : decode cX3_readOff 33 = .ok (.getfield 26, 3) := by decide +kernel
theorem dX3_readOff_36 : decode cX3_readOff 36 = .ok (.getfield 213, 3) := by decide +kernel
theorem dX3_readOff_39 : decode cX3_readOff 39 = .ok (.iload_n 1, 1) := by decide +kernel
theorem dX3_readOff_40 : decode cX3_readOff 40 = .ok (.iconst 0, 1) := by decide +kernel
theorem dX3_readOff_41 : decode cX3_readOff 41 = .ok (.bastore, 1) := by decide +kernel
theorem dX3_readOff_42 : decode cX3_readOff 42 = .ok (.return_, 1) := by decide +kernel
theorem dX3_readMirror_0 : decode cX3_readMirror 0 = .ok (.aload_n 0, 1) := by decide +kernel
theorem dX3_readMirror_1 : decode cX3_readMirror 1 = .ok (.invokevirtual 43, 3) := by decide +kernel
theorem dX3_readMirror_4 : decode cX3_readMirror 4 = .ok (.aload_n 0, 1) := by decide +kernel
theorem dX3_readMirror_5 : decode cX3_readMirror 5 = .ok (.invokevirtual 230, 3) := by decide +kernel
theorem dX3_readMirror_8 : decode cX3_readMirror 8 = .ok (.istore_n 1, 1) := by decide +kernel
theorem dX3_readMirror_9 : decode cX3_readMirror 9 = .ok (.aload_n 0, 1) := by decide +kernel
theorem dX3_readMirror_10 : decode cX3_readMirror 10 = .ok (.iconst 1, 1) := by decide +kernel
theorem dX3_readMirror_11 : decode cX3_readMirror 11 = .ok (.bipush 100, 2) := by decide +kernel
theorem dX3_readMirror_13 : decode cX3_readMirror 13 = .ok (.invokevirtual 76, 3) := by decide +kernel
theorem dX3_readMirror_16 : decode cX3_readMirror 16 = .ok (.istore_n 2, 1) := by decide +kernel
theorem dX3_readMirror_17 : decode cX3_readMirror 17 = .ok (.aload_n 0, 1) := by decide +kernel
theorem dX3_readMirror_18 : decode cX3_readMirror 18 = .ok (.getfield 56, 3) := by decide +kernel
theorem dX3_readMirror_21 : decode cX3_readMirror 21 = .ok (.ifCond .ne 13, 3) := by decide +kernel
theorem dX3_readMirror_24 : decode cX3_readMirror 24 = .ok (.aload_n 0, 1) := by decide +kernel
theorem dX3_readMirror_25 : decode cX3_readMirror 25 = .ok (.getfield 22, 3) := by decide +kernel
theorem dX3_readMirror_28 : decode cX3_readMirror 28 = .ok (.getfield 233, 3) := by decide +kernel
theorem dX3_readMirror_31 : decode cX3_readMirror 31 = .ok (.iload_n 1, 1) := by decide +kernel
theorem dX3_readMirror_32 : decode cX3_readMirror 32 = .ok (.iload_n 2, 1) := by decide +kernel
theorem dX3_readMirror_33 : decode cX3_readMirror 33 = .ok (.iastore, 1) := by decide +kernel
theorem dX3_readMirror_34 : decode cX3_readMirror 34 = .ok (.return_, 1) := by decide +kernel
theorem dX3_readCut_0 : decode cX3_readCut 0 = .ok (.aload_n 0, 1) := by decide +kernel
theorem dX3_readCut_1 : decode cX3_readCut 1 = .ok (.aload_n 0, 1) := by decide +kernel
theorem dX3_readCut_2 : decode cX3_readCut 2 = .ok (.getfield 236, 3) := by decide +kernel
theorem dX3_readCut_5 : decode cX3_readCut 5 = .ok (.bipush 6, 2) := by decide +kernel
theorem dX3_readCut_7 : decode cX3_readCut 7 = .ok (.invokevirtual 149, 3) := by decide +kernel
theorem dX3_readCut_10 : decode cX3_readCut 10 = .ok (.ifCond .ne 4, 3) := by decide +kernel
theorem dX3_readCut_13 : decode cX3_readCut 13 = .ok (.return_, 1) := by decide +kernel
theorem dX3_readCut_14 : decode cX3_readCut 14 = .ok (.aload_n 0, 1) := by decide +kernel
theorem dX3_readCut_15 : decode cX3_readCut 15 = .ok (.iconst 0, 1) := by decide +kernel
theorem dX3_readCut_16 : decode cX3_readCut 16 = .ok (.invokevirtual 220, 3) := by decide +kernel
theorem dX3_readCut_19 : decode cX3_readCut 19 = .ok (.istore_n 1, 1) := by decide +kernel
theorem dX3_readCut_20 : decode cX3_readCut 20 = .ok (.aload_n 0, 1) := by decide +kernel
theorem dX3_readCut_21 : decode cX3_readCut 21 = .ok (.iconst 0, 1) := by decide +kernel
theorem dX3_readCut_22 : decode cX3_readCut 22 = .ok (.sipush 9999, 3) := by decide +kernel
theorem dX3_readCut_25 : decode cX3_readCut 25 = .ok (.invokevirtual 76, 3) := by decide +kernel
theorem dX3_readCut_28 : decode cX3_readCut 28 = .ok (.istore_n 2, 1) := by decide +kernel
theorem dX3_readCut_29 : decode cX3_readCut 29 = .ok (.aload_n 0, 1) := by decide +kernel
theorem dX3_readCut_30 : decode cX3_readCut 30 = .ok (.iload_n 2, 1) := by decide +kernel
theorem dX3_readCut_31 : decode cX3_readCut 31 = .ok (.sipush 9999, 3) := by decide +kernel
theorem dX3_readCut_34 : decode cX3_readCut 34 = .ok (.invokevirtual 76, 3) := by decide +kernel
theorem dX3_readCut_37 : decode cX3_readCut 37 = .ok (.istore_n 3, 1) := by decide +kernel
theorem dX3_readCut_38 : decode cX3_readCut 38 = .ok (.aload_n 0, 1) := by decide +kernel
theorem dX3_readCut_39 : decode cX3_readCut 39 = .ok (.getfield 56, 3) := by decide +kernel
theorem dX3_readCut_42 : decode cX3_readCut 42 = .ok (.ifCond .ne 27, 3) := by decide +kernel
theorem dX3_readCut_45 : decode cX3_readCut 45 = .ok (.aload_n 0, 1) := by decide +kernel
theorem dX3_readCut_46 : decode cX3_readCut 46 = .ok (.getfield 22, 3) := by decide +kernel
theorem dX3_readCut_49 : decode cX3_readCut 49 = .ok (.getfield 153, 3) := by decide +kernel
theorem dX3_readCut_52 : decode cX3_readCut 52 = .ok (.iload_n 1, 1) := by decide +kernel
theorem dX3_readCut_53 : decode cX3_readCut 53 = .ok (.aaload, 1) := by decide +kernel
theorem dX3_readCut_54 : decode cX3_readCut 54 = .ok (.iload_n 2, 1) := by decide +kernel
theorem dX3_readCut_55 : decode cX3_readCut 55 = .ok (.iload_n 3, 1) := by decide +kernel
theorem dX3_readCut_56 : decode cX3_readCut 56 = .ok (.invokevirtual 237, 3) := by decide +kernel
theorem dX3_readCut_59 : decode cX3_readCut 59 = .ok (.aload_n 0, 1) := by decide +kernel
theorem dX3_readCut_60 : decode cX3_readCut 60 = .ok (.dup, 1) := by decide +kernel
theorem dX3_readCut_61 : decode cX3_readCut 61 = .ok (.getfield 236, 3) := by decide +kernel
theorem dX3_readCut_64 : decode cX3_readCut 64 = .ok (.iconst 1, 1) := by decide +kernel
theorem dX3_readCut_65 : decode cX3_readCut 65 = .ok (.iadd, 1) := by decide +kernel
theorem dX3_readCut_66 : decode cX3_readCut 66 = .ok (.putfield 236, 3) := by decide +kernel
theorem dX3_readCut_69 : decode cX3_readCut 69 = .ok (.return_, 1) := by decide +kernel
theorem dX3_readShape_0 : decode cX3_readShape 0 = .ok (.aload_n 0, 1) := by decide +kernel
theorem dX3_readShape_1 : decode cX3_readShape 1 = .ok (.invokevirtual 43, 3) := by decide +kernel
theorem dX3_readShape_4 : decode cX3_readShape 4 = .ok (.aload_n 0, 1) := by decide +kernel
theorem dX3_readShape_5 : decode cX3_readShape 5 = .ok (.aload_n 0, 1) := by decide +kernel
theorem dX3_readShape_6 : decode cX3_readShape 6 = .ok (.getfield 241, 3) := by decide +kernel
theorem dX3_readShape_9 : decode cX3_readShape 9 = .ok (.invokevirtual 220, 3) := by decide +kernel
theorem dX3_readShape_12 : decode cX3_readShape 12 = .ok (.istore_n 1, 1) := by decide +kernel
theorem dX3_readShape_13 : decode cX3_readShape 13 = .ok (.iconst 0, 1) := by decide +kernel
theorem dX3_readShape_14 : decode cX3_readShape 14 = .ok (.istore_n 2, 1) := by decide +kernel
theorem dX3_readShape_15 : decode cX3_readShape 15 = .ok (.aload_n 0, 1) := by decide +kernel
theorem dX3_readShape_16 : decode cX3_readShape 16 = .ok (.ldc 244, 2) := by decide +kernel
theorem dX3_readShape_18 : decode cX3_readShape 18 = .ok (.invokevirtual 94, 3) := by decide +kernel
theorem dX3_readShape_21 : decode cX3_readShape 21 = .ok (.ifCond .eq 8, 3) := by decide +kernel
theorem dX3_readShape_24 : decode cX3_readShape 24 = .ok (.iconst 1, 1) := by decide +kernel
theorem dX3_readShape_25 : decode cX3_readShape 25 = .ok (.istore_n 2, 1) := by decide +kernel
theorem dX3_readShape_26 : decode cX3_readShape 26 = .ok (.goto 22, 3) := by decide +kernel
theorem dX3_readShape_29 : decode cX3_readShape 29 = .ok (.aload_n 0, 1) := by decide +kernel
theorem dX3_readShape_30 : decode cX3_readShape 30 = .ok (.ldc 246, 2) := by decide +kernel
theorem dX3_readShape_32 : decode cX3_readShape 32 = .ok (.invokevirtual 94, 3) := by decide +kernel
theorem dX3_readShape_35 : decode cX3_readShape 35 = .ok (.ifCond .eq 8, 3) := by decide +kernel
theorem dX3_readShape_38 : decode cX3_readShape 38 = .ok (.iconst 2, 1) := by decide +kernel
theorem dX3_readShape_39 : decode cX3_readShape 39 = .ok (.istore_n 2, 1) := by decide +kernel
theorem dX3_readShape_40 : decode cX3_readShape 40 = .ok (.goto 8, 3) := by decide +kernel
theorem dX3_readShape_43 : decode cX3_readShape 43 = .ok (.aload_n 0, 1) := by decide +kernel
theorem dX3_readShape_44 : decode cX3_readShape 44 = .ok (.iconst 1, 1) := by decide +kernel
theorem dX3_readShape_45 : decode cX3_readShape 45 = .ok (.invokevirtual 62, 3) := by decide +kernel
theorem dX3_readShape_48 : decode cX3_readShape 48 = .ok (.aload_n 0, 1) := by decide +kernel
theorem dX3_readShape_49 : decode cX3_readShape 49 = .ok (.getfield 56, 3) := by decide +kernel
theorem dX3_readShape_52 : decode cX3_readShape 52 = .ok (.ifCond .ne 28, 3) := by decide +kernel
theorem dX3_readShape_55 : decode cX3_readShape 55 = .ok (.aload_n 0, 1) := by decide +kernel
theorem dX3_readShape_56 : decode cX3_readShape 56 = .ok (.dup, 1) := by decide +kernel
theorem dX3_readShape_57 : decode cX3_readShape 57 = .ok (.getfield 241, 3) := by decide +kernel
theorem dX3_readShape_60 : decode cX3_readShape 60 = .ok (.iconst 1, 1) := by decide +kernel
theorem dX3_readShape_61 : decode cX3_readShape 61 = .ok (.iload_n 1, 1) := by decide +kernel
theorem dX3_readShape_62 : decode cX3_readShape 62 = .ok (.ishl, 1) := by decide +kernel
theorem dX3_readShape_63 : decode cX3_readShape 63 = .ok (.ior, 1) := by decide +kernel
theorem dX3_readShape_64 : decode cX3_readShape 64 = .ok (.putfield 241, 3) := by decide +kernel
theorem dX3_readShape_67 : decode cX3_readShape 67 = .ok (.aload_n 0, 1) := by decide +kernel
theorem dX3_readShape_68 : decode cX3_readShape 68 = .ok (.getfield 22, 3) := by decide +kernel
theorem dX3_readShape_71 : decode cX3_readShape 71 = .ok (.getfield 153, 3) := by decide +kernel
theorem dX3_readShape_74 : decode cX3_readShape 74 = .ok (.iload_n 1, 1) := by decide +kernel
theorem dX3_readShape_75 : decode cX3_readShape 75 = .ok (.aaload, 1) := by decide +kernel
theorem dX3_readShape_76 : decode cX3_readShape 76 = .ok (.iload_n 2, 1) := by decide +kernel
theorem dX3_readShape_77 : decode cX3_readShape 77 = .ok (.putfield 202, 3) := by decide +kernel
theorem dX3_readShape_80 : decode cX3_readShape 80 = .ok (.return_, 1) := by decide +kernel
theorem dX3_readShoal_0 : decode cX3_readShoal 0 = .ok (.aload_n 0, 1) := by decide +kernel
theorem dX3_readShoal_1 : decode cX3_readShoal 1 = .ok (.aload_n 0, 1) := by decide +kernel
theorem dX3_readShoal_2 : decode cX3_readShoal 2 = .ok (.getfield 22, 3) := by decide +kernel
theorem dX3_readShoal_5 : decode cX3_readShoal 5 = .ok (.getfield 248, 3) := by decide +kernel
theorem dX3_readShoal_8 : decode cX3_readShoal 8 = .ok (.iconst 3, 1) := by decide +kernel
theorem dX3_readShoal_9 : decode cX3_readShoal 9 = .ok (.invokevirtual 149, 3) := by decide +kernel
theorem dX3_readShoal_12 : decode cX3_readShoal 12 = .ok (.ifCond .ne 4, 3) := by decide +kernel
theorem dX3_readShoal_15 : decode cX3_readShoal 15 = .ok (.return_, 1) := by decide +kernel
theorem dX3_readShoal_16 : decode cX3_readShoal 16 = .ok (.aload_n 0, 1) := by decide +kernel
theorem dX3_readShoal_17 : decode cX3_readShoal 17 = .ok (.getfield 22, 3) := by decide +kernel
theorem dX3_readShoal_20 : decode cX3_readShoal 20 = .ok (.getfield 251, 3) := by decide +kernel
theorem dX3_readShoal_23 : decode cX3_readShoal 23 = .ok (.aload_n 0, 1) := by decide +kernel
theorem dX3_readShoal_24 : decode cX3_readShoal 24 = .ok (.getfield 22, 3) := by decide +kernel
theorem dX3_readShoal_27 : decode cX3_readShoal 27 = .ok (.getfield 248, 3) := by decide +kernel
theorem dX3_readShoal_30 : decode cX3_readShoal 30 = .ok (.aaload, 1) := by decide +kernel
theorem dX3_readShoal_31 : decode cX3_readShoal 31 = .ok (.astore_n 1, 1) := by decide +kernel
theorem dX3_readShoal_32 : decode cX3_readShoal 32 = .ok (.aload_n 1, 1) := by decide +kernel
theorem dX3_readShoal_33 : decode cX3_readShoal 33 = .ok (.aload_n 0, 1) := by decide +kernel
theorem dX3_readShoal_34 : decode cX3_readShoal 34 = .ok (.iconst 0, 1) := by decide +kernel
theorem dX3_readShoal_35 : decode cX3_readShoal 35 = .ok (.invokevirtual 160, 3) := by decide +kernel
theorem dX3_readShoal_38 : decode cX3_readShoal 38 = .ok (.putfield 255, 3) := by decide +kernel
theorem dX3_readShoal_41 : decode cX3_readShoal 41 = .ok (.aload_n 1, 1) := by decide +kernel
theorem dX3_readShoal_42 : decode cX3_readShoal 42 = .ok (.aload_n 0, 1) := by decide +kernel
theorem dX3_readShoal_43 : decode cX3_readShoal 43 = .ok (.iconst 0, 1) := by decide +kernel
theorem dX3_readShoal_44 : decode cX3_readShoal 44 = .ok (.invokevirtual 166, 3) := by decide +kernel
theorem dX3_readShoal_47 : decode cX3_readShoal 47 = .ok (.putfield 260, 3) := by decide +kernel
theorem dX3_readShoal_50 : decode cX3_readShoal 50 = .ok (.aload_n 1, 1) := by decide +kernel
theorem dX3_readShoal_51 : decode cX3_readShoal 51 = .ok (.aload_n 0, 1) := by decide +kernel
theorem dX3_readShoal_52 : decode cX3_readShoal 52 = .ok (.aload_n 1, 1) := by decide +kernel
theorem dX3_readShoal_53 : decode cX3_readShoal 53 = .ok (.getfield 255, 3) := by decide +kernel
theorem dX3_readShoal_56 : decode cX3_readShoal 56 = .ok (.invokevirtual 160, 3) := by decide +kernel
theorem dX3_readShoal_59 : decode cX3_readShoal 59 = .ok (.putfield 263, 3) := by decide +kernel
theorem dX3_readShoal_62 : decode cX3_readShoal 62 = .ok (.aload_n 1, 1) := by decide +kernel
theorem dX3_readShoal_63 : decode cX3_readShoal 63 = .ok (.aload_n 0, 1) := by decide +kernel
theorem dX3_readShoal_64 : decode cX3_readShoal 64 = .ok (.aload_n 1, 1) := by decide +kernel
theorem dX3_readShoal_65 : decode cX3_readShoal 65 = .ok (.getfield 260, 3) := by decide +kernel
theorem dX3_readShoal_68 : decode cX3_readShoal 68 = .ok (.invokevirtual 166, 3) := by decide +kernel
theorem dX3_readShoal_71 : decode cX3_readShoal 71 = .ok (.putfield 266, 3) := by decide +kernel
theorem dX3_readShoal_74 : decode cX3_readShoal 74 = .ok (.aload_n 1, 1) := by decide +kernel
theorem dX3_readShoal_75 : decode cX3_readShoal 75 = .ok (.aload_n 0, 1) := by decide +kernel
theorem dX3_readShoal_76 : decode cX3_readShoal 76 = .ok (.iconst 0, 1) := by decide +kernel
theorem dX3_readShoal_77 : decode cX3_readShoal 77 = .ok (.sipush 200, 3) := by decide +kernel
theorem dX3_readShoal_80 : decode cX3_readShoal 80 = .ok (.invokevirtual 76, 3) := by decide +kernel
theorem dX3_readShoal_83 : decode cX3_readShoal 83 = .ok (.putfield 269, 3) := by decide +kernel
theorem dX3_readShoal_86 : decode cX3_readShoal 86 = .ok (.aload_n 0, 1) := by decide +kernel
theorem dX3_readShoal_87 : decode cX3_readShoal 87 = .ok (.getfield 56, 3) := by decide +kernel
theorem dX3_readShoal_90 : decode cX3_readShoal 90 = .ok (.ifCond .ne 16, 3) := by decide +kernel
theorem dX3_readShoal_93 : decode cX3_readShoal 93 = .ok (.aload_n 0, 1) := by decide +kernel
theorem dX3_readShoal_94 : decode cX3_readShoal 94 = .ok (.getfield 22, 3) := by decide +kernel
theorem dX3_readShoal_97 : decode cX3_readShoal 97 = .ok (.dup, 1) := by decide +kernel
theorem dX3_readShoal_98 : decode cX3_readShoal 98 = .ok (.getfield 248, 3) := by decide +kernel
theorem dX3_readShoal_101 : decode cX3_readShoal 101 = .ok (.iconst 1, 1) := by decide +kernel
theorem dX3_readShoal_102 : decode cX3_readShoal 102 = .ok (.iadd, 1) := by decide +kernel
theorem dX3_readShoal_103 : decode cX3_readShoal 103 = .ok (.putfield 248, 3) := by decide +kernel
theorem dX3_readShoal_106 : decode cX3_readShoal 106 = .ok (.return_, 1) := by decide +kernel
theorem dX3_readGauge_0 : decode cX3_readGauge 0 = .ok (.aload_n 0, 1) := by decide +kernel
theorem dX3_readGauge_1 : decode cX3_readGauge 1 = .ok (.aload_n 0, 1) := by decide +kernel
theorem dX3_readGauge_2 : decode cX3_readGauge 2 = .ok (.getfield 22, 3) := by decide +kernel
theorem dX3_readGauge_5 : decode cX3_readGauge 5 = .ok (.getfield 272, 3) := by decide +kernel
theorem dX3_readGauge_8 : decode cX3_readGauge 8 = .ok (.iconst 4, 1) := by decide +kernel
theorem dX3_readGauge_9 : decode cX3_readGauge 9 = .ok (.invokevirtual 149, 3) := by decide +kernel
theorem dX3_readGauge_12 : decode cX3_readGauge 12 = .ok (.ifCond .ne 4, 3) := by decide +kernel
theorem dX3_readGauge_15 : decode cX3_readGauge 15 = .ok (.return_, 1) := by decide +kernel
theorem dX3_readGauge_16 : decode cX3_readGauge 16 = .ok (.aload_n 0, 1) := by decide +kernel
theorem dX3_readGauge_17 : decode cX3_readGauge 17 = .ok (.getfield 22, 3) := by decide +kernel
theorem dX3_readGauge_20 : decode cX3_readGauge 20 = .ok (.getfield 275, 3) := by decide +kernel
theorem dX3_readGauge_23 : decode cX3_readGauge 23 = .ok (.aload_n 0, 1) := by decide +kernel
theorem dX3_readGauge_24 : decode cX3_readGauge 24 = .ok (.getfield 22, 3) := by decide +kernel
theorem dX3_readGauge_27 : decode cX3_readGauge 27 = .ok (.getfield 272, 3) := by decide +kernel
theorem dX3_readGauge_30 : decode cX3_readGauge 30 = .ok (.aload_n 0, 1) := by decide +kernel
theorem dX3_readGauge_31 : decode cX3_readGauge 31 = .ok (.iconst 0, 1) := by decide +kernel
theorem dX3_readGauge_32 : decode cX3_readGauge 32 = .ok (.invokevirtual 160, 3) := by decide +kernel
theorem dX3_readGauge_35 : decode cX3_readGauge 35 = .ok (.iastore, 1) := by decide +kernel
theorem dX3_readGauge_36 : decode cX3_readGauge 36 = .ok (.aload_n 0, 1) := by decide +kernel
theorem dX3_readGauge_37 : decode cX3_readGauge 37 = .ok (.getfield 22, 3) := by decide +kernel
theorem dX3_readGauge_40 : decode cX3_readGauge 40 = .ok (.getfield 278, 3) := by decide +kernel
theorem dX3_readGauge_43 : decode cX3_readGauge 43 = .ok (.aload_n 0, 1) := by decide +kernel
theorem dX3_readGauge_44 : decode cX3_readGauge 44 = .ok (.getfield 22, 3) := by decide +kernel
theorem dX3_readGauge_47 : decode cX3_readGauge 47 = .ok (.getfield 272, 3) := by decide +kernel
theorem dX3_readGauge_50 : decode cX3_readGauge 50 = .ok (.aload_n 0, 1) := by decide +kernel
theorem dX3_readGauge_51 : decode cX3_readGauge 51 = .ok (.iconst 0, 1) := by decide +kernel
theorem dX3_readGauge_52 : decode cX3_readGauge 52 = .ok (.invokevirtual 166, 3) := by decide +kernel
theorem dX3_readGauge_55 : decode cX3_readGauge 55 = .ok (.iastore, 1) := by decide +kernel
theorem dX3_readGauge_56 : decode cX3_readGauge 56 = .ok (.aload_n 0, 1) := by decide +kernel
theorem dX3_readGauge_57 : decode cX3_readGauge 57 = .ok (.getfield 56, 3) := by decide +kernel
theorem dX3_readGauge_60 : decode cX3_readGauge 60 = .ok (.ifCond .ne 16, 3) := by decide +kernel
theorem dX3_readGauge_63 : decode cX3_readGauge 63 = .ok (.aload_n 0, 1) := by decide +kernel
theorem dX3_readGauge_64 : decode cX3_readGauge 64 = .ok (.getfield 22, 3) := by decide +kernel
theorem dX3_readGauge_67 : decode cX3_readGauge 67 = .ok (.dup, 1) := by decide +kernel
theorem dX3_readGauge_68 : decode cX3_readGauge 68 = .ok (.getfield 272, 3) := by decide +kernel
theorem dX3_readGauge_71 : decode cX3_readGauge 71 = .ok (.iconst 1, 1) := by decide +kernel
theorem dX3_readGauge_72 : decode cX3_readGauge 72 = .ok (.iadd, 1) := by decide +kernel
theorem dX3_readGauge_73 : decode cX3_readGauge 73 = .ok (.putfield 272, 3) := by decide +kernel
theorem dX3_readGauge_76 : decode cX3_readGauge 76 = .ok (.return_, 1) := by decide +kernel
theorem dX3_startCounted_0 : decode cX3_startCounted 0 = .ok (.iload_n 1, 1) := by decide +kernel
theorem dX3_startCounted_1 : decode cX3_startCounted 1 = .ok (.iload_n 2, 1) := by decide +kernel
theorem dX3_startCounted_2 : decode cX3_startCounted 2 = .ok (.if_icmp .lt 10, 3) := by decide +kernel
theorem dX3_startCounted_5 : decode cX3_startCounted 5 = .ok (.aload_n 0, 1) := by decide +kernel
theorem dX3_startCounted_6 : decode cX3_startCounted 6 = .ok (.iconst 4, 1) := by decide +kernel
theorem dX3_startCounted_7 : decode cX3_startCounted 7 = .ok (.invokevirtual 62, 3) := by decide +kernel
theorem dX3_startCounted_10 : decode cX3_startCounted 10 = .ok (.iconst 0, 1) := by decide +kernel
theorem dX3_startCounted_11 : decode cX3_startCounted 11 = .ok (.ireturn, 1) := by decide +kernel
theorem dX3_startCounted_12 : decode cX3_startCounted 12 = .ok (.aload_n 0, 1) := by decide +kernel
theorem dX3_startCounted_13 : decode cX3_startCounted 13 = .ok (.invokevirtual 43, 3) := by decide +kernel
theorem dX3_startCounted_16 : decode cX3_startCounted 16 = .ok (.iconst 1, 1) := by decide +kernel
theorem dX3_startCounted_17 : decode cX3_startCounted 17 = .ok (.ireturn, 1) := by decide +kernel
theorem dX3_readColumn_0 : decode cX3_readColumn 0 = .ok (.aload_n 0, 1) := by decide +kernel
theorem dX3_readColumn_1 : decode cX3_readColumn 1 = .ok (.iload_n 1, 1) := by decide +kernel
theorem dX3_readColumn_2 : decode cX3_readColumn 2 = .ok (.aload_n 0, 1) := by decide +kernel
theorem dX3_readColumn_3 : decode cX3_readColumn 3 = .ok (.getfield 22, 3) := by decide +kernel
theorem dX3_readColumn_6 : decode cX3_readColumn 6 = .ok (.getfield 84, 3) := by decide +kernel
theorem dX3_readColumn_9 : decode cX3_readColumn 9 = .ok (.iconst 1, 1) := by decide +kernel
theorem dX3_readColumn_10 : decode cX3_readColumn 10 = .ok (.isub, 1) := by decide +kernel
theorem dX3_readColumn_11 : decode cX3_readColumn 11 = .ok (.invokevirtual 76, 3) := by decide +kernel
theorem dX3_readColumn_14 : decode cX3_readColumn 14 = .ok (.ireturn, 1) := by decide +kernel
theorem dX3_readRow_0 : decode cX3_readRow 0 = .ok (.aload_n 0, 1) := by decide +kernel
theorem dX3_readRow_1 : decode cX3_readRow 1 = .ok (.iload_n 1, 1) := by decide +kernel
theorem dX3_readRow_2 : decode cX3_readRow 2 = .ok (.aload_n 0, 1) := by decide +kernel
theorem dX3_readRow_3 : decode cX3_readRow 3 = .ok (.getfield 22, 3) := by decide +kernel
theorem dX3_readRow_6 : decode cX3_readRow 6 = .ok (.getfield 87, 3) := by decide +kernel
theorem dX3_readRow_9 : decode cX3_readRow 9 = .ok (.iconst 1, 1) := by decide +kernel
theorem dX3_readRow_10 : decode cX3_readRow 10 = .ok (.isub, 1) := by decide +kernel
theorem dX3_readRow_11 : decode cX3_readRow 11 = .ok (.invokevirtual 76, 3) := by decide +kernel
theorem dX3_readRow_14 : decode cX3_readRow 14 = .ok (.ireturn, 1) := by decide +kernel
theorem dX3_readSource_0 : decode cX3_readSource 0 = .ok (.aload_n 0, 1) := by decide +kernel
theorem dX3_readSource_1 : decode cX3_readSource 1 = .ok (.getfield 59, 3) := by decide +kernel
theorem dX3_readSource_4 : decode cX3_readSource 4 = .ok (.iconst 2, 1) := by decide +kernel
theorem dX3_readSource_5 : decode cX3_readSource 5 = .ok (.if_icmp .ne 34, 3) := by decide +kernel
theorem dX3_readSource_8 : decode cX3_readSource 8 = .ok (.aload_n 0, 1) := by decide +kernel
theorem dX3_readSource_9 : decode cX3_readSource 9 = .ok (.getfield 281, 3) := by decide +kernel
theorem dX3_readSource_12 : decode cX3_readSource 12 = .ok (.aload_n 0, 1) := by decide +kernel
theorem dX3_readSource_13 : decode cX3_readSource 13 = .ok (.getfield 22, 3) := by decide +kernel
theorem dX3_readSource_16 : decode cX3_readSource 16 = .ok (.getfield 66, 3) := by decide +kernel
theorem dX3_readSource_19 : decode cX3_readSource 19 = .ok (.if_icmp .ge 20, 3) := by decide +kernel
theorem dX3_readSource_22 : decode cX3_readSource 22 = .ok (.iload_n 1, 1) := by decide +kernel
theorem dX3_readSource_23 : decode cX3_readSource 23 = .ok (.aload_n 0, 1) := by decide +kernel
theorem dX3_readSource_24 : decode cX3_readSource 24 = .ok (.getfield 281, 3) := by decide +kernel
theorem dX3_readSource_27 : decode cX3_readSource 27 = .ok (.ishr, 1) := by decide +kernel
theorem dX3_readSource_28 : decode cX3_readSource 28 = .ok (.iconst 1, 1) := by decide +kernel
theorem dX3_readSource_29 : decode cX3_readSource 29 = .ok (.iand, 1) := by decide +kernel
theorem dX3_readSource_30 : decode cX3_readSource 30 = .ok (.iconst 1, 1) := by decide +kernel
theorem dX3_readSource_31 : decode cX3_readSource 31 = .ok (.if_icmp .ne 8, 3) := by decide +kernel
theorem dX3_readSource_34 : decode cX3_readSource 34 = .ok (.aload_n 0, 1) := by decide +kernel
theorem dX3_readSource_35 : decode cX3_readSource 35 = .ok (.iconst 3, 1) := by decide +kernel
theorem dX3_readSource_36 : decode cX3_readSource 36 = .ok (.invokevirtual 62, 3) := by decide +kernel
theorem dX3_readSource_39 : decode cX3_readSource 39 = .ok (.aload_n 0, 1) := by decide +kernel
theorem dX3_readSource_40 : decode cX3_readSource 40 = .ok (.iconst 0, 1) := by decide +kernel
theorem dX3_readSource_41 : decode cX3_readSource 41 = .ok (.aload_n 0, 1) := by decide +kernel
theorem dX3_readSource_42 : decode cX3_readSource 42 = .ok (.getfield 22, 3) := by decide +kernel
theorem dX3_readSource_45 : decode cX3_readSource 45 = .ok (.getfield 66, 3) := by decide +kernel
theorem dX3_readSource_48 : decode cX3_readSource 48 = .ok (.iconst 1, 1) := by decide +kernel
theorem dX3_readSource_49 : decode cX3_readSource 49 = .ok (.isub, 1) := by decide +kernel
theorem dX3_readSource_50 : decode cX3_readSource 50 = .ok (.invokevirtual 76, 3) := by decide +kernel
theorem dX3_readSource_53 : decode cX3_readSource 53 = .ok (.ireturn, 1) := by decide +kernel
theorem dX3_readSide_0 : decode cX3_readSide 0 = .ok (.iconst (-1), 1) := by decide +kernel
theorem dX3_readSide_1 : decode cX3_readSide 1 = .ok (.istore_n 1, 1) := by decide +kernel
theorem dX3_readSide_2 : decode cX3_readSide 2 = .ok (.aload_n 0, 1) := by decide +kernel
theorem dX3_readSide_3 : decode cX3_readSide 3 = .ok (.ldc_w 284, 3) := by decide +kernel
theorem dX3_readSide_6 : decode cX3_readSide 6 = .ok (.invokevirtual 103, 3) := by decide +kernel
theorem dX3_readSide_9 : decode cX3_readSide 9 = .ok (.ifCond .eq 8, 3) := by decide +kernel
theorem dX3_readSide_12 : decode cX3_readSide 12 = .ok (.iconst 0, 1) := by decide +kernel
theorem dX3_readSide_13 : decode cX3_readSide 13 = .ok (.istore_n 1, 1) := by decide +kernel
theorem dX3_readSide_14 : decode cX3_readSide 14 = .ok (.goto 45, 3) := by decide +kernel
theorem dX3_readSide_17 : decode cX3_readSide 17 = .ok (.aload_n 0, 1) := by decide +kernel
theorem dX3_readSide_18 : decode cX3_readSide 18 = .ok (.ldc_w 286, 3) := by decide +kernel
theorem dX3_readSide_21 : decode cX3_readSide 21 = .ok (.invokevirtual 103, 3) := by decide +kernel
theorem dX3_readSide_24 : decode cX3_readSide 24 = .ok (.ifCond .eq 8, 3) := by decide +kernel
theorem dX3_readSide_27 : decode cX3_readSide 27 = .ok (.iconst 1, 1) := by decide +kernel
theorem dX3_readSide_28 : decode cX3_readSide 28 = .ok (.istore_n 1, 1) := by decide +kernel
theorem dX3_readSide_29 : decode cX3_readSide 29 = .ok (.goto 30, 3) := by decide +kernel
theorem dX3_readSide_32 : decode cX3_readSide 32 = .ok (.aload_n 0, 1) := by decide +kernel
theorem dX3_readSide_33 : decode cX3_readSide 33 = .ok (.ldc_w 288, 3) := by decide +kernel
theorem dX3_readSide_36 : decode cX3_readSide 36 = .ok (.invokevirtual 103, 3) := by decide +kernel
theorem dX3_readSide_39 : decode cX3_readSide 39 = .ok (.ifCond .eq 8, 3) := by decide +kernel
theorem dX3_readSide_42 : decode cX3_readSide 42 = .ok (.iconst 2, 1) := by decide +kernel
theorem dX3_readSide_43 : decode cX3_readSide 43 = .ok (.istore_n 1, 1) := by decide +kernel
theorem dX3_readSide_44 : decode cX3_readSide 44 = .ok (.goto 15, 3) := by decide +kernel
theorem dX3_readSide_47 : decode cX3_readSide 47 = .ok (.aload_n 0, 1) := by decide +kernel
theorem dX3_readSide_48 : decode cX3_readSide 48 = .ok (.ldc_w 290, 3) := by decide +kernel
theorem dX3_readSide_51 : decode cX3_readSide 51 = .ok (.invokevirtual 103, 3) := by decide +kernel
theorem dX3_readSide_54 : decode cX3_readSide 54 = .ok (.ifCond .eq 5, 3) := by decide +kernel
theorem dX3_readSide_57 : decode cX3_readSide 57 = .ok (.iconst 3, 1) := by decide +kernel
theorem dX3_readSide_58 : decode cX3_readSide 58 = .ok (.istore_n 1, 1) := by decide +kernel
theorem dX3_readSide_59 : decode cX3_readSide 59 = .ok (.iload_n 1, 1) := by decide +kernel
theorem dX3_readSide_60 : decode cX3_readSide 60 = .ok (.iconst (-1), 1) := by decide +kernel
theorem dX3_readSide_61 : decode cX3_readSide 61 = .ok (.if_icmp .ne 11, 3) := by decide +kernel
theorem dX3_readSide_64 : decode cX3_readSide 64 = .ok (.aload_n 0, 1) := by decide +kernel
theorem dX3_readSide_65 : decode cX3_readSide 65 = .ok (.iconst 1, 1) := by decide +kernel
theorem dX3_readSide_66 : decode cX3_readSide 66 = .ok (.invokevirtual 62, 3) := by decide +kernel
theorem dX3_readSide_69 : decode cX3_readSide 69 = .ok (.goto 27, 3) := by decide +kernel
theorem dX3_readSide_72 : decode cX3_readSide 72 = .ok (.aload_n 0, 1) := by decide +kernel
theorem dX3_readSide_73 : decode cX3_readSide 73 = .ok (.getfield 22, 3) := by decide +kernel
theorem dX3_readSide_76 : decode cX3_readSide 76 = .ok (.getfield 233, 3) := by decide +kernel
theorem dX3_readSide_79 : decode cX3_readSide 79 = .ok (.iload_n 1, 1) := by decide +kernel
theorem dX3_readSide_80 : decode cX3_readSide 80 = .ok (.iaload, 1) := by decide +kernel
theorem dX3_readSide_81 : decode cX3_readSide 81 = .ok (.ifCond .le 11, 3) := by decide +kernel
theorem dX3_readSide_84 : decode cX3_readSide 84 = .ok (.aload_n 0, 1) := by decide +kernel
theorem dX3_readSide_85 : decode cX3_readSide 85 = .ok (.iconst 3, 1) := by decide +kernel
theorem dX3_readSide_86 : decode cX3_readSide 86 = .ok (.invokevirtual 62, 3) := by decide +kernel
theorem dX3_readSide_89 : decode cX3_readSide 89 = .ok (.goto 7, 3) := by decide +kernel
theorem dX3_readSide_92 : decode cX3_readSide 92 = .ok (.aload_n 0, 1) := by decide +kernel
theorem dX3_readSide_93 : decode cX3_readSide 93 = .ok (.invokevirtual 43, 3) := by decide +kernel
theorem dX3_readSide_96 : decode cX3_readSide 96 = .ok (.iload_n 1, 1) := by decide +kernel
theorem dX3_readSide_97 : decode cX3_readSide 97 = .ok (.ireturn, 1) := by decide +kernel
theorem dX3_readSigned_0 : decode cX3_readSigned 0 = .ok (.aload_n 0, 1) := by decide +kernel
theorem dX3_readSigned_1 : decode cX3_readSigned 1 = .ok (.getfield 56, 3) := by decide +kernel
theorem dX3_readSigned_4 : decode cX3_readSigned 4 = .ok (.ifCond .ne 15, 3) := by decide +kernel
theorem dX3_readSigned_7 : decode cX3_readSigned 7 = .ok (.aload_n 0, 1) := by decide +kernel
theorem dX3_readSigned_8 : decode cX3_readSigned 8 = .ok (.getfield 59, 3) := by decide +kernel
theorem dX3_readSigned_11 : decode cX3_readSigned 11 = .ok (.iconst 3, 1) := by decide +kernel
theorem dX3_readSigned_12 : decode cX3_readSigned 12 = .ok (.if_icmp .ne 7, 3) := by decide +kernel
theorem dX3_readSigned_15 : decode cX3_readSigned 15 = .ok (.iconst 1, 1) := by decide +kernel
theorem dX3_readSigned_16 : decode cX3_readSigned 16 = .ok (.goto 4, 3) := by decide +kernel
theorem dX3_readSigned_19 : decode cX3_readSigned 19 = .ok (.iconst 0, 1) := by decide +kernel
theorem dX3_readSigned_20 : decode cX3_readSigned 20 = .ok (.istore_n 1, 1) := by decide +kernel
theorem dX3_readSigned_21 : decode cX3_readSigned 21 = .ok (.iload_n 1, 1) := by decide +kernel
theorem dX3_readSigned_22 : decode cX3_readSigned 22 = .ok (.ifCond .eq 7, 3) := by decide +kernel
theorem dX3_readSigned_25 : decode cX3_readSigned 25 = .ok (.aload_n 0, 1) := by decide +kernel
theorem dX3_readSigned_26 : decode cX3_readSigned 26 = .ok (.invokevirtual 43, 3) := by decide +kernel
theorem dX3_readSigned_29 : decode cX3_readSigned 29 = .ok (.aload_n 0, 1) := by decide +kernel
theorem dX3_readSigned_30 : decode cX3_readSigned 30 = .ok (.iconst 0, 1) := by decide +kernel
theorem dX3_readSigned_31 : decode cX3_readSigned 31 = .ok (.bipush 99, 2) := by decide +kernel
theorem dX3_readSigned_33 : decode cX3_readSigned 33 = .ok (.invokevirtual 76, 3) := by decide +kernel
theorem dX3_readSigned_36 : decode cX3_readSigned 36 = .ok (.istore_n 2, 1) := by decide +kernel
theorem dX3_readSigned_37 : decode cX3_readSigned 37 = .ok (.iload_n 1, 1) := by decide +kernel
theorem dX3_readSigned_38 : decode cX3_readSigned 38 = .ok (.ifCond .eq 8, 3) := by decide +kernel
theorem dX3_readSigned_41 : decode cX3_readSigned 41 = .ok (.iload_n 2, 1) := by decide +kernel
theorem dX3_readSigned_42 : decode cX3_readSigned 42 = .ok (.ineg, 1) := by decide +kernel
theorem dX3_readSigned_43 : decode cX3_readSigned 43 = .ok (.goto 4, 3) := by decide +kernel
theorem dX3_readSigned_46 : decode cX3_readSigned 46 = .ok (.iload_n 2, 1) := by decide +kernel
theorem dX3_readSigned_47 : decode cX3_readSigned 47 = .ok (.ireturn, 1) := by decide +kernel
theorem dX3_readNumber_0 : decode cX3_readNumber 0 = .ok (.aload_n 0, 1) := by decide +kernel
theorem dX3_readNumber_1 : decode cX3_readNumber 1 = .ok (.getfield 56, 3) := by decide +kernel
theorem dX3_readNumber_4 : decode cX3_readNumber 4 = .ok (.ifCond .eq 5, 3) := by decide +kernel
theorem dX3_readNumber_7 : decode cX3_readNumber 7 = .ok (.iconst (-1), 1) := by decide +kernel
theorem dX3_readNumber_8 : decode cX3_readNumber 8 = .ok (.ireturn, 1) := by decide +kernel
theorem dX3_readNumber_9 : decode cX3_readNumber 9 = .ok (.aload_n 0, 1) := by decide +kernel
theorem dX3_readNumber_10 : decode cX3_readNumber 10 = .ok (.getfield 59, 3) := by decide +kernel
theorem dX3_readNumber_13 : decode cX3_readNumber 13 = .ok (.iconst 2, 1) := by decide +kernel
theorem dX3_readNumber_14 : decode cX3_readNumber 14 = .ok (.if_icmp .eq 10, 3) := by decide +kernel
theorem dX3_readNumber_17 : decode cX3_readNumber 17 = .ok (.aload_n 0, 1) := by decide +kernel
theorem dX3_readNumber_18 : decode cX3_readNumber 18 = .ok (.iconst 1, 1) := by decide +kernel
theorem dX3_readNumber_19 : decode cX3_readNumber 19 = .ok (.invokevirtual 62, 3) := by decide +kernel
theorem dX3_readNumber_22 : decode cX3_readNumber 22 = .ok (.iconst (-1), 1) := by decide +kernel
theorem dX3_readNumber_23 : decode cX3_readNumber 23 = .ok (.ireturn, 1) := by decide +kernel
theorem dX3_readNumber_24 : decode cX3_readNumber 24 = .ok (.aload_n 0, 1) := by decide +kernel
theorem dX3_readNumber_25 : decode cX3_readNumber 25 = .ok (.getfield 281, 3) := by decide +kernel
theorem dX3_readNumber_28 : decode cX3_readNumber 28 = .ok (.iload_n 1, 1) := by decide +kernel
theorem dX3_readNumber_29 : decode cX3_readNumber 29 = .ok (.if_icmp .lt 11, 3) := by decide +kernel
theorem dX3_readNumber_32 : decode cX3_readNumber 32 = .ok (.aload_n 0, 1) := by decide +kernel
theorem dX3_readNumber_33 : decode cX3_readNumber 33 = .ok (.getfield 281, 3) := by decide +kernel
theorem dX3_readNumber_36 : decode cX3_readNumber 36 = .ok (.iload_n 2, 1) := by decide +kernel
theorem dX3_readNumber_37 : decode cX3_readNumber 37 = .ok (.if_icmp .le 10, 3) := by decide +kernel
theorem dX3_readNumber_40 : decode cX3_readNumber 40 = .ok (.aload_n 0, 1) := by decide +kernel
theorem dX3_readNumber_41 : decode cX3_readNumber 41 = .ok (.iconst 2, 1) := by decide +kernel
theorem dX3_readNumber_42 : decode cX3_readNumber 42 = .ok (.invokevirtual 62, 3) := by decide +kernel
theorem dX3_readNumber_45 : decode cX3_readNumber 45 = .ok (.iconst (-1), 1) := by decide +kernel
theorem dX3_readNumber_46 : decode cX3_readNumber 46 = .ok (.ireturn, 1) := by decide +kernel
theorem dX3_readNumber_47 : decode cX3_readNumber 47 = .ok (.aload_n 0, 1) := by decide +kernel
theorem dX3_readNumber_48 : decode cX3_readNumber 48 = .ok (.getfield 281, 3) := by decide +kernel
theorem dX3_readNumber_51 : decode cX3_readNumber 51 = .ok (.istore_n 3, 1) := by decide +kernel
theorem dX3_readNumber_52 : decode cX3_readNumber 52 = .ok (.aload_n 0, 1) := by decide +kernel
theorem dX3_readNumber_53 : decode cX3_readNumber 53 = .ok (.invokevirtual 43, 3) := by decide +kernel
theorem dX3_readNumber_56 : decode cX3_readNumber 56 = .ok (.iload_n 3, 1) := by decide +kernel
theorem dX3_readNumber_57 : decode cX3_readNumber 57 = .ok (.ireturn, 1) := by decide +kernel
theorem dX3_readWord_0 : decode cX3_readWord 0 = .ok (.aload_n 0, 1) := by decide +kernel
theorem dX3_readWord_1 : decode cX3_readWord 1 = .ok (.aload_n 1, 1) := by decide +kernel
theorem dX3_readWord_2 : decode cX3_readWord 2 = .ok (.invokevirtual 94, 3) := by decide +kernel
theorem dX3_readWord_5 : decode cX3_readWord 5 = .ok (.ifCond .ne 8, 3) := by decide +kernel
theorem dX3_readWord_8 : decode cX3_readWord 8 = .ok (.aload_n 0, 1) := by decide +kernel
theorem dX3_readWord_9 : decode cX3_readWord 9 = .ok (.iconst 1, 1) := by decide +kernel
theorem dX3_readWord_10 : decode cX3_readWord 10 = .ok (.invokevirtual 62, 3) := by decide +kernel
theorem dX3_readWord_13 : decode cX3_readWord 13 = .ok (.return_, 1) := by decide +kernel
theorem dX3_takeWord_0 : decode cX3_takeWord 0 = .ok (.aload_n 0, 1) := by decide +kernel
theorem dX3_takeWord_1 : decode cX3_takeWord 1 = .ok (.getfield 56, 3) := by decide +kernel
theorem dX3_takeWord_4 : decode cX3_takeWord 4 = .ok (.ifCond .ne 11, 3) := by decide +kernel
theorem dX3_takeWord_7 : decode cX3_takeWord 7 = .ok (.aload_n 0, 1) := by decide +kernel
theorem dX3_takeWord_8 : decode cX3_takeWord 8 = .ok (.aload_n 1, 1) := by decide +kernel
theorem dX3_takeWord_9 : decode cX3_takeWord 9 = .ok (.invokevirtual 103, 3) := by decide +kernel
theorem dX3_takeWord_12 : decode cX3_takeWord 12 = .ok (.ifCond .ne 5, 3) := by decide +kernel
theorem dX3_takeWord_15 : decode cX3_takeWord 15 = .ok (.iconst 0, 1) := by decide +kernel
theorem dX3_takeWord_16 : decode cX3_takeWord 16 = .ok (.ireturn, 1) := by decide +kernel
theorem dX3_takeWord_17 : decode cX3_takeWord 17 = .ok (.aload_n 0, 1) := by decide +kernel
theorem dX3_takeWord_18 : decode cX3_takeWord 18 = .ok (.invokevirtual 43, 3) := by decide +kernel
theorem dX3_takeWord_21 : decode cX3_takeWord 21 = .ok (.iconst 1, 1) := by decide +kernel
theorem dX3_takeWord_22 : decode cX3_takeWord 22 = .ok (.ireturn, 1) := by decide +kernel
theorem dX3_takeSemicolon_0 : decode cX3_takeSemicolon 0 = .ok (.aload_n 0, 1) := by decide +kernel
theorem dX3_takeSemicolon_1 : decode cX3_takeSemicolon 1 = .ok (.getfield 56, 3) := by decide +kernel
theorem dX3_takeSemicolon_4 : decode cX3_takeSemicolon 4 = .ok (.ifCond .ne 11, 3) := by decide +kernel
theorem dX3_takeSemicolon_7 : decode cX3_takeSemicolon 7 = .ok (.aload_n 0, 1) := by decide +kernel
theorem dX3_takeSemicolon_8 : decode cX3_takeSemicolon 8 = .ok (.getfield 59, 3) := by decide +kernel
theorem dX3_takeSemicolon_11 : decode cX3_takeSemicolon 11 = .ok (.iconst 4, 1) := by decide +kernel
theorem dX3_takeSemicolon_12 : decode cX3_takeSemicolon 12 = .ok (.if_icmp .eq 5, 3) := by decide +kernel
theorem dX3_takeSemicolon_15 : decode cX3_takeSemicolon 15 = .ok (.iconst 0, 1) := by decide +kernel
theorem dX3_takeSemicolon_16 : decode cX3_takeSemicolon 16 = .ok (.ireturn, 1) := by decide +kernel
theorem dX3_takeSemicolon_17 : decode cX3_takeSemicolon 17 = .ok (.aload_n 0, 1) := by decide +kernel
theorem dX3_takeSemicolon_18 : decode cX3_takeSemicolon 18 = .ok (.invokevirtual 43, 3) := by decide +kernel
theorem dX3_takeSemicolon_21 : decode cX3_takeSemicolon 21 = .ok (.iconst 1, 1) := by decide +kernel
theorem dX3_takeSemicolon_22 : decode cX3_takeSemicolon 22 = .ok (.ireturn, 1) := by decide +kernel
theorem dX3_isWord_0 : decode cX3_isWord 0 = .ok (.aload_n 0, 1) := by decide +kernel
theorem dX3_isWord_1 : decode cX3_isWord 1 = .ok (.getfield 59, 3) := by decide +kernel
theorem dX3_isWord_4 : decode cX3_isWord 4 = .ok (.iconst 1, 1) := by decide +kernel
theorem dX3_isWord_5 : decode cX3_isWord 5 = .ok (.if_icmp .ne 19, 3) := by decide +kernel
theorem dX3_isWord_8 : decode cX3_isWord 8 = .ok (.aload_n 0, 1) := by decide +kernel
theorem dX3_isWord_9 : decode cX3_isWord 9 = .ok (.getfield 292, 3) := by decide +kernel
theorem dX3_isWord_12 : decode cX3_isWord 12 = .ok (.aload_n 0, 1) := by decide +kernel
theorem dX3_isWord_13 : decode cX3_isWord 13 = .ok (.getfield 295, 3) := by decide +kernel
theorem dX3_isWord_16 : decode cX3_isWord 16 = .ok (.isub, 1) := by decide +kernel
theorem dX3_isWord_17 : decode cX3_isWord 17 = .ok (.aload_n 1, 1) := by decide +kernel
theorem dX3_isWord_18 : decode cX3_isWord 18 = .ok (.invokevirtual 298, 3) := by decide +kernel
theorem dX3_isWord_21 : decode cX3_isWord 21 = .ok (.if_icmp .eq 5, 3) := by decide +kernel
theorem dX3_isWord_24 : decode cX3_isWord 24 = .ok (.iconst 0, 1) := by decide +kernel
theorem dX3_isWord_25 : decode cX3_isWord 25 = .ok (.ireturn, 1) := by decide +kernel
theorem dX3_isWord_26 : decode cX3_isWord 26 = .ok (.iconst 0, 1) := by decide +kernel
theorem dX3_isWord_27 : decode cX3_isWord 27 = .ok (.istore_n 2, 1) := by decide +kernel
theorem dX3_isWord_28 : decode cX3_isWord 28 = .ok (.iload_n 2, 1) := by decide +kernel
theorem dX3_isWord_29 : decode cX3_isWord 29 = .ok (.aload_n 1, 1) := by decide +kernel
theorem dX3_isWord_30 : decode cX3_isWord 30 = .ok (.invokevirtual 298, 3) := by decide +kernel
theorem dX3_isWord_33 : decode cX3_isWord 33 = .ok (.if_icmp .ge 30, 3) := by decide +kernel
theorem dX3_isWord_36 : decode cX3_isWord 36 = .ok (.aload_n 0, 1) := by decide +kernel
theorem dX3_isWord_37 : decode cX3_isWord 37 = .ok (.getfield 15, 3) := by decide +kernel
theorem dX3_isWord_40 : decode cX3_isWord 40 = .ok (.aload_n 0, 1) := by decide +kernel
theorem dX3_isWord_41 : decode cX3_isWord 41 = .ok (.getfield 295, 3) := by decide +kernel
theorem dX3_isWord_44 : decode cX3_isWord 44 = .ok (.iload_n 2, 1) := by decide +kernel
theorem dX3_isWord_45 : decode cX3_isWord 45 = .ok (.iadd, 1) := by decide +kernel
theorem dX3_isWord_46 : decode cX3_isWord 46 = .ok (.baload, 1) := by decide +kernel
theorem dX3_isWord_47 : decode cX3_isWord 47 = .ok (.aload_n 1, 1) := by decide +kernel
theorem dX3_isWord_48 : decode cX3_isWord 48 = .ok (.iload_n 2, 1) := by decide +kernel
theorem dX3_isWord_49 : decode cX3_isWord 49 = .ok (.invokevirtual 302, 3) := by decide +kernel
theorem dX3_isWord_52 : decode cX3_isWord 52 = .ok (.if_icmp .eq 5, 3) := by decide +kernel
theorem dX3_isWord_55 : decode cX3_isWord 55 = .ok (.iconst 0, 1) := by decide +kernel
theorem dX3_isWord_56 : decode cX3_isWord 56 = .ok (.ireturn, 1) := by decide +kernel
theorem dX3_isWord_57 : decode cX3_isWord 57 = .ok (.iinc 2 1, 3) := by decide +kernel
theorem dX3_isWord_60 : decode cX3_isWord 60 = .ok (.goto (-32), 3) := by decide +kernel
theorem dX3_isWord_63 : decode cX3_isWord 63 = .ok (.iconst 1, 1) := by decide +kernel
theorem dX3_isWord_64 : decode cX3_isWord 64 = .ok (.ireturn, 1) := by decide +kernel
theorem dX3_fail_0 : decode cX3_fail 0 = .ok (.aload_n 0, 1) := by decide +kernel
theorem dX3_fail_1 : decode cX3_fail 1 = .ok (.getfield 56, 3) := by decide +kernel
theorem dX3_fail_4 : decode cX3_fail 4 = .ok (.ifCond .ne 16, 3) := by decide +kernel
theorem dX3_fail_7 : decode cX3_fail 7 = .ok (.aload_n 0, 1) := by decide +kernel
theorem dX3_fail_8 : decode cX3_fail 8 = .ok (.iload_n 1, 1) := by decide +kernel
theorem dX3_fail_9 : decode cX3_fail 9 = .ok (.putfield 56, 3) := by decide +kernel
theorem dX3_fail_12 : decode cX3_fail 12 = .ok (.aload_n 0, 1) := by decide +kernel
theorem dX3_fail_13 : decode cX3_fail 13 = .ok (.aload_n 0, 1) := by decide +kernel
theorem dX3_fail_14 : decode cX3_fail 14 = .ok (.getfield 295, 3) := by decide +kernel
theorem dX3_fail_17 : decode cX3_fail 17 = .ok (.putfield 9, 3) := by decide +kernel
theorem dX3_fail_20 : decode cX3_fail 20 = .ok (.return_, 1) := by decide +kernel
theorem dX3_nextToken_0 : decode cX3_nextToken 0 = .ok (.aload_n 0, 1) := by decide +kernel
theorem dX3_nextToken_1 : decode cX3_nextToken 1 = .ok (.aload_n 0, 1) := by decide +kernel
theorem dX3_nextToken_2 : decode cX3_nextToken 2 = .ok (.getfield 292, 3) := by decide +kernel
theorem dX3_nextToken_5 : decode cX3_nextToken 5 = .ok (.putfield 295, 3) := by decide +kernel
theorem dX3_nextToken_8 : decode cX3_nextToken 8 = .ok (.aload_n 0, 1) := by decide +kernel
theorem dX3_nextToken_9 : decode cX3_nextToken 9 = .ok (.getfield 295, 3) := by decide +kernel
theorem dX3_nextToken_12 : decode cX3_nextToken 12 = .ok (.aload_n 0, 1) := by decide +kernel
theorem dX3_nextToken_13 : decode cX3_nextToken 13 = .ok (.getfield 19, 3) := by decide +kernel
theorem dX3_nextToken_16 : decode cX3_nextToken 16 = .ok (.if_icmp .ge 30, 3) := by decide +kernel
theorem dX3_nextToken_19 : decode cX3_nextToken 19 = .ok (.aload_n 0, 1) := by decide +kernel
theorem dX3_nextToken_20 : decode cX3_nextToken 20 = .ok (.getfield 15, 3) := by decide +kernel
theorem dX3_nextToken_23 : decode cX3_nextToken 23 = .ok (.aload_n 0, 1) := by decide +kernel
theorem dX3_nextToken_24 : decode cX3_nextToken 24 = .ok (.getfield 295, 3) := by decide +kernel
theorem dX3_nextToken_27 : decode cX3_nextToken 27 = .ok (.baload, 1) := by decide +kernel
theorem dX3_nextToken_28 : decode cX3_nextToken 28 = .ok (.bipush 32, 2) := by decide +kernel
theorem dX3_nextToken_30 : decode cX3_nextToken 30 = .ok (.if_icmp .ne 16, 3) := by decide +kernel
theorem dX3_nextToken_33 : decode cX3_nextToken 33 = .ok (.aload_n 0, 1) := by decide +kernel
theorem dX3_nextToken_34 : decode cX3_nextToken 34 = .ok (.dup, 1) := by decide +kernel
theorem dX3_nextToken_35 : decode cX3_nextToken 35 = .ok (.getfield 295, 3) := by decide +kernel
theorem dX3_nextToken_38 : decode cX3_nextToken 38 = .ok (.iconst 1, 1) := by decide +kernel
theorem dX3_nextToken_39 : decode cX3_nextToken 39 = .ok (.iadd, 1) := by decide +kernel
theorem dX3_nextToken_40 : decode cX3_nextToken 40 = .ok (.putfield 295, 3) := by decide +kernel
theorem dX3_nextToken_43 : decode cX3_nextToken 43 = .ok (.goto (-35), 3) := by decide +kernel
theorem dX3_nextToken_46 : decode cX3_nextToken 46 = .ok (.aload_n 0, 1) := by decide +kernel
theorem dX3_nextToken_47 : decode cX3_nextToken 47 = .ok (.bipush 97, 2) := by decide +kernel
theorem dX3_nextToken_49 : decode cX3_nextToken 49 = .ok (.bipush 122, 2) := by decide +kernel
theorem dX3_nextToken_51 : decode cX3_nextToken 51 = .ok (.invokevirtual 306, 3) := by decide +kernel
theorem dX3_nextToken_54 : decode cX3_nextToken 54 = .ok (.istore_n 1, 1) := by decide +kernel
theorem dX3_nextToken_55 : decode cX3_nextToken 55 = .ok (.aload_n 0, 1) := by decide +kernel
theorem dX3_nextToken_56 : decode cX3_nextToken 56 = .ok (.bipush 48, 2) := by decide +kernel
theorem dX3_nextToken_58 : decode cX3_nextToken 58 = .ok (.bipush 57, 2) := by decide +kernel
theorem dX3_nextToken_60 : decode cX3_nextToken 60 = .ok (.invokevirtual 306, 3) := by decide +kernel
theorem dX3_nextToken_63 : decode cX3_nextToken 63 = .ok (.istore_n 2, 1) := by decide +kernel
theorem dX3_nextToken_64 : decode cX3_nextToken 64 = .ok (.aload_n 0, 1) := by decide +kernel
theorem dX3_nextToken_65 : decode cX3_nextToken 65 = .ok (.getfield 295, 3) := by decide +kernel
theorem dX3_nextToken_68 : decode cX3_nextToken 68 = .ok (.aload_n 0, 1) := by decide +kernel
theorem dX3_nextToken_69 : decode cX3_nextToken 69 = .ok (.getfield 19, 3) := by decide +kernel
theorem dX3_nextToken_72 : decode cX3_nextToken 72 = .ok (.if_icmp .lt 19, 3) := by decide +kernel
theorem dX3_nextToken_75 : decode cX3_nextToken 75 = .ok (.aload_n 0, 1) := by decide +kernel
theorem dX3_nextToken_76 : decode cX3_nextToken 76 = .ok (.iconst 0, 1) := by decide +kernel
theorem dX3_nextToken_77 : decode cX3_nextToken 77 = .ok (.putfield 59, 3) := by decide +kernel
theorem dX3_nextToken_80 : decode cX3_nextToken 80 = .ok (.aload_n 0, 1) := by decide +kernel
theorem dX3_nextToken_81 : decode cX3_nextToken 81 = .ok (.aload_n 0, 1) := by decide +kernel
theorem dX3_nextToken_82 : decode cX3_nextToken 82 = .ok (.getfield 19, 3) := by decide +kernel
theorem dX3_nextToken_85 : decode cX3_nextToken 85 = .ok (.putfield 292, 3) := by decide +kernel
theorem dX3_nextToken_88 : decode cX3_nextToken 88 = .ok (.goto 109, 3) := by decide +kernel
theorem dX3_nextToken_91 : decode cX3_nextToken 91 = .ok (.iload_n 1, 1) := by decide +kernel
theorem dX3_nextToken_92 : decode cX3_nextToken 92 = .ok (.ifCond .le 31, 3) := by decide +kernel
theorem dX3_nextToken_95 : decode cX3_nextToken 95 = .ok (.aload_n 0, 1) := by decide +kernel
theorem dX3_nextToken_96 : decode cX3_nextToken 96 = .ok (.iload_n 1, 1) := by decide +kernel
theorem dX3_nextToken_97 : decode cX3_nextToken 97 = .ok (.bipush 8, 2) := by decide +kernel
theorem dX3_nextToken_99 : decode cX3_nextToken 99 = .ok (.if_icmp .le 7, 3) := by decide +kernel
theorem dX3_nextToken_102 : decode cX3_nextToken 102 = .ok (.iconst 5, 1) := by decide +kernel
theorem dX3_nextToken_103 : decode cX3_nextToken 103 = .ok (.goto 4, 3) := by decide +kernel
theorem dX3_nextToken_106 : decode cX3_nextToken 106 = .ok (.iconst 1, 1) := by decide +kernel
theorem dX3_nextToken_107 : decode cX3_nextToken 107 = .ok (.putfield 59, 3) := by decide +kernel
theorem dX3_nextToken_110 : decode cX3_nextToken 110 = .ok (.aload_n 0, 1) := by decide +kernel
theorem dX3_nextToken_111 : decode cX3_nextToken 111 = .ok (.aload_n 0, 1) := by decide +kernel
theorem dX3_nextToken_112 : decode cX3_nextToken 112 = .ok (.getfield 295, 3) := by decide +kernel
theorem dX3_nextToken_115 : decode cX3_nextToken 115 = .ok (.iload_n 1, 1) := by decide +kernel
theorem dX3_nextToken_116 : decode cX3_nextToken 116 = .ok (.iadd, 1) := by decide +kernel
theorem dX3_nextToken_117 : decode cX3_nextToken 117 = .ok (.putfield 292, 3) := by decide +kernel
theorem dX3_nextToken_120 : decode cX3_nextToken 120 = .ok (.goto 77, 3) := by decide +kernel
theorem dX3_nextToken_123 : decode cX3_nextToken 123 = .ok (.iload_n 2, 1) := by decide +kernel
theorem dX3_nextToken_124 : decode cX3_nextToken 124 = .ok (.ifCond .le 47, 3) := by decide +kernel
theorem dX3_nextToken_127 : decode cX3_nextToken 127 = .ok (.aload_n 0, 1) := by decide +kernel
theorem dX3_nextToken_128 : decode cX3_nextToken 128 = .ok (.iload_n 2, 1) := by decide +kernel
theorem dX3_nextToken_129 : decode cX3_nextToken 129 = .ok (.iconst 4, 1) := by decide +kernel
theorem dX3_nextToken_130 : decode cX3_nextToken 130 = .ok (.if_icmp .le 7, 3) := by decide +kernel
theorem dX3_nextToken_133 : decode cX3_nextToken 133 = .ok (.iconst 5, 1) := by decide +kernel
theorem dX3_nextToken_134 : decode cX3_nextToken 134 = .ok (.goto 4, 3) := by decide +kernel
theorem dX3_nextToken_137 : decode cX3_nextToken 137 = .ok (.iconst 2, 1) := by decide +kernel
theorem dX3_nextToken_138 : decode cX3_nextToken 138 = .ok (.putfield 59, 3) := by decide +kernel
theorem dX3_nextToken_141 : decode cX3_nextToken 141 = .ok (.aload_n 0, 1) := by decide +kernel
theorem dX3_nextToken_142 : decode cX3_nextToken 142 = .ok (.aload_n 0, 1) := by decide +kernel
theorem dX3_nextToken_143 : decode cX3_nextToken 143 = .ok (.getfield 295, 3) := by decide +kernel
theorem dX3_nextToken_146 : decode cX3_nextToken 146 = .ok (.iload_n 2, 1) := by decide +kernel
theorem dX3_nextToken_147 : decode cX3_nextToken 147 = .ok (.iadd, 1) := by decide +kernel
theorem dX3_nextToken_148 : decode cX3_nextToken 148 = .ok (.putfield 292, 3) := by decide +kernel
theorem dX3_nextToken_151 : decode cX3_nextToken 151 = .ok (.aload_n 0, 1) := by decide +kernel
theorem dX3_nextToken_152 : decode cX3_nextToken 152 = .ok (.iload_n 2, 1) := by decide +kernel
theorem dX3_nextToken_153 : decode cX3_nextToken 153 = .ok (.iconst 4, 1) := by decide +kernel
theorem dX3_nextToken_154 : decode cX3_nextToken 154 = .ok (.if_icmp .le 7, 3) := by decide +kernel
theorem dX3_nextToken_157 : decode cX3_nextToken 157 = .ok (.iconst (-1), 1) := by decide +kernel
theorem dX3_nextToken_158 : decode cX3_nextToken 158 = .ok (.goto 7, 3) := by decide +kernel
theorem dX3_nextToken_161 : decode cX3_nextToken 161 = .ok (.aload_n 0, 1) := by decide +kernel
theorem dX3_nextToken_162 : decode cX3_nextToken 162 = .ok (.invokevirtual 310, 3) := by decide +kernel
theorem dX3_nextToken_165 : decode cX3_nextToken 165 = .ok (.putfield 281, 3) := by decide +kernel
theorem dX3_nextToken_168 : decode cX3_nextToken 168 = .ok (.goto 29, 3) := by decide +kernel
theorem dX3_nextToken_171 : decode cX3_nextToken 171 = .ok (.aload_n 0, 1) := by decide +kernel
theorem dX3_nextToken_172 : decode cX3_nextToken 172 = .ok (.aload_n 0, 1) := by decide +kernel
theorem dX3_nextToken_173 : decode cX3_nextToken 173 = .ok (.getfield 15, 3) := by decide +kernel
theorem dX3_nextToken_176 : decode cX3_nextToken 176 = .ok (.aload_n 0, 1) := by decide +kernel
theorem dX3_nextToken_177 : decode cX3_nextToken 177 = .ok (.getfield 295, 3) := by decide +kernel
theorem dX3_nextToken_180 : decode cX3_nextToken 180 = .ok (.baload, 1) := by decide +kernel
theorem dX3_nextToken_181 : decode cX3_nextToken 181 = .ok (.invokestatic 313, 3) := by decide +kernel
theorem dX3_nextToken_184 : decode cX3_nextToken 184 = .ok (.putfield 59, 3) := by decide +kernel
theorem dX3_nextToken_187 : decode cX3_nextToken 187 = .ok (.aload_n 0, 1) := by decide +kernel
theorem dX3_nextToken_188 : decode cX3_nextToken 188 = .ok (.aload_n 0, 1) := by decide +kernel
theorem dX3_nextToken_189 : decode cX3_nextToken 189 = .ok (.getfield 295, 3) := by decide +kernel
theorem dX3_nextToken_192 : decode cX3_nextToken 192 = .ok (.iconst 1, 1) := by decide +kernel
theorem dX3_nextToken_193 : decode cX3_nextToken 193 = .ok (.iadd, 1) := by decide +kernel
theorem dX3_nextToken_194 : decode cX3_nextToken 194 = .ok (.putfield 292, 3) := by decide +kernel
theorem dX3_nextToken_197 : decode cX3_nextToken 197 = .ok (.return_, 1) := by decide +kernel
theorem dX3_countRun_0 : decode cX3_countRun 0 = .ok (.aload_n 0, 1) := by decide +kernel
theorem dX3_countRun_1 : decode cX3_countRun 1 = .ok (.getfield 295, 3) := by decide +kernel
theorem dX3_countRun_4 : decode cX3_countRun 4 = .ok (.istore_n 3, 1) := by decide +kernel
theorem dX3_countRun_5 : decode cX3_countRun 5 = .ok (.iload_n 3, 1) := by decide +kernel
theorem dX3_countRun_6 : decode cX3_countRun 6 = .ok (.aload_n 0, 1) := by decide +kernel
theorem dX3_countRun_7 : decode cX3_countRun 7 = .ok (.getfield 19, 3) := by decide +kernel
theorem dX3_countRun_10 : decode cX3_countRun 10 = .ok (.if_icmp .ge 29, 3) := by decide +kernel
theorem dX3_countRun_13 : decode cX3_countRun 13 = .ok (.aload_n 0, 1) := by decide +kernel
theorem dX3_countRun_14 : decode cX3_countRun 14 = .ok (.getfield 15, 3) := by decide +kernel
theorem dX3_countRun_17 : decode cX3_countRun 17 = .ok (.iload_n 3, 1) := by decide +kernel
theorem dX3_countRun_18 : decode cX3_countRun 18 = .ok (.baload, 1) := by decide +kernel
theorem dX3_countRun_19 : decode cX3_countRun 19 = .ok (.iload_n 1, 1) := by decide +kernel
theorem dX3_countRun_20 : decode cX3_countRun 20 = .ok (.if_icmp .lt 19, 3) := by decide +kernel
theorem dX3_countRun_23 : decode cX3_countRun 23 = .ok (.aload_n 0, 1) := by decide +kernel
theorem dX3_countRun_24 : decode cX3_countRun 24 = .ok (.getfield 15, 3) := by decide +kernel
theorem dX3_countRun_27 : decode cX3_countRun 27 = .ok (.iload_n 3, 1) := by decide +kernel
theorem dX3_countRun_28 : decode cX3_countRun 28 = .ok (.baload, 1) := by decide +kernel
theorem dX3_countRun_29 : decode cX3_countRun 29 = .ok (.iload_n 2, 1) := by decide +kernel
theorem dX3_countRun_30 : decode cX3_countRun 30 = .ok (.if_icmp .gt 9, 3) := by decide +kernel
theorem dX3_countRun_33 : decode cX3_countRun 33 = .ok (.iinc 3 1, 3) := by decide +kernel
theorem dX3_countRun_36 : decode cX3_countRun 36 = .ok (.goto (-31), 3) := by decide +kernel
theorem dX3_countRun_39 : decode cX3_countRun 39 = .ok (.iload_n 3, 1) := by decide +kernel
theorem dX3_countRun_40 : decode cX3_countRun 40 = .ok (.aload_n 0, 1) := by decide +kernel
theorem dX3_countRun_41 : decode cX3_countRun 41 = .ok (.getfield 295, 3) := by decide +kernel
theorem dX3_countRun_44 : decode cX3_countRun 44 = .ok (.isub, 1) := by decide +kernel
theorem dX3_countRun_45 : decode cX3_countRun 45 = .ok (.ireturn, 1) := by decide +kernel
theorem dX3_numberAtStart_0 : decode cX3_numberAtStart 0 = .ok (.iconst 0, 1) := by decide +kernel
theorem dX3_numberAtStart_1 : decode cX3_numberAtStart 1 = .ok (.istore_n 1, 1) := by decide +kernel
theorem dX3_numberAtStart_2 : decode cX3_numberAtStart 2 = .ok (.aload_n 0, 1) := by decide +kernel
theorem dX3_numberAtStart_3 : decode cX3_numberAtStart 3 = .ok (.getfield 295, 3) := by decide +kernel
theorem dX3_numberAtStart_6 : decode cX3_numberAtStart 6 = .ok (.istore_n 2, 1) := by decide +kernel
theorem dX3_numberAtStart_7 : decode cX3_numberAtStart 7 = .ok (.iload_n 2, 1) := by decide +kernel
theorem dX3_numberAtStart_8 : decode cX3_numberAtStart 8 = .ok (.aload_n 0, 1) := by decide +kernel
theorem dX3_numberAtStart_9 : decode cX3_numberAtStart 9 = .ok (.getfield 292, 3) := by decide +kernel
theorem dX3_numberAtStart_12 : decode cX3_numberAtStart 12 = .ok (.if_icmp .ge 24, 3) := by decide +kernel
theorem dX3_numberAtStart_15 : decode cX3_numberAtStart 15 = .ok (.bipush 10, 2) := by decide +kernel
theorem dX3_numberAtStart_17 : decode cX3_numberAtStart 17 = .ok (.iload_n 1, 1) := by decide +kernel
theorem dX3_numberAtStart_18 : decode cX3_numberAtStart 18 = .ok (.imul, 1) := by decide +kernel
theorem dX3_numberAtStart_19 : decode cX3_numberAtStart 19 = .ok (.aload_n 0, 1) := by decide +kernel
theorem dX3_numberAtStart_20 : decode cX3_numberAtStart 20 = .ok (.getfield 15, 3) := by decide +kernel
theorem dX3_numberAtStart_23 : decode cX3_numberAtStart 23 = .ok (.iload_n 2, 1) := by decide +kernel
theorem dX3_numberAtStart_24 : decode cX3_numberAtStart 24 = .ok (.baload, 1) := by decide +kernel
theorem dX3_numberAtStart_25 : decode cX3_numberAtStart 25 = .ok (.iadd, 1) := by decide +kernel
theorem dX3_numberAtStart_26 : decode cX3_numberAtStart 26 = .ok (.bipush 48, 2) := by decide +kernel
theorem dX3_numberAtStart_28 : decode cX3_numberAtStart 28 = .ok (.isub, 1) := by decide +kernel
theorem dX3_numberAtStart_29 : decode cX3_numberAtStart 29 = .ok (.istore_n 1, 1) := by decide +kernel
theorem dX3_numberAtStart_30 : decode cX3_numberAtStart 30 = .ok (.iinc 2 1, 3) := by decide +kernel
theorem dX3_numberAtStart_33 : decode cX3_numberAtStart 33 = .ok (.goto (-26), 3) := by decide +kernel
theorem dX3_numberAtStart_36 : decode cX3_numberAtStart 36 = .ok (.iload_n 1, 1) := by decide +kernel
theorem dX3_numberAtStart_37 : decode cX3_numberAtStart 37 = .ok (.ireturn, 1) := by decide +kernel
theorem dX3_kindOfSign_0 : decode cX3_kindOfSign 0 = .ok (.iload_n 0, 1) := by decide +kernel
theorem dX3_kindOfSign_1 : decode cX3_kindOfSign 1 = .ok (.bipush 45, 2) := by decide +kernel
theorem dX3_kindOfSign_3 : decode cX3_kindOfSign 3 = .ok (.if_icmp .ne 5, 3) := by decide +kernel
theorem dX3_kindOfSign_6 : decode cX3_kindOfSign 6 = .ok (.iconst 3, 1) := by decide +kernel
theorem dX3_kindOfSign_7 : decode cX3_kindOfSign 7 = .ok (.ireturn, 1) := by decide +kernel
theorem dX3_kindOfSign_8 : decode cX3_kindOfSign 8 = .ok (.iload_n 0, 1) := by decide +kernel
theorem dX3_kindOfSign_9 : decode cX3_kindOfSign 9 = .ok (.bipush 59, 2) := by decide +kernel
theorem dX3_kindOfSign_11 : decode cX3_kindOfSign 11 = .ok (.if_icmp .ne 7, 3) := by decide +kernel
theorem dX3_kindOfSign_14 : decode cX3_kindOfSign 14 = .ok (.iconst 4, 1) := by decide +kernel
theorem dX3_kindOfSign_15 : decode cX3_kindOfSign 15 = .ok (.goto 4, 3) := by decide +kernel
theorem dX3_kindOfSign_18 : decode cX3_kindOfSign 18 = .ok (.iconst 5, 1) := by decide +kernel
theorem dX3_kindOfSign_19 : decode cX3_kindOfSign 19 = .ok (.ireturn, 1) := by decide +kernel
theorem dX4_init_0 : decode cX4_init 0 = .ok (.aload_n 0, 1) := by decide +kernel
theorem dX4_init_1 : decode cX4_init 1 = .ok (.invokespecial 3, 3) := by decide +kernel
theorem dX4_init_4 : decode cX4_init 4 = .ok (.aload_n 0, 1) := by decide +kernel
theorem dX4_init_5 : decode cX4_init 5 = .ok (.sipush 640, 3) := by decide +kernel
theorem dX4_init_8 : decode cX4_init 8 = .ok (.newarray .int, 2) := by decide +kernel
theorem dX4_init_10 : decode cX4_init 10 = .ok (.putfield 11, 3) := by decide +kernel
theorem dX4_init_13 : decode cX4_init 13 = .ok (.iconst 0, 1) := by decide +kernel
theorem dX4_init_14 : decode cX4_init 14 = .ok (.istore_n 1, 1) := by decide +kernel
theorem dX4_init_15 : decode cX4_init 15 = .ok (.iload_n 1, 1) := by decide +kernel
theorem dX4_init_16 : decode cX4_init 16 = .ok (.bipush 32, 2) := by decide +kernel
theorem dX4_init_18 : decode cX4_init 18 = .ok (.if_icmp .ge 48, 3) := by decide +kernel
theorem dX4_init_21 : decode cX4_init 21 = .ok (.iconst 0, 1) := by decide +kernel
theorem dX4_init_22 : decode cX4_init 22 = .ok (.istore_n 2, 1) := by decide +kernel
theorem dX4_init_23 : decode cX4_init 23 = .ok (.iload_n 2, 1) := by decide +kernel
theorem dX4_init_24 : decode cX4_init 24 = .ok (.bipush 20, 2) := by decide +kernel
theorem dX4_init_26 : decode cX4_init 26 = .ok (.if_icmp .ge 34, 3) := by decide +kernel
theorem dX4_init_29 : decode cX4_init 29 = .ok (.aload_n 0, 1) := by decide +kernel
theorem dX4_init_30 : decode cX4_init 30 = .ok (.getfield 11, 3) := by decide +kernel
theorem dX4_init_33 : decode cX4_init 33 = .ok (.iload_n 1, 1) := by decide +kernel
theorem dX4_init_34 : decode cX4_init 34 = .ok (.bipush 20, 2) := by decide +kernel
theorem dX4_init_36 : decode cX4_init 36 = .ok (.imul, 1) := by decide +kernel
theorem dX4_init_37 : decode cX4_init 37 = .ok (.iload_n 2, 1) := by decide +kernel
theorem dX4_init_38 : decode cX4_init 38 = .ok (.iadd, 1) := by decide +kernel
theorem dX4_init_39 : decode cX4_init 39 = .ok (.sipush 10000, 3) := by decide +kernel
theorem dX4_init_42 : decode cX4_init 42 = .ok (.iload_n 1, 1) := by decide +kernel
theorem dX4_init_43 : decode cX4_init 43 = .ok (.iload_n 1, 1) := by decide +kernel
theorem dX4_init_44 : decode cX4_init 44 = .ok (.imul, 1) := by decide +kernel
theorem dX4_init_45 : decode cX4_init 45 = .ok (.iload_n 2, 1) := by decide +kernel
theorem dX4_init_46 : decode cX4_init 46 = .ok (.iload_n 2, 1) := by decide +kernel
theorem dX4_init_47 : decode cX4_init 47 = .ok (.imul, 1) := by decide +kernel
theorem dX4_init_48 : decode cX4_init 48 = .ok (.iadd, 1) := by decide +kernel
theorem dX4_init_49 : decode cX4_init 49 = .ok (.imul, 1) := by decide +kernel
theorem dX4_init_50 : decode cX4_init 50 = .ok (.invokestatic 15, 3) := by decide +kernel
theorem dX4_init_53 : decode cX4_init 53 = .ok (.iastore, 1) := by decide +kernel
theorem dX4_init_54 : decode cX4_init 54 = .ok (.iinc 2 1, 3) := by decide +kernel
theorem dX4_init_57 : decode cX4_init 57 = .ok (.goto (-34), 3) := by decide +kernel
theorem dX4_init_60 : decode cX4_init 60 = .ok (.iinc 1 1, 3) := by decide +kernel
theorem dX4_init_63 : decode cX4_init 63 = .ok (.goto (-48), 3) := by decide +kernel
theorem dX4_init_66 : decode cX4_init 66 = .ok (.return_, 1) := by decide +kernel
theorem dX4_between_0 : decode cX4_between 0 = .ok (.aload_n 0, 1) := by decide +kernel
theorem dX4_between_1 : decode cX4_between 1 = .ok (.getfield 11, 3) := by decide +kernel
theorem dX4_between_4 : decode cX4_between 4 = .ok (.iload_n 1, 1) := by decide +kernel
theorem dX4_between_5 : decode cX4_between 5 = .ok (.invokestatic 19, 3) := by decide +kernel
theorem dX4_between_8 : decode cX4_between 8 = .ok (.bipush 20, 2) := by decide +kernel
theorem dX4_between_10 : decode cX4_between 10 = .ok (.imul, 1) := by decide +kernel
theorem dX4_between_11 : decode cX4_between 11 = .ok (.iload_n 2, 1) := by decide +kernel
theorem dX4_between_12 : decode cX4_between 12 = .ok (.invokestatic 19, 3) := by decide +kernel
theorem dX4_between_15 : decode cX4_between 15 = .ok (.iadd, 1) := by decide +kernel
theorem dX4_between_16 : decode cX4_between 16 = .ok (.iaload, 1) := by decide +kernel
theorem dX4_between_17 : decode cX4_between 17 = .ok (.ireturn, 1) := by decide +kernel
theorem dX4_root_0 : decode cX4_root 0 = .ok (.iconst 0, 1) := by decide +kernel
theorem dX4_root_1 : decode cX4_root 1 = .ok (.istore_n 1, 1) := by decide +kernel
theorem dX4_root_2 : decode cX4_root 2 = .ok (.sipush 2048, 3) := by decide +kernel
theorem dX4_root_5 : decode cX4_root 5 = .ok (.istore_n 2, 1) := by decide +kernel
theorem dX4_root_6 : decode cX4_root 6 = .ok (.iload_n 2, 1) := by decide +kernel
theorem dX4_root_7 : decode cX4_root 7 = .ok (.ifCond .le 25, 3) := by decide +kernel
theorem dX4_root_10 : decode cX4_root 10 = .ok (.iload_n 1, 1) := by decide +kernel
theorem dX4_root_11 : decode cX4_root 11 = .ok (.iload_n 2, 1) := by decide +kernel
theorem dX4_root_12 : decode cX4_root 12 = .ok (.iadd, 1) := by decide +kernel
theorem dX4_root_13 : decode cX4_root 13 = .ok (.iload_n 1, 1) := by decide +kernel
theorem dX4_root_14 : decode cX4_root 14 = .ok (.iload_n 2, 1) := by decide +kernel
theorem dX4_root_15 : decode cX4_root 15 = .ok (.iadd, 1) := by decide +kernel
theorem dX4_root_16 : decode cX4_root 16 = .ok (.imul, 1) := by decide +kernel
theorem dX4_root_17 : decode cX4_root 17 = .ok (.iload_n 0, 1) := by decide +kernel
theorem dX4_root_18 : decode cX4_root 18 = .ok (.if_icmp .gt 7, 3) := by decide +kernel
theorem dX4_root_21 : decode cX4_root 21 = .ok (.iload_n 1, 1) := by decide +kernel
theorem dX4_root_22 : decode cX4_root 22 = .ok (.iload_n 2, 1) := by decide +kernel
theorem dX4_root_23 : decode cX4_root 23 = .ok (.iadd, 1) := by decide +kernel
theorem dX4_root_24 : decode cX4_root 24 = .ok (.istore_n 1, 1) := by decide +kernel
theorem dX4_root_25 : decode cX4_root 25 = .ok (.iload_n 2, 1) := by decide +kernel
theorem dX4_root_26 : decode cX4_root 26 = .ok (.iconst 1, 1) := by decide +kernel
theorem dX4_root_27 : decode cX4_root 27 = .ok (.ishr, 1) := by decide +kernel
theorem dX4_root_28 : decode cX4_root 28 = .ok (.istore_n 2, 1) := by decide +kernel
theorem dX4_root_29 : decode cX4_root 29 = .ok (.goto (-23), 3) := by decide +kernel
theorem dX4_root_32 : decode cX4_root 32 = .ok (.iload_n 1, 1) := by decide +kernel
theorem dX4_root_33 : decode cX4_root 33 = .ok (.ireturn, 1) := by decide +kernel
theorem dX5_init_0 : decode cX5_init 0 = .ok (.aload_n 0, 1) := by decide +kernel
theorem dX5_init_1 : decode cX5_init 1 = .ok (.invokespecial 1, 3) := by decide +kernel
theorem dX5_init_4 : decode cX5_init 4 = .ok (.return_, 1) := by decide +kernel
theorem dX5_holds_0 : decode cX5_holds 0 = .ok (.iload_n 1, 1) := by decide +kernel
theorem dX5_holds_1 : decode cX5_holds 1 = .ok (.aload_n 0, 1) := by decide +kernel
theorem dX5_holds_2 : decode cX5_holds 2 = .ok (.getfield 7, 3) := by decide +kernel
theorem dX5_holds_5 : decode cX5_holds 5 = .ok (.if_icmp .lt 31, 3) := by decide +kernel
theorem dX5_holds_8 : decode cX5_holds 8 = .ok (.iload_n 1, 1) := by decide +kernel
theorem dX5_holds_9 : decode cX5_holds 9 = .ok (.aload_n 0, 1) := by decide +kernel
theorem dX5_holds_10 : decode cX5_holds 10 = .ok (.getfield 13, 3) := by decide +kernel
theorem dX5_holds_13 : decode cX5_holds 13 = .ok (.if_icmp .gt 23, 3) := by decide +kernel
theorem dX5_holds_16 : decode cX5_holds 16 = .ok (.iload_n 2, 1) := by decide +kernel
theorem dX5_holds_17 : decode cX5_holds 17 = .ok (.aload_n 0, 1) := by decide +kernel
theorem dX5_holds_18 : decode cX5_holds 18 = .ok (.getfield 16, 3) := by decide +kernel
theorem dX5_holds_21 : decode cX5_holds 21 = .ok (.if_icmp .lt 15, 3) := by decide +kernel
theorem dX5_holds_24 : decode cX5_holds 24 = .ok (.iload_n 2, 1) := by decide +kernel
theorem dX5_holds_25 : decode cX5_holds 25 = .ok (.aload_n 0, 1) := by decide +kernel
theorem dX5_holds_26 : decode cX5_holds 26 = .ok (.getfield 19, 3) := by decide +kernel
theorem dX5_holds_29 : decode cX5_holds 29 = .ok (.if_icmp .gt 7, 3) := by decide +kernel
theorem dX5_holds_32 : decode cX5_holds 32 = .ok (.iconst 1, 1) := by decide +kernel
theorem dX5_holds_33 : decode cX5_holds 33 = .ok (.goto 4, 3) := by decide +kernel
theorem dX5_holds_36 : decode cX5_holds 36 = .ok (.iconst 0, 1) := by decide +kernel
theorem dX5_holds_37 : decode cX5_holds 37 = .ok (.ireturn, 1) := by decide +kernel
theorem dX6_init_0 : decode cX6_init 0 = .ok (.aload_n 0, 1) := by decide +kernel
theorem dX6_init_1 : decode cX6_init 1 = .ok (.invokespecial 3, 3) := by decide +kernel
theorem dX6_init_4 : decode cX6_init 4 = .ok (.aload_n 0, 1) := by decide +kernel
theorem dX6_init_5 : decode cX6_init 5 = .ok (.iconst 4, 1) := by decide +kernel
theorem dX6_init_6 : decode cX6_init 6 = .ok (.newarray .boolean, 2) := by decide +kernel
theorem dX6_init_8 : decode cX6_init 8 = .ok (.putfield 9, 3) := by decide +kernel
