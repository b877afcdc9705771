theorem dX0_init_0 : decode cX0_init 0 = .ok (.aload_n 0, 1) := by decide +kernel
theorem dX0_init_1 : decode cX0_init 1 = .ok (.invokespecial 1, 3) := by decide +kernel
theorem dX0_init_4 : decode cX0_init 4 = .ok (.aload_n 0, 1) := by decide +kernel
theorem dX0_init_5 : decode cX0_init 5 = .ok (.bipush 8, 2) := by decide +kernel
theorem dX0_init_7 : decode cX0_init 7 = .ok (.anewarray 9, 3) := by decide +kernel
theorem dX0_init_10 : decode cX0_init 10 = .ok (.putfield 11, 3) := by decide +kernel
theorem dX0_init_13 : decode cX0_init 13 = .ok (.iconst 0, 1) := by decide +kernel
theorem dX0_init_14 : decode cX0_init 14 = .ok (.istore_n 1, 1) := by decide +kernel
theorem dX0_init_15 : decode cX0_init 15 = .ok (.iload_n 1, 1) := by decide +kernel
theorem dX0_init_16 : decode cX0_init 16 = .ok (.bipush 8, 2) := by decide +kernel
theorem dX0_init_18 : decode cX0_init 18 = .ok (.if_icmp .ge 22, 3) := by decide +kernel
theorem dX0_init_21 : decode cX0_init 21 = .ok (.aload_n 0, 1) := by decide +kernel
theorem dX0_init_22 : decode cX0_init 22 = .ok (.getfield 11, 3) := by decide +kernel
theorem dX0_init_25 : decode cX0_init 25 = .ok (.iload_n 1, 1) := by decide +kernel
theorem dX0_init_26 : decode cX0_init 26 = .ok (.new 9, 3) := by decide +kernel
theorem dX0_init_29 : decode cX0_init 29 = .ok (.dup, 1) := by decide +kernel
theorem dX0_init_30 : decode cX0_init 30 = .ok (.invokespecial 15, 3) := by decide +kernel
theorem dX0_init_33 : decode cX0_init 33 = .ok (.aastore, 1) := by decide +kernel
theorem dX0_init_34 : decode cX0_init 34 = .ok (.iinc 1 1, 3) := by decide +kernel
theorem dX0_init_37 : decode cX0_init 37 = .ok (.goto (-22), 3) := by decide +kernel
theorem dX0_init_40 : decode cX0_init 40 = .ok (.return_, 1) := by decide +kernel
theorem dX0_clear_0 : decode cX0_clear 0 = .ok (.aload_n 0, 1) := by decide +kernel
theorem dX0_clear_1 : decode cX0_clear 1 = .ok (.iconst 0, 1) := by decide +kernel
theorem dX0_clear_2 : decode cX0_clear 2 = .ok (.putfield 16, 3) := by decide +kernel
theorem dX0_clear_5 : decode cX0_clear 5 = .ok (.return_, 1) := by decide +kernel
theorem dX0_keep_0 : decode cX0_keep 0 = .ok (.aload_n 0, 1) := by decide +kernel
theorem dX0_keep_1 : decode cX0_keep 1 = .ok (.getfield 11, 3) := by decide +kernel
theorem dX0_keep_4 : decode cX0_keep 4 = .ok (.aload_n 0, 1) := by decide +kernel
theorem dX0_keep_5 : decode cX0_keep 5 = .ok (.getfield 20, 3) := by decide +kernel
theorem dX0_keep_8 : decode cX0_keep 8 = .ok (.aload_n 0, 1) := by decide +kernel
theorem dX0_keep_9 : decode cX0_keep 9 = .ok (.getfield 16, 3) := by decide +kernel
theorem dX0_keep_12 : decode cX0_keep 12 = .ok (.iadd, 1) := by decide +kernel
theorem dX0_keep_13 : decode cX0_keep 13 = .ok (.bipush 8, 2) := by decide +kernel
theorem dX0_keep_15 : decode cX0_keep 15 = .ok (.irem, 1) := by decide +kernel
theorem dX0_keep_16 : decode cX0_keep 16 = .ok (.aaload, 1) := by decide +kernel
theorem dX0_keep_17 : decode cX0_keep 17 = .ok (.aload_n 1, 1) := by decide +kernel
theorem dX0_keep_18 : decode cX0_keep 18 = .ok (.invokevirtual 23, 3) := by decide +kernel
theorem dX0_keep_21 : decode cX0_keep 21 = .ok (.aload_n 0, 1) := by decide +kernel
theorem dX0_keep_22 : decode cX0_keep 22 = .ok (.getfield 16, 3) := by decide +kernel
theorem dX0_keep_25 : decode cX0_keep 25 = .ok (.bipush 8, 2) := by decide +kernel
theorem dX0_keep_27 : decode cX0_keep 27 = .ok (.if_icmp .ge 16, 3) := by decide +kernel
theorem dX0_keep_30 : decode cX0_keep 30 = .ok (.aload_n 0, 1) := by decide +kernel
theorem dX0_keep_31 : decode cX0_keep 31 = .ok (.dup, 1) := by decide +kernel
theorem dX0_keep_32 : decode cX0_keep 32 = .ok (.getfield 16, 3) := by decide +kernel
theorem dX0_keep_35 : decode cX0_keep 35 = .ok (.iconst 1, 1) := by decide +kernel
theorem dX0_keep_36 : decode cX0_keep 36 = .ok (.iadd, 1) := by decide +kernel
theorem dX0_keep_37 : decode cX0_keep 37 = .ok (.putfield 16, 3) := by decide +kernel
theorem dX0_keep_40 : decode cX0_keep 40 = .ok (.goto 16, 3) := by decide +kernel
theorem dX0_keep_43 : decode cX0_keep 43 = .ok (.aload_n 0, 1) := by decide +kernel
theorem dX0_keep_44 : decode cX0_keep 44 = .ok (.aload_n 0, 1) := by decide +kernel
theorem dX0_keep_45 : decode cX0_keep 45 = .ok (.getfield 20, 3) := by decide +kernel
theorem dX0_keep_48 : decode cX0_keep 48 = .ok (.iconst 1, 1) := by decide +kernel
theorem dX0_keep_49 : decode cX0_keep 49 = .ok (.iadd, 1) := by decide +kernel
theorem dX0_keep_50 : decode cX0_keep 50 = .ok (.bipush 8, 2) := by decide +kernel
theorem dX0_keep_52 : decode cX0_keep 52 = .ok (.irem, 1) := by decide +kernel
theorem dX0_keep_53 : decode cX0_keep 53 = .ok (.putfield 20, 3) := by decide +kernel
theorem dX0_keep_56 : decode cX0_keep 56 = .ok (.return_, 1) := by decide +kernel
theorem dX0_takeBack_0 : decode cX0_takeBack 0 = .ok (.aload_n 0, 1) := by decide +kernel
theorem dX0_takeBack_1 : decode cX0_takeBack 1 = .ok (.getfield 16, 3) := by decide +kernel
theorem dX0_takeBack_4 : decode cX0_takeBack 4 = .ok (.ifCond .le 34, 3) := by decide +kernel
theorem dX0_takeBack_7 : decode cX0_takeBack 7 = .ok (.aload_n 0, 1) := by decide +kernel
theorem dX0_takeBack_8 : decode cX0_takeBack 8 = .ok (.dup, 1) := by decide +kernel
theorem dX0_takeBack_9 : decode cX0_takeBack 9 = .ok (.getfield 16, 3) := by decide +kernel
theorem dX0_takeBack_12 : decode cX0_takeBack 12 = .ok (.iconst 1, 1) := by decide +kernel
theorem dX0_takeBack_13 : decode cX0_takeBack 13 = .ok (.isub, 1) := by decide +kernel
theorem dX0_takeBack_14 : decode cX0_takeBack 14 = .ok (.putfield 16, 3) := by decide +kernel
theorem dX0_takeBack_17 : decode cX0_takeBack 17 = .ok (.aload_n 1, 1) := by decide +kernel
theorem dX0_takeBack_18 : decode cX0_takeBack 18 = .ok (.aload_n 0, 1) := by decide +kernel
theorem dX0_takeBack_19 : decode cX0_takeBack 19 = .ok (.getfield 11, 3) := by decide +kernel
theorem dX0_takeBack_22 : decode cX0_takeBack 22 = .ok (.aload_n 0, 1) := by decide +kernel
theorem dX0_takeBack_23 : decode cX0_takeBack 23 = .ok (.getfield 20, 3) := by decide +kernel
theorem dX0_takeBack_26 : decode cX0_takeBack 26 = .ok (.aload_n 0, 1) := by decide +kernel
theorem dX0_takeBack_27 : decode cX0_takeBack 27 = .ok (.getfield 16, 3) := by decide +kernel
theorem dX0_takeBack_30 : decode cX0_takeBack 30 = .ok (.iadd, 1) := by decide +kernel
theorem dX0_takeBack_31 : decode cX0_takeBack 31 = .ok (.bipush 8, 2) := by decide +kernel
theorem dX0_takeBack_33 : decode cX0_takeBack 33 = .ok (.irem, 1) := by decide +kernel
theorem dX0_takeBack_34 : decode cX0_takeBack 34 = .ok (.aaload, 1) := by decide +kernel
theorem dX0_takeBack_35 : decode cX0_takeBack 35 = .ok (.invokevirtual 23, 3) := by decide +kernel
theorem dX0_takeBack_38 : decode cX0_takeBack 38 = .ok (.return_, 1) := by decide +kernel
theorem dX1_init_0 : decode cX1_init 0 = .ok (.aload_n 0, 1) := by decide +kernel
theorem dX1_init_1 : decode cX1_init 1 = .ok (.invokespecial 3, 3) := by decide +kernel
theorem dX1_init_4 : decode cX1_init 4 = .ok (.aload_n 0, 1) := by decide +kernel
theorem dX1_init_5 : decode cX1_init 5 = .ok (.bipush 10, 2) := by decide +kernel
theorem dX1_init_7 : decode cX1_init 7 = .ok (.newarray .int, 2) := by decide +kernel
theorem dX1_init_9 : decode cX1_init 9 = .ok (.putfield 9, 3) := by decide +kernel
theorem dX1_init_12 : decode cX1_init 12 = .ok (.aload_n 0, 1) := by decide +kernel
theorem dX1_init_13 : decode cX1_init 13 = .ok (.sipush 160, 3) := by decide +kernel
theorem dX1_init_16 : decode cX1_init 16 = .ok (.newarray .int, 2) := by decide +kernel
theorem dX1_init_18 : decode cX1_init 18 = .ok (.putfield 15, 3) := by decide +kernel
theorem dX1_init_21 : decode cX1_init 21 = .ok (.return_, 1) := by decide +kernel
theorem dX1_countGroups_0 : decode cX1_countGroups 0 = .ok (.iconst 0, 1) := by decide +kernel
theorem dX1_countGroups_1 : decode cX1_countGroups 1 = .ok (.istore_n 3, 1) := by decide +kernel
theorem dX1_countGroups_2 : decode cX1_countGroups 2 = .ok (.iconst 0, 1) := by decide +kernel
theorem dX1_countGroups_3 : decode cX1_countGroups 3 = .ok (.istore 4, 2) := by decide +kernel
theorem dX1_countGroups_5 : decode cX1_countGroups 5 = .ok (.iload 4, 2) := by decide +kernel
theorem dX1_countGroups_7 : decode cX1_countGroups 7 = .ok (.iload_n 2, 1) := by decide +kernel
theorem dX1_countGroups_8 : decode cX1_countGroups 8 = .ok (.if_icmp .ge 53, 3) := by decide +kernel
theorem dX1_countGroups_11 : decode cX1_countGroups 11 = .ok (.iconst 0, 1) := by decide +kernel
theorem dX1_countGroups_12 : decode cX1_countGroups 12 = .ok (.istore 5, 2) := by decide +kernel
theorem dX1_countGroups_14 : decode cX1_countGroups 14 = .ok (.iload 5, 2) := by decide +kernel
theorem dX1_countGroups_16 : decode cX1_countGroups 16 = .ok (.iload_n 1, 1) := by decide +kernel
theorem dX1_countGroups_17 : decode cX1_countGroups 17 = .ok (.if_icmp .ge 38, 3) := by decide +kernel
theorem dX1_countGroups_20 : decode cX1_countGroups 20 = .ok (.aload_n 0, 1) := by decide +kernel
theorem dX1_countGroups_21 : decode cX1_countGroups 21 = .ok (.getfield 9, 3) := by decide +kernel
theorem dX1_countGroups_24 : decode cX1_countGroups 24 = .ok (.iload 4, 2) := by decide +kernel
theorem dX1_countGroups_26 : decode cX1_countGroups 26 = .ok (.iaload, 1) := by decide +kernel
theorem dX1_countGroups_27 : decode cX1_countGroups 27 = .ok (.iload 5, 2) := by decide +kernel
theorem dX1_countGroups_29 : decode cX1_countGroups 29 = .ok (.ishr, 1) := by decide +kernel
theorem dX1_countGroups_30 : decode cX1_countGroups 30 = .ok (.iconst 1, 1) := by decide +kernel
theorem dX1_countGroups_31 : decode cX1_countGroups 31 = .ok (.iand, 1) := by decide +kernel
theorem dX1_countGroups_32 : decode cX1_countGroups 32 = .ok (.iconst 1, 1) := by decide +kernel
theorem dX1_countGroups_33 : decode cX1_countGroups 33 = .ok (.if_icmp .ne 16, 3) := by decide +kernel
theorem dX1_countGroups_36 : decode cX1_countGroups 36 = .ok (.iinc 3 1, 3) := by decide +kernel
theorem dX1_countGroups_39 : decode cX1_countGroups 39 = .ok (.aload_n 0, 1) := by decide +kernel
theorem dX1_countGroups_40 : decode cX1_countGroups 40 = .ok (.iload 5, 2) := by decide +kernel
theorem dX1_countGroups_42 : decode cX1_countGroups 42 = .ok (.iload 4, 2) := by decide +kernel
theorem dX1_countGroups_44 : decode cX1_countGroups 44 = .ok (.iload_n 1, 1) := by decide +kernel
theorem dX1_countGroups_45 : decode cX1_countGroups 45 = .ok (.iload_n 2, 1) := by decide +kernel
theorem dX1_countGroups_46 : decode cX1_countGroups 46 = .ok (.invokevirtual 18, 3) := by decide +kernel
theorem dX1_countGroups_49 : decode cX1_countGroups 49 = .ok (.iinc 5 1, 3) := by decide +kernel
theorem dX1_countGroups_52 : decode cX1_countGroups 52 = .ok (.goto (-38), 3) := by decide +kernel
theorem dX1_countGroups_55 : decode cX1_countGroups 55 = .ok (.iinc 4 1, 3) := by decide +kernel
theorem dX1_countGroups_58 : decode cX1_countGroups 58 = .ok (.goto (-53), 3) := by decide +kernel
theorem dX1_countGroups_61 : decode cX1_countGroups 61 = .ok (.iload_n 3, 1) := by decide +kernel
theorem dX1_countGroups_62 : decode cX1_countGroups 62 = .ok (.ireturn, 1) := by decide +kernel
theorem dX1_removeGroup_0 : decode cX1_removeGroup 0 = .ok (.aload_n 0, 1) := by decide +kernel
theorem dX1_removeGroup_1 : decode cX1_removeGroup 1 = .ok (.iconst 0, 1) := by decide +kernel
theorem dX1_removeGroup_2 : decode cX1_removeGroup 2 = .ok (.putfield 22, 3) := by decide +kernel
theorem dX1_removeGroup_5 : decode cX1_removeGroup 5 = .ok (.aload_n 0, 1) := by decide +kernel
theorem dX1_removeGroup_6 : decode cX1_removeGroup 6 = .ok (.iload_n 1, 1) := by decide +kernel
theorem dX1_removeGroup_7 : decode cX1_removeGroup 7 = .ok (.iload_n 2, 1) := by decide +kernel
theorem dX1_removeGroup_8 : decode cX1_removeGroup 8 = .ok (.iload_n 3, 1) := by decide +kernel
theorem dX1_removeGroup_9 : decode cX1_removeGroup 9 = .ok (.iload 4, 2) := by decide +kernel
theorem dX1_removeGroup_11 : decode cX1_removeGroup 11 = .ok (.invokevirtual 26, 3) := by decide +kernel
theorem dX1_removeGroup_14 : decode cX1_removeGroup 14 = .ok (.iconst 0, 1) := by decide +kernel
theorem dX1_removeGroup_15 : decode cX1_removeGroup 15 = .ok (.istore 5, 2) := by decide +kernel
theorem dX1_removeGroup_17 : decode cX1_removeGroup 17 = .ok (.iload 5, 2) := by decide +kernel
theorem dX1_removeGroup_19 : decode cX1_removeGroup 19 = .ok (.aload_n 0, 1) := by decide +kernel
theorem dX1_removeGroup_20 : decode cX1_removeGroup 20 = .ok (.getfield 22, 3) := by decide +kernel
theorem dX1_removeGroup_23 : decode cX1_removeGroup 23 = .ok (.if_icmp .ge 91, 3) := by decide +kernel
theorem dX1_removeGroup_26 : decode cX1_removeGroup 26 = .ok (.iload 5, 2) := by decide +kernel
theorem dX1_removeGroup_28 : decode cX1_removeGroup 28 = .ok (.sipush 160, 3) := by decide +kernel
theorem dX1_removeGroup_31 : decode cX1_removeGroup 31 = .ok (.if_icmp .ge 83, 3) := by decide +kernel
theorem dX1_removeGroup_34 : decode cX1_removeGroup 34 = .ok (.aload_n 0, 1) := by decide +kernel
theorem dX1_removeGroup_35 : decode cX1_removeGroup 35 = .ok (.getfield 15, 3) := by decide +kernel
theorem dX1_removeGroup_38 : decode cX1_removeGroup 38 = .ok (.iload 5, 2) := by decide +kernel
theorem dX1_removeGroup_40 : decode cX1_removeGroup 40 = .ok (.iaload, 1) := by decide +kernel
theorem dX1_removeGroup_41 : decode cX1_removeGroup 41 = .ok (.iload_n 3, 1) := by decide +kernel
theorem dX1_removeGroup_42 : decode cX1_removeGroup 42 = .ok (.irem, 1) := by decide +kernel
theorem dX1_removeGroup_43 : decode cX1_removeGroup 43 = .ok (.istore 6, 2) := by decide +kernel
theorem dX1_removeGroup_45 : decode cX1_removeGroup 45 = .ok (.aload_n 0, 1) := by decide +kernel
theorem dX1_removeGroup_46 : decode cX1_removeGroup 46 = .ok (.getfield 15, 3) := by decide +kernel
theorem dX1_removeGroup_49 : decode cX1_removeGroup 49 = .ok (.iload 5, 2) := by decide +kernel
theorem dX1_removeGroup_51 : decode cX1_removeGroup 51 = .ok (.iaload, 1) := by decide +kernel
theorem dX1_removeGroup_52 : decode cX1_removeGroup 52 = .ok (.iload_n 3, 1) := by decide +kernel
theorem dX1_removeGroup_53 : decode cX1_removeGroup 53 = .ok (.idiv, 1) := by decide +kernel
theorem dX1_removeGroup_54 : decode cX1_removeGroup 54 = .ok (.istore 7, 2) := by decide +kernel
theorem dX1_removeGroup_56 : decode cX1_removeGroup 56 = .ok (.aload_n 0, 1) := by decide +kernel
theorem dX1_removeGroup_57 : decode cX1_removeGroup 57 = .ok (.iload 6, 2) := by decide +kernel
theorem dX1_removeGroup_59 : decode cX1_removeGroup 59 = .ok (.iconst 1, 1) := by decide +kernel
theorem dX1_removeGroup_60 : decode cX1_removeGroup 60 = .ok (.isub, 1) := by decide +kernel
theorem dX1_removeGroup_61 : decode cX1_removeGroup 61 = .ok (.iload 7, 2) := by decide +kernel
theorem dX1_removeGroup_63 : decode cX1_removeGroup 63 = .ok (.iload_n 3, 1) := by decide +kernel
theorem dX1_removeGroup_64 : decode cX1_removeGroup 64 = .ok (.iload 4, 2) := by decide +kernel
theorem dX1_removeGroup_66 : decode cX1_removeGroup 66 = .ok (.invokevirtual 26, 3) := by decide +kernel
theorem dX1_removeGroup_69 : decode cX1_removeGroup 69 = .ok (.aload_n 0, 1) := by decide +kernel
theorem dX1_removeGroup_70 : decode cX1_removeGroup 70 = .ok (.iload 6, 2) := by decide +kernel
theorem dX1_removeGroup_72 : decode cX1_removeGroup 72 = .ok (.iconst 1, 1) := by decide +kernel
theorem dX1_removeGroup_73 : decode cX1_removeGroup 73 = .ok (.iadd, 1) := by decide +kernel
theorem dX1_removeGroup_74 : decode cX1_removeGroup 74 = .ok (.iload 7, 2) := by decide +kernel
theorem dX1_removeGroup_76 : decode cX1_removeGroup 76 = .ok (.iload_n 3, 1) := by decide +kernel
theorem dX1_removeGroup_77 : decode cX1_removeGroup 77 = .ok (.iload 4, 2) := by decide +kernel
theorem dX1_removeGroup_79 : decode cX1_removeGroup 79 = .ok (.invokevirtual 26, 3) := by decide +kernel
theorem dX1_removeGroup_82 : decode cX1_removeGroup 82 = .ok (.aload_n 0, 1) := by decide +kernel
theorem dX1_removeGroup_83 : decode cX1_removeGroup 83 = .ok (.iload 6, 2) := by decide +kernel
theorem dX1_removeGroup_85 : decode cX1_removeGroup 85 = .ok (.iload 7, 2) := by decide +kernel
theorem dX1_removeGroup_87 : decode cX1_removeGroup 87 = .ok (.iconst 1, 1) := by decide +kernel
theorem dX1_removeGroup_88 : decode cX1_removeGroup 88 = .ok (.isub, 1) := by decide +kernel
theorem dX1_removeGroup_89 : decode cX1_removeGroup 89 = .ok (.iload_n 3, 1) := by decide +kernel
theorem dX1_removeGroup_90 : decode cX1_removeGroup 90 = .ok (.iload 4, 2) := by decide +kernel
theorem dX1_removeGroup_92 : decode cX1_removeGroup 92 = .ok (.invokevirtual 26, 3) := by decide +kernel
theorem dX1_removeGroup_95 : decode cX1_removeGroup 95 = .ok (.aload_n 0, 1) := by decide +kernel
theorem dX1_removeGroup_96 : decode cX1_removeGroup 96 = .ok (.iload 6, 2) := by decide +kernel
theorem dX1_removeGroup_98 : decode cX1_removeGroup 98 = .ok (.iload 7, 2) := by decide +kernel
theorem dX1_removeGroup_100 : decode cX1_removeGroup 100 = .ok (.iconst 1, 1) := by decide +kernel
theorem dX1_removeGroup_101 : decode cX1_removeGroup 101 = .ok (.iadd, 1) := by decide +kernel
theorem dX1_removeGroup_102 : decode cX1_removeGroup 102 = .ok (.iload_n 3, 1) := by decide +kernel
theorem dX1_removeGroup_103 : decode cX1_removeGroup 103 = .ok (.iload 4, 2) := by decide +kernel
theorem dX1_removeGroup_105 : decode cX1_removeGroup 105 = .ok (.invokevirtual 26, 3) := by decide +kernel
theorem dX1_removeGroup_108 : decode cX1_removeGroup 108 = .ok (.iinc 5 1, 3) := by decide +kernel
theorem dX1_removeGroup_111 : decode cX1_removeGroup 111 = .ok (.goto (-94), 3) := by decide +kernel
theorem dX1_removeGroup_114 : decode cX1_removeGroup 114 = .ok (.return_, 1) := by decide +kernel
theorem dX1_gather_0 : decode cX1_gather 0 = .ok (.iload_n 1, 1) := by decide +kernel
theorem dX1_gather_1 : decode cX1_gather 1 = .ok (.ifCond .lt 31, 3) := by decide +kernel
theorem dX1_gather_4 : decode cX1_gather 4 = .ok (.iload_n 1, 1) := by decide +kernel
theorem dX1_gather_5 : decode cX1_gather 5 = .ok (.iload_n 3, 1) := by decide +kernel
theorem dX1_gather_6 : decode cX1_gather 6 = .ok (.if_icmp .ge 26, 3) := by decide +kernel
theorem dX1_gather_9 : decode cX1_gather 9 = .ok (.iload_n 2, 1) := by decide +kernel
theorem dX1_gather_10 : decode cX1_gather 10 = .ok (.ifCond .lt 22, 3) := by decide +kernel
theorem dX1_gather_13 : decode cX1_gather 13 = .ok (.iload_n 2, 1) := by decide +kernel
theorem dX1_gather_14 : decode cX1_gather 14 = .ok (.iload 4, 2) := by decide +kernel
theorem dX1_gather_16 : decode cX1_gather 16 = .ok (.if_icmp .ge 16, 3) := by decide +kernel
theorem dX1_gather_19 : decode cX1_gather 19 = .ok (.aload_n 0, 1) := by decide +kernel
theorem dX1_gather_20 : decode cX1_gather 20 = .ok (.getfield 9, 3) := by decide +kernel
theorem dX1_gather_23 : decode cX1_gather 23 = .ok (.iload_n 2, 1) := by decide +kernel
theorem dX1_gather_24 : decode cX1_gather 24 = .ok (.iaload, 1) := by decide +kernel
theorem dX1_gather_25 : decode cX1_gather 25 = .ok (.iload_n 1, 1) := by decide +kernel
theorem dX1_gather_26 : decode cX1_gather 26 = .ok (.ishr, 1) := by decide +kernel
theorem dX1_gather_27 : decode cX1_gather 27 = .ok (.iconst 1, 1) := by decide +kernel
theorem dX1_gather_28 : decode cX1_gather 28 = .ok (.iand, 1) := by decide +kernel
theorem dX1_gather_29 : decode cX1_gather 29 = .ok (.ifCond .ne 4, 3) := by decide +kernel
theorem dX1_gather_32 : decode cX1_gather 32 = .ok (.return_, 1) := by decide +kernel
theorem dX1_gather_33 : decode cX1_gather 33 = .ok (.aload_n 0, 1) := by decide +kernel
theorem dX1_gather_34 : decode cX1_gather 34 = .ok (.getfield 9, 3) := by decide +kernel
theorem dX1_gather_37 : decode cX1_gather 37 = .ok (.iload_n 2, 1) := by decide +kernel
theorem dX1_gather_38 : decode cX1_gather 38 = .ok (.dup2, 1) := by decide +kernel
theorem dX1_gather_39 : decode cX1_gather 39 = .ok (.iaload, 1) := by decide +kernel
theorem dX1_gather_40 : decode cX1_gather 40 = .ok (.iconst 1, 1) := by decide +kernel
theorem dX1_gather_41 : decode cX1_gather 41 = .ok (.iload_n 1, 1) := by decide +kernel
theorem dX1_gather_42 : decode cX1_gather 42 = .ok (.ishl, 1) := by decide +kernel
theorem dX1_gather_43 : decode cX1_gather 43 = .ok (.ixor, 1) := by decide +kernel
theorem dX1_gather_44 : decode cX1_gather 44 = .ok (.iastore, 1) := by decide +kernel
theorem dX1_gather_45 : decode cX1_gather 45 = .ok (.aload_n 0, 1) := by decide +kernel
theorem dX1_gather_46 : decode cX1_gather 46 = .ok (.getfield 22, 3) := by decide +kernel
theorem dX1_gather_49 : decode cX1_gather 49 = .ok (.sipush 160, 3) := by decide +kernel
theorem dX1_gather_52 : decode cX1_gather 52 = .ok (.if_icmp .ge 27, 3) := by decide +kernel
theorem dX1_gather_55 : decode cX1_gather 55 = .ok (.aload_n 0, 1) := by decide +kernel
theorem dX1_gather_56 : decode cX1_gather 56 = .ok (.getfield 15, 3) := by decide +kernel
theorem dX1_gather_59 : decode cX1_gather 59 = .ok (.aload_n 0, 1) := by decide +kernel
theorem dX1_gather_60 : decode cX1_gather 60 = .ok (.getfield 22, 3) := by decide +kernel
theorem dX1_gather_63 : decode cX1_gather 63 = .ok (.iload_n 2, 1) := by decide +kernel
theorem dX1_gather_64 : decode cX1_gather 64 = .ok (.iload_n 3, 1) := by decide +kernel
theorem dX1_gather_65 : decode cX1_gather 65 = .ok (.imul, 1) := by decide +kernel
theorem dX1_gather_66 : decode cX1_gather 66 = .ok (.iload_n 1, 1) := by decide +kernel
theorem dX1_gather_67 : decode cX1_gather 67 = .ok (.iadd, 1) := by decide +kernel
theorem dX1_gather_68 : decode cX1_gather 68 = .ok (.iastore, 1) := by decide +kernel
theorem dX1_gather_69 : decode cX1_gather 69 = .ok (.aload_n 0, 1) := by decide +kernel
theorem dX1_gather_70 : decode cX1_gather 70 = .ok (.dup, 1) := by decide +kernel
theorem dX1_gather_71 : decode cX1_gather 71 = .ok (.getfield 22, 3) := by decide +kernel
theorem dX1_gather_74 : decode cX1_gather 74 = .ok (.iconst 1, 1) := by decide +kernel
theorem dX1_gather_75 : decode cX1_gather 75 = .ok (.iadd, 1) := by decide +kernel
theorem dX1_gather_76 : decode cX1_gather 76 = .ok (.putfield 22, 3) := by decide +kernel
theorem dX1_gather_79 : decode cX1_gather 79 = .ok (.return_, 1) := by decide +kernel
theorem dX2_init_0 : decode cX2_init 0 = .ok (.aload_n 0, 1) := by decide +kernel
theorem dX2_init_1 : decode cX2_init 1 = .ok (.invokespecial 1, 3) := by decide +kernel
theorem dX2_init_4 : decode cX2_init 4 = .ok (.aload_n 0, 1) := by decide +kernel
theorem dX2_init_5 : decode cX2_init 5 = .ok (.sipush 256, 3) := by decide +kernel
theorem dX2_init_8 : decode cX2_init 8 = .ok (.newarray .byte, 2) := by decide +kernel
theorem dX2_init_10 : decode cX2_init 10 = .ok (.putfield 7, 3) := by decide +kernel
theorem dX2_init_13 : decode cX2_init 13 = .ok (.return_, 1) := by decide +kernel
theorem dX2_put_0 : decode cX2_put 0 = .ok (.aload_n 0, 1) := by decide +kernel
theorem dX2_put_1 : decode cX2_put 1 = .ok (.getfield 13, 3) := by decide +kernel
theorem dX2_put_4 : decode cX2_put 4 = .ok (.aload_n 0, 1) := by decide +kernel
theorem dX2_put_5 : decode cX2_put 5 = .ok (.getfield 7, 3) := by decide +kernel
theorem dX2_put_8 : decode cX2_put 8 = .ok (.arraylength, 1) := by decide +kernel
theorem dX2_put_9 : decode cX2_put 9 = .ok (.if_icmp .ge 24, 3) := by decide +kernel
theorem dX2_put_12 : decode cX2_put 12 = .ok (.aload_n 0, 1) := by decide +kernel
theorem dX2_put_13 : decode cX2_put 13 = .ok (.getfield 7, 3) := by decide +kernel
theorem dX2_put_16 : decode cX2_put 16 = .ok (.aload_n 0, 1) := by decide +kernel
theorem dX2_put_17 : decode cX2_put 17 = .ok (.getfield 13, 3) := by decide +kernel
theorem dX2_put_20 : decode cX2_put 20 = .ok (.iload_n 1, 1) := by decide +kernel
theorem dX2_put_21 : decode cX2_put 21 = .ok (.i2b, 1) := by decide +kernel
theorem dX2_put_22 : decode cX2_put 22 = .ok (.bastore, 1) := by decide +kernel
theorem dX2_put_23 : decode cX2_put 23 = .ok (.aload_n 0, 1) := by decide +kernel
theorem dX2_put_24 : decode cX2_put 24 = .ok (.dup, 1) := by decide +kernel
theorem dX2_put_25 : decode cX2_put 25 = .ok (.getfield 13, 3) := by decide +kernel
theorem dX2_put_28 : decode cX2_put 28 = .ok (.iconst 1, 1) := by decide +kernel
theorem dX2_put_29 : decode cX2_put 29 = .ok (.iadd, 1) := by decide +kernel
theorem dX2_put_30 : decode cX2_put 30 = .ok (.putfield 13, 3) := by decide +kernel
theorem dX2_put_33 : decode cX2_put 33 = .ok (.return_, 1) := by decide +kernel
theorem dX2_putNumber_0 : decode cX2_putNumber 0 = .ok (.iload_n 1, 1) := by decide +kernel
theorem dX2_putNumber_1 : decode cX2_putNumber 1 = .ok (.ifCond .ge 9, 3) := by decide +kernel
theorem dX2_putNumber_4 : decode cX2_putNumber 4 = .ok (.aload_n 0, 1) := by decide +kernel
theorem dX2_putNumber_5 : decode cX2_putNumber 5 = .ok (.bipush 45, 2) := by decide +kernel
theorem dX2_putNumber_7 : decode cX2_putNumber 7 = .ok (.invokevirtual 17, 3) := by decide +kernel
theorem dX2_putNumber_10 : decode cX2_putNumber 10 = .ok (.iload_n 1, 1) := by decide +kernel
theorem dX2_putNumber_11 : decode cX2_putNumber 11 = .ok (.invokestatic 21, 3) := by decide +kernel
theorem dX2_putNumber_14 : decode cX2_putNumber 14 = .ok (.istore_n 2, 1) := by decide +kernel
theorem dX2_putNumber_15 : decode cX2_putNumber 15 = .ok (.iconst 1, 1) := by decide +kernel
theorem dX2_putNumber_16 : decode cX2_putNumber 16 = .ok (.istore_n 3, 1) := by decide +kernel
theorem dX2_putNumber_17 : decode cX2_putNumber 17 = .ok (.iconst 1, 1) := by decide +kernel
theorem dX2_putNumber_18 : decode cX2_putNumber 18 = .ok (.istore 4, 2) := by decide +kernel
theorem dX2_putNumber_20 : decode cX2_putNumber 20 = .ok (.iload 4, 2) := by decide +kernel
theorem dX2_putNumber_22 : decode cX2_putNumber 22 = .ok (.bipush 10, 2) := by decide +kernel
theorem dX2_putNumber_24 : decode cX2_putNumber 24 = .ok (.if_icmp .ge 22, 3) := by decide +kernel
theorem dX2_putNumber_27 : decode cX2_putNumber 27 = .ok (.iload_n 3, 1) := by decide +kernel
theorem dX2_putNumber_28 : decode cX2_putNumber 28 = .ok (.iload_n 2, 1) := by decide +kernel
theorem dX2_putNumber_29 : decode cX2_putNumber 29 = .ok (.bipush 10, 2) := by decide +kernel
theorem dX2_putNumber_31 : decode cX2_putNumber 31 = .ok (.idiv, 1) := by decide +kernel
theorem dX2_putNumber_32 : decode cX2_putNumber 32 = .ok (.if_icmp .gt 14, 3) := by decide +kernel
theorem dX2_putNumber_35 : decode cX2_putNumber 35 = .ok (.iload_n 3, 1) := by decide +kernel
theorem dX2_putNumber_36 : decode cX2_putNumber 36 = .ok (.bipush 10, 2) := by decide +kernel
theorem dX2_putNumber_38 : decode cX2_putNumber 38 = .ok (.imul, 1) := by decide +kernel
theorem dX2_putNumber_39 : decode cX2_putNumber 39 = .ok (.istore_n 3, 1) := by decide +kernel
theorem dX2_putNumber_40 : decode cX2_putNumber 40 = .ok (.iinc 4 1, 3) := by decide +kernel
theorem dX2_putNumber_43 : decode cX2_putNumber 43 = .ok (.goto (-23), 3) := by decide +kernel
theorem dX2_putNumber_46 : decode cX2_putNumber 46 = .ok (.iload_n 3, 1) := by decide +kernel
theorem dX2_putNumber_47 : decode cX2_putNumber 47 = .ok (.ifCond .le 24, 3) := by decide +kernel
theorem dX2_putNumber_50 : decode cX2_putNumber 50 = .ok (.aload_n 0, 1) := by decide +kernel
theorem dX2_putNumber_51 : decode cX2_putNumber 51 = .ok (.bipush 48, 2) := by decide +kernel
theorem dX2_putNumber_53 : decode cX2_putNumber 53 = .ok (.iload_n 2, 1) := by decide +kernel
theorem dX2_putNumber_54 : decode cX2_putNumber 54 = .ok (.iload_n 3, 1) := by decide +kernel
theorem dX2_putNumber_55 : decode cX2_putNumber 55 = .ok (.idiv, 1) := by decide +kernel
theorem dX2_putNumber_56 : decode cX2_putNumber 56 = .ok (.bipush 10, 2) := by decide +kernel
theorem dX2_putNumber_58 : decode cX2_putNumber 58 = .ok (.irem, 1) := by decide +kernel
theorem dX2_putNumber_59 : decode cX2_putNumber 59 = .ok (.iadd, 1) := by decide +kernel
theorem dX2_putNumber_60 : decode cX2_putNumber 60 = .ok (.invokevirtual 17, 3) := by decide +kernel
theorem dX2_putNumber_63 : decode cX2_putNumber 63 = .ok (.iload_n 3, 1) := by decide +kernel
theorem dX2_putNumber_64 : decode cX2_putNumber 64 = .ok (.bipush 10, 2) := by decide +kernel
theorem dX2_putNumber_66 : decode cX2_putNumber 66 = .ok (.idiv, 1) := by decide +kernel
theorem dX2_putNumber_67 : decode cX2_putNumber 67 = .ok (.istore_n 3, 1) := by decide +kernel
theorem dX2_putNumber_68 : decode cX2_putNumber 68 = .ok (.goto (-22), 3) := by decide +kernel
theorem dX2_putNumber_71 : decode cX2_putNumber 71 = .ok (.return_, 1) := by decide +kernel
theorem dX3_init_0 : decode cX3_init 0 = .ok (.aload_n 0, 1) := by decide +kernel
theorem dX3_init_1 : decode cX3_init 1 = .ok (.invokespecial 3, 3) := by decide +kernel
theorem dX3_init_4 : decode cX3_init 4 = .ok (.aload_n 0, 1) := by decide +kernel
theorem dX3_init_5 : decode cX3_init 5 = .ok (.iconst (-1), 1) := by decide +kernel
theorem dX3_init_6 : decode cX3_init 6 = .ok (.putfield 9, 3) := by decide +kernel
theorem dX3_init_9 : decode cX3_init 9 = .ok (.aload_n 0, 1) := by decide +kernel
theorem dX3_init_10 : decode cX3_init 10 = .ok (.aload_n 1, 1) := by decide +kernel
theorem dX3_init_11 : decode cX3_init 11 = .ok (.putfield 15, 3) := by decide +kernel
theorem dX3_init_14 : decode cX3_init 14 = .ok (.aload_n 0, 1) := by decide +kernel
theorem dX3_init_15 : decode cX3_init 15 = .ok (.iload_n 2, 1) := by decide +kernel
theorem dX3_init_16 : decode cX3_init 16 = .ok (.putfield 19, 3) := by decide +kernel
theorem dX3_init_19 : decode cX3_init 19 = .ok (.aload_n 0, 1) := by decide +kernel
theorem dX3_init_20 : decode cX3_init 20 = .ok (.aload_n 3, 1) := by decide +kernel
theorem dX3_init_21 : decode cX3_init 21 = .ok (.putfield 22, 3) := by decide +kernel
theorem dX3_init_24 : decode cX3_init 24 = .ok (.aload_n 0, 1) := by decide +kernel
theorem dX3_init_25 : decode cX3_init 25 = .ok (.aload 4, 2) := by decide +kernel
theorem dX3_init_27 : decode cX3_init 27 = .ok (.putfield 26, 3) := by decide +kernel
theorem dX3_init_30 : decode cX3_init 30 = .ok (.return_, 1) := by decide +kernel
theorem dX3_readText_0 : decode cX3_readText 0 = .ok (.aload_n 0, 1) := by decide +kernel
theorem dX3_readText_1 : decode cX3_readText 1 = .ok (.getfield 22, 3) := by decide +kernel
theorem dX3_readText_4 : decode cX3_readText 4 = .ok (.invokevirtual 30, 3) := by decide +kernel
theorem dX3_readText_7 : decode cX3_readText 7 = .ok (.aload_n 0, 1) := by decide +kernel
theorem dX3_readText_8 : decode cX3_readText 8 = .ok (.getfield 26, 3) := by decide +kernel
theorem dX3_readText_11 : decode cX3_readText 11 = .ok (.iconst 0, 1) := by decide +kernel
theorem dX3_readText_12 : decode cX3_readText 12 = .ok (.putfield 35, 3) := by decide +kernel
theorem dX3_readText_15 : decode cX3_readText 15 = .ok (.aload_n 0, 1) := by decide +kernel
theorem dX3_readText_16 : decode cX3_readText 16 = .ok (.getfield 26, 3) := by decide +kernel
theorem dX3_readText_19 : decode cX3_readText 19 = .ok (.iconst 0, 1) := by decide +kernel
theorem dX3_readText_20 : decode cX3_readText 20 = .ok (.putfield 40, 3) := by decide +kernel
theorem dX3_readText_23 : decode cX3_readText 23 = .ok (.aload_n 0, 1) := by decide +kernel
theorem dX3_readText_24 : decode cX3_readText 24 = .ok (.invokevirtual 43, 3) := by decide +kernel
theorem dX3_readText_27 : decode cX3_readText 27 = .ok (.aload_n 0, 1) := by decide +kernel
theorem dX3_readText_28 : decode cX3_readText 28 = .ok (.invokevirtual 46, 3) := by decide +kernel
theorem dX3_readText_31 : decode cX3_readText 31 = .ok (.iconst 0, 1) := by decide +kernel
theorem dX3_readText_32 : decode cX3_readText 32 = .ok (.istore_n 1, 1) := by decide +kernel
theorem dX3_readText_33 : decode cX3_readText 33 = .ok (.iload_n 1, 1) := by decide +kernel
theorem dX3_readText_34 : decode cX3_readText 34 = .ok (.sipush 900, 3) := by decide +kernel
theorem dX3_readText_37 : decode cX3_readText 37 = .ok (.if_icmp .ge 20, 3) := by decide +kernel
theorem dX3_readText_40 : decode cX3_readText 40 = .ok (.aload_n 0, 1) := by decide +kernel
theorem dX3_readText_41 : decode cX3_readText 41 = .ok (.invokevirtual 49, 3) := by decide +kernel
theorem dX3_readText_44 : decode cX3_readText 44 = .ok (.ifCond .eq 13, 3) := by decide +kernel
theorem dX3_readText_47 : decode cX3_readText 47 = .ok (.aload_n 0, 1) := by decide +kernel
theorem dX3_readText_48 : decode cX3_readText 48 = .ok (.invokevirtual 53, 3) := by decide +kernel
theorem dX3_readText_51 : decode cX3_readText 51 = .ok (.iinc 1 1, 3) := by decide +kernel
theorem dX3_readText_54 : decode cX3_readText 54 = .ok (.goto (-21), 3) := by decide +kernel
theorem dX3_readText_57 : decode cX3_readText 57 = .ok (.aload_n 0, 1) := by decide +kernel
theorem dX3_readText_58 : decode cX3_readText 58 = .ok (.getfield 56, 3) := by decide +kernel
theorem dX3_readText_61 : decode cX3_readText 61 = .ok (.ifCond .ne 15, 3) := by decide +kernel
theorem dX3_readText_64 : decode cX3_readText 64 = .ok (.aload_n 0, 1) := by decide +kernel
theorem dX3_readText_65 : decode cX3_readText 65 = .ok (.getfield 59, 3) := by decide +kernel
theorem dX3_readText_68 : decode cX3_readText 68 = .ok (.ifCond .eq 8, 3) := by decide +kernel
theorem dX3_readText_71 : decode cX3_readText 71 = .ok (.aload_n 0, 1) := by decide +kernel
theorem dX3_readText_72 : decode cX3_readText 72 = .ok (.iconst 1, 1) := by decide +kernel
theorem dX3_readText_73 : decode cX3_readText 73 = .ok (.invokevirtual 62, 3) := by decide +kernel
theorem dX3_readText_76 : decode cX3_readText 76 = .ok (.aload_n 0, 1) := by decide +kernel
theorem dX3_readText_77 : decode cX3_readText 77 = .ok (.getfield 56, 3) := by decide +kernel
theorem dX3_readText_80 : decode cX3_readText 80 = .ok (.ifCond .ne 18, 3) := by decide +kernel
theorem dX3_readText_83 : decode cX3_readText 83 = .ok (.aload_n 0, 1) := by decide +kernel
theorem dX3_readText_84 : decode cX3_readText 84 = .ok (.getfield 22, 3) := by decide +kernel
theorem dX3_readText_87 : decode cX3_readText 87 = .ok (.getfield 66, 3) := by decide +kernel
theorem dX3_readText_90 : decode cX3_readText 90 = .ok (.ifCond .ne 8, 3) := by decide +kernel
theorem dX3_readText_93 : decode cX3_readText 93 = .ok (.aload_n 0, 1) := by decide +kernel
theorem dX3_readText_94 : decode cX3_readText 94 = .ok (.iconst 5, 1) := by decide +kernel
theorem dX3_readText_95 : decode cX3_readText 95 = .ok (.invokevirtual 62, 3) := by decide +kernel
theorem dX3_readText_98 : decode cX3_readText 98 = .ok (.return_, 1) := by decide +kernel
theorem dX3_readHead_0 : decode cX3_readHead 0 = .ok (.aload_n 0, 1) := by decide +kernel
theorem dX3_readHead_1 : decode cX3_readHead 1 = .ok (.ldc 69, 2) := by decide +kernel
theorem dX3_readHead_3 : decode cX3_readHead 3 = .ok (.invokevirtual 70, 3) := by decide +kernel
theorem dX3_readHead_6 : decode cX3_readHead 6 = .ok (.aload_n 0, 1) := by decide +kernel
theorem dX3_readHead_7 : decode cX3_readHead 7 = .ok (.ldc 74, 2) := by decide +kernel
theorem dX3_readHead_9 : decode cX3_readHead 9 = .ok (.invokevirtual 70, 3) := by decide +kernel
theorem dX3_readHead_12 : decode cX3_readHead 12 = .ok (.aload_n 0, 1) := by decide +kernel
theorem dX3_readHead_13 : decode cX3_readHead 13 = .ok (.iconst 1, 1) := by decide +kernel
theorem dX3_readHead_14 : decode cX3_readHead 14 = .ok (.bipush 16, 2) := by decide +kernel
theorem dX3_readHead_16 : decode cX3_readHead 16 = .ok (.invokevirtual 76, 3) := by decide +kernel
theorem dX3_readHead_19 : decode cX3_readHead 19 = .ok (.istore_n 1, 1) := by decide +kernel
theorem dX3_readHead_20 : decode cX3_readHead 20 = .ok (.aload_n 0, 1) := by decide +kernel
theorem dX3_readHead_21 : decode cX3_readHead 21 = .ok (.ldc 80, 2) := by decide +kernel
theorem dX3_readHead_23 : decode cX3_readHead 23 = .ok (.invokevirtual 70, 3) := by decide +kernel
theorem dX3_readHead_26 : decode cX3_readHead 26 = .ok (.aload_n 0, 1) := by decide +kernel
theorem dX3_readHead_27 : decode cX3_readHead 27 = .ok (.iconst 1, 1) := by decide +kernel
theorem dX3_readHead_28 : decode cX3_readHead 28 = .ok (.bipush 10, 2) := by decide +kernel
theorem dX3_readHead_30 : decode cX3_readHead 30 = .ok (.invokevirtual 76, 3) := by decide +kernel
theorem dX3_readHead_33 : decode cX3_readHead 33 = .ok (.istore_n 2, 1) := by decide +kernel
theorem dX3_readHead_34 : decode cX3_readHead 34 = .ok (.aload_n 0, 1) := by decide +kernel
theorem dX3_readHead_35 : decode cX3_readHead 35 = .ok (.ldc 82, 2) := by decide +kernel
theorem dX3_readHead_37 : decode cX3_readHead 37 = .ok (.invokevirtual 70, 3) := by decide +kernel
theorem dX3_readHead_40 : decode cX3_readHead 40 = .ok (.aload_n 0, 1) := by decide +kernel
theorem dX3_readHead_41 : decode cX3_readHead 41 = .ok (.iconst 0, 1) := by decide +kernel
theorem dX3_readHead_42 : decode cX3_readHead 42 = .ok (.sipush 9999, 3) := by decide +kernel
theorem dX3_readHead_45 : decode cX3_readHead 45 = .ok (.invokevirtual 76, 3) := by decide +kernel
theorem dX3_readHead_48 : decode cX3_readHead 48 = .ok (.istore_n 3, 1) := by decide +kernel
theorem dX3_readHead_49 : decode cX3_readHead 49 = .ok (.aload_n 0, 1) := by decide +kernel
theorem dX3_readHead_50 : decode cX3_readHead 50 = .ok (.getfield 56, 3) := by decide +kernel
theorem dX3_readHead_53 : decode cX3_readHead 53 = .ok (.ifCond .ne 51, 3) := by decide +kernel
theorem dX3_readHead_56 : decode cX3_readHead 56 = .ok (.aload_n 0, 1) := by decide +kernel
theorem dX3_readHead_57 : decode cX3_readHead 57 = .ok (.getfield 22, 3) := by decide +kernel
theorem dX3_readHead_60 : decode cX3_readHead 60 = .ok (.iload_n 1, 1) := by decide +kernel
theorem dX3_readHead_61 : decode cX3_readHead 61 = .ok (.putfield 84, 3) := by decide +kernel
theorem dX3_readHead_64 : decode cX3_readHead 64 = .ok (.aload_n 0, 1) := by decide +kernel
theorem dX3_readHead_65 : decode cX3_readHead 65 = .ok (.getfield 22, 3) := by decide +kernel
theorem dX3_readHead_68 : decode cX3_readHead 68 = .ok (.iload_n 2, 1) := by decide +kernel
theorem dX3_readHead_69 : decode cX3_readHead 69 = .ok (.putfield 87, 3) := by decide +kernel
theorem dX3_readHead_72 : decode cX3_readHead 72 = .ok (.aload_n 0, 1) := by decide +kernel
theorem dX3_readHead_73 : decode cX3_readHead 73 = .ok (.getfield 22, 3) := by decide +kernel
theorem dX3_readHead_76 : decode cX3_readHead 76 = .ok (.iload_n 3, 1) := by decide +kernel
theorem dX3_readHead_77 : decode cX3_readHead 77 = .ok (.putfield 90, 3) := by decide +kernel
theorem dX3_readHead_80 : decode cX3_readHead 80 = .ok (.aload_n 0, 1) := by decide +kernel
theorem dX3_readHead_81 : decode cX3_readHead 81 = .ok (.ldc 92, 2) := by decide +kernel
theorem dX3_readHead_83 : decode cX3_readHead 83 = .ok (.invokevirtual 94, 3) := by decide +kernel
theorem dX3_readHead_86 : decode cX3_readHead 86 = .ok (.ifCond .eq 18, 3) := by decide +kernel
theorem dX3_readHead_89 : decode cX3_readHead 89 = .ok (.aload_n 0, 1) := by decide +kernel
theorem dX3_readHead_90 : decode cX3_readHead 90 = .ok (.getfield 22, 3) := by decide +kernel
theorem dX3_readHead_93 : decode cX3_readHead 93 = .ok (.aload_n 0, 1) := by decide +kernel
theorem dX3_readHead_94 : decode cX3_readHead 94 = .ok (.iconst 0, 1) := by decide +kernel
theorem dX3_readHead_95 : decode cX3_readHead 95 = .ok (.iload_n 1, 1) := by decide +kernel
theorem dX3_readHead_96 : decode cX3_readHead 96 = .ok (.iconst 1, 1) := by decide +kernel
theorem dX3_readHead_97 : decode cX3_readHead 97 = .ok (.isub, 1) := by decide +kernel
theorem dX3_readHead_98 : decode cX3_readHead 98 = .ok (.invokevirtual 76, 3) := by decide +kernel
theorem dX3_readHead_101 : decode cX3_readHead 101 = .ok (.putfield 98, 3) := by decide +kernel
theorem dX3_readHead_104 : decode cX3_readHead 104 = .ok (.return_, 1) := by decide +kernel
theorem dX3_readLine_0 : decode cX3_readLine 0 = .ok (.aload_n 0, 1) := by decide +kernel
theorem dX3_readLine_1 : decode cX3_readLine 1 = .ok (.ldc 101, 2) := by decide +kernel
theorem dX3_readLine_3 : decode cX3_readLine 3 = .ok (.invokevirtual 103, 3) := by decide +kernel
theorem dX3_readLine_6 : decode cX3_readLine 6 = .ok (.ifCond .eq 10, 3) := by decide +kernel
theorem dX3_readLine_9 : decode cX3_readLine 9 = .ok (.aload_n 0, 1) := by decide +kernel
theorem dX3_readLine_10 : decode cX3_readLine 10 = .ok (.invokevirtual 106, 3) := by decide +kernel
theorem dX3_readLine_13 : decode cX3_readLine 13 = .ok (.goto 136, 3) := by decide +kernel
theorem dX3_readLine_16 : decode cX3_readLine 16 = .ok (.aload_n 0, 1) := by decide +kernel
theorem dX3_readLine_17 : decode cX3_readLine 17 = .ok (.ldc 109, 2) := by decide +kernel
theorem dX3_readLine_19 : decode cX3_readLine 19 = .ok (.invokevirtual 103, 3) := by decide +kernel
theorem dX3_readLine_22 : decode cX3_readLine 22 = .ok (.ifCond .eq 10, 3) := by decide +kernel
theorem dX3_readLine_25 : decode cX3_readLine 25 = .ok (.aload_n 0, 1) := by decide +kernel
theorem dX3_readLine_26 : decode cX3_readLine 26 = .ok (.invokevirtual 111, 3) := by decide +kernel
theorem dX3_readLine_29 : decode cX3_readLine 29 = .ok (.goto 120, 3) := by decide +kernel
theorem dX3_readLine_32 : decode cX3_readLine 32 = .ok (.aload_n 0, 1) := by decide +kernel
theorem dX3_readLine_33 : decode cX3_readLine 33 = .ok (.ldc 114, 2) := by decide +kernel
theorem dX3_readLine_35 : decode cX3_readLine 35 = .ok (.invokevirtual 103, 3) := by decide +kernel
theorem dX3_readLine_38 : decode cX3_readLine 38 = .ok (.ifCond .eq 10, 3) := by decide +kernel
theorem dX3_readLine_41 : decode cX3_readLine 41 = .ok (.aload_n 0, 1) := by decide +kernel
theorem dX3_readLine_42 : decode cX3_readLine 42 = .ok (.invokevirtual 116, 3) := by decide +kernel
theorem dX3_readLine_45 : decode cX3_readLine 45 = .ok (.goto 104, 3) := by decide +kernel
theorem dX3_readLine_48 : decode cX3_readLine 48 = .ok (.aload_n 0, 1) := by decide +kernel
theorem dX3_readLine_49 : decode cX3_readLine 49 = .ok (.ldc 119, 2) := by decide +kernel
theorem dX3_readLine_51 : decode cX3_readLine 51 = .ok (.invokevirtual 103, 3) := by decide +kernel
theorem dX3_readLine_54 : decode cX3_readLine 54 = .ok (.ifCond .eq 10, 3) := by decide +kernel
theorem dX3_readLine_57 : decode cX3_readLine 57 = .ok (.aload_n 0, 1) := by decide +kernel
theorem dX3_readLine_58 : decode cX3_readLine 58 = .ok (.invokevirtual 121, 3) := by decide +kernel
theorem dX3_readLine_61 : decode cX3_readLine 61 = .ok (.goto 88, 3) := by decide +kernel
theorem dX3_readLine_64 : decode cX3_readLine 64 = .ok (.aload_n 0, 1) := by decide +kernel
theorem dX3_readLine_65 : decode cX3_readLine 65 = .ok (.ldc 124, 2) := by decide +kernel
theorem dX3_readLine_67 : decode cX3_readLine 67 = .ok (.invokevirtual 103, 3) := by decide +kernel
theorem dX3_readLine_70 : decode cX3_readLine 70 = .ok (.ifCond .eq 10, 3) := by decide +kernel
theorem dX3_readLine_73 : decode cX3_readLine 73 = .ok (.aload_n 0, 1) := by decide +kernel
theorem dX3_readLine_74 : decode cX3_readLine 74 = .ok (.invokevirtual 126, 3) := by decide +kernel
theorem dX3_readLine_77 : decode cX3_readLine 77 = .ok (.goto 72, 3) := by decide +kernel
theorem dX3_readLine_80 : decode cX3_readLine 80 = .ok (.aload_n 0, 1) := by decide +kernel
theorem dX3_readLine_81 : decode cX3_readLine 81 = .ok (.ldc 129, 2) := by decide +kernel
theorem dX3_readLine_83 : decode cX3_readLine 83 = .ok (.invokevirtual 103, 3) := by decide +kernel
theorem dX3_readLine_86 : decode cX3_readLine 86 = .ok (.ifCond .eq 10, 3) := by decide +kernel
theorem dX3_readLine_89 : decode cX3_readLine 89 = .ok (.aload_n 0, 1) := by decide +kernel
theorem dX3_readLine_90 : decode cX3_readLine 90 = .ok (.invokevirtual 131, 3) := by decide +kernel
theorem dX3_readLine_93 : decode cX3_readLine 93 = .ok (.goto 56, 3) := by decide +kernel
theorem dX3_readLine_96 : decode cX3_readLine 96 = .ok (.aload_n 0, 1) := by decide +kernel
theorem dX3_readLine_97 : decode cX3_readLine 97 = .ok (.ldc 134, 2) := by decide +kernel
theorem dX3_readLine_99 : decode cX3_readLine 99 = .ok (.invokevirtual 103, 3) := by decide +kernel
theorem dX3_readLine_102 : decode cX3_readLine 102 = .ok (.ifCond .eq 10, 3) := by decide +kernel
theorem dX3_readLine_105 : decode cX3_readLine 105 = .ok (.aload_n 0, 1) := by decide +kernel
theorem dX3_readLine_106 : decode cX3_readLine 106 = .ok (.invokevirtual 136, 3) := by decide +kernel
theorem dX3_readLine_109 : decode cX3_readLine 109 = .ok (.goto 40, 3) := by decide +kernel
theorem dX3_readLine_112 : decode cX3_readLine 112 = .ok (.aload_n 0, 1) := by decide +kernel
theorem dX3_readLine_113 : decode cX3_readLine 113 = .ok (.ldc 139, 2) := by decide +kernel
theorem dX3_readLine_115 : decode cX3_readLine 115 = .ok (.invokevirtual 103, 3) := by decide +kernel
theorem dX3_readLine_118 : decode cX3_readLine 118 = .ok (.ifCond .eq 10, 3) := by decide +kernel
theorem dX3_readLine_121 : decode cX3_readLine 121 = .ok (.aload_n 0, 1) := by decide +kernel
theorem dX3_readLine_122 : decode cX3_readLine 122 = .ok (.invokevirtual 141, 3) := by decide +kernel
theorem dX3_readLine_125 : decode cX3_readLine 125 = .ok (.goto 24, 3) := by decide +kernel
theorem dX3_readLine_128 : decode cX3_readLine 128 = .ok (.aload_n 0, 1) := by decide +kernel
theorem dX3_readLine_129 : decode cX3_readLine 129 = .ok (.ldc 144, 2) := by decide +kernel
theorem dX3_readLine_131 : decode cX3_readLine 131 = .ok (.invokevirtual 103, 3) := by decide +kernel
theorem dX3_readLine_134 : decode cX3_readLine 134 = .ok (.ifCond .eq 10, 3) := by decide +kernel
theorem dX3_readLine_137 : decode cX3_readLine 137 = .ok (.aload_n 0, 1) := by decide +kernel
theorem dX3_readLine_138 : decode cX3_readLine 138 = .ok (.invokevirtual 146, 3) := by decide +kernel
theorem dX3_readLine_141 : decode cX3_readLine 141 = .ok (.goto 8, 3) := by decide +kernel
theorem dX3_readLine_144 : decode cX3_readLine 144 = .ok (.aload_n 0, 1) := by decide +kernel
theorem dX3_readLine_145 : decode cX3_readLine 145 = .ok (.iconst 1, 1) := by decide +kernel
theorem dX3_readLine_146 : decode cX3_readLine 146 = .ok (.invokevirtual 62, 3) := by decide +kernel
theorem dX3_readLine_149 : decode cX3_readLine 149 = .ok (.return_, 1) := by decide +kernel
theorem dX3_readTrain_0 : decode cX3_readTrain 0 = .ok (.aload_n 0, 1) := by decide +kernel
theorem dX3_readTrain_1 : decode cX3_readTrain 1 = .ok (.aload_n 0, 1) := by decide +kernel
theorem dX3_readTrain_2 : decode cX3_readTrain 2 = .ok (.getfield 22, 3) := by decide +kernel
theorem dX3_readTrain_5 : decode cX3_readTrain 5 = .ok (.getfield 66, 3) := by decide +kernel
theorem dX3_readTrain_8 : decode cX3_readTrain 8 = .ok (.iconst 4, 1) := by decide +kernel
theorem dX3_readTrain_9 : decode cX3_readTrain 9 = .ok (.invokevirtual 149, 3) := by decide +kernel
theorem dX3_readTrain_12 : decode cX3_readTrain 12 = .ok (.ifCond .ne 4, 3) := by decide +kernel
theorem dX3_readTrain_15 : decode cX3_readTrain 15 = .ok (.return_, 1) := by decide +kernel
theorem dX3_readTrain_16 : decode cX3_readTrain 16 = .ok (.aload_n 0, 1) := by decide +kernel
theorem dX3_readTrain_17 : decode cX3_readTrain 17 = .ok (.getfield 22, 3) := by decide +kernel
theorem dX3_readTrain_20 : decode cX3_readTrain 20 = .ok (.getfield 66, 3) := by decide +kernel
theorem dX3_readTrain_23 : decode cX3_readTrain 23 = .ok (.istore_n 1, 1) := by decide +kernel
theorem dX3_readTrain_24 : decode cX3_readTrain 24 = .ok (.aload_n 0, 1) := by decide +kernel
theorem dX3_readTrain_25 : decode cX3_readTrain 25 = .ok (.getfield 22, 3) := by decide +kernel
theorem dX3_readTrain_28 : decode cX3_readTrain 28 = .ok (.getfield 153, 3) := by decide +kernel
theorem dX3_readTrain_31 : decode cX3_readTrain 31 = .ok (.iload_n 1, 1) := by decide +kernel
theorem dX3_readTrain_32 : decode cX3_readTrain 32 = .ok (.aaload, 1) := by decide +kernel
theorem dX3_readTrain_33 : decode cX3_readTrain 33 = .ok (.astore_n 2, 1) := by decide +kernel
theorem dX3_readTrain_34 : decode cX3_readTrain 34 = .ok (.aload_n 0, 1) := by decide +kernel
theorem dX3_readTrain_35 : decode cX3_readTrain 35 = .ok (.getfield 26, 3) := by decide +kernel
theorem dX3_readTrain_38 : decode cX3_readTrain 38 = .ok (.getfield 157, 3) := by decide +kernel
theorem dX3_readTrain_41 : decode cX3_readTrain 41 = .ok (.iload_n 1, 1) := by decide +kernel
theorem dX3_readTrain_42 : decode cX3_readTrain 42 = .ok (.aload_n 0, 1) := by decide +kernel
theorem dX3_readTrain_43 : decode cX3_readTrain 43 = .ok (.iconst 0, 1) := by decide +kernel
theorem dX3_readTrain_44 : decode cX3_readTrain 44 = .ok (.invokevirtual 160, 3) := by decide +kernel
theorem dX3_readTrain_47 : decode cX3_readTrain 47 = .ok (.iastore, 1) := by decide +kernel
theorem dX3_readTrain_48 : decode cX3_readTrain 48 = .ok (.aload_n 0, 1) := by decide +kernel
theorem dX3_readTrain_49 : decode cX3_readTrain 49 = .ok (.getfield 26, 3) := by decide +kernel
theorem dX3_readTrain_52 : decode cX3_readTrain 52 = .ok (.getfield 164, 3) := by decide +kernel
theorem dX3_readTrain_55 : decode cX3_readTrain 55 = .ok (.iload_n 1, 1) := by decide +kernel
theorem dX3_readTrain_56 : decode cX3_readTrain 56 = .ok (.aload_n 0, 1) := by decide +kernel
theorem dX3_readTrain_57 : decode cX3_readTrain 57 = .ok (.iconst 0, 1) := by decide +kernel
theorem dX3_readTrain_58 : decode cX3_readTrain 58 = .ok (.invokevirtual 166, 3) := by decide +kernel
theorem dX3_readTrain_61 : decode cX3_readTrain 61 = .ok (.iastore, 1) := by decide +kernel
theorem dX3_readTrain_62 : decode cX3_readTrain 62 = .ok (.aload_n 0, 1) := by decide +kernel
theorem dX3_readTrain_63 : decode cX3_readTrain 63 = .ok (.getfield 26, 3) := by decide +kernel
theorem dX3_readTrain_66 : decode cX3_readTrain 66 = .ok (.getfield 169, 3) := by decide +kernel
theorem dX3_readTrain_69 : decode cX3_readTrain 69 = .ok (.iload_n 1, 1) := by decide +kernel
theorem dX3_readTrain_70 : decode cX3_readTrain 70 = .ok (.aload_n 0, 1) := by decide +kernel
theorem dX3_readTrain_71 : decode cX3_readTrain 71 = .ok (.iconst 1, 1) := by decide +kernel
theorem dX3_readTrain_72 : decode cX3_readTrain 72 = .ok (.sipush 999, 3) := by decide +kernel
theorem dX3_readTrain_75 : decode cX3_readTrain 75 = .ok (.invokevirtual 76, 3) := by decide +kernel
theorem dX3_readTrain_78 : decode cX3_readTrain 78 = .ok (.iastore, 1) := by decide +kernel
theorem dX3_readTrain_79 : decode cX3_readTrain 79 = .ok (.aload_n 0, 1) := by decide +kernel
theorem dX3_readTrain_80 : decode cX3_readTrain 80 = .ok (.bipush 50, 2) := by decide +kernel
theorem dX3_readTrain_82 : decode cX3_readTrain 82 = .ok (.sipush 9999, 3) := by decide +kernel
theorem dX3_readTrain_85 : decode cX3_readTrain 85 = .ok (.invokevirtual 76, 3) := by decide +kernel
theorem dX3_readTrain_88 : decode cX3_readTrain 88 = .ok (.istore_n 3, 1) := by decide +kernel
theorem dX3_readTrain_89 : decode cX3_readTrain 89 = .ok (.aload_n 0, 1) := by decide +kernel
theorem dX3_readTrain_90 : decode cX3_readTrain 90 = .ok (.iconst 2, 1) := by decide +kernel
theorem dX3_readTrain_91 : decode cX3_readTrain 91 = .ok (.bipush 99, 2) := by decide +kernel
theorem dX3_readTrain_93 : decode cX3_readTrain 93 = .ok (.invokevirtual 76, 3) := by decide +kernel
theorem dX3_readTrain_96 : decode cX3_readTrain 96 = .ok (.istore 4, 2) := by decide +kernel
theorem dX3_readTrain_98 : decode cX3_readTrain 98 = .ok (.aload_n 0, 1) := by decide +kernel
theorem dX3_readTrain_99 : decode cX3_readTrain 99 = .ok (.getfield 26, 3) := by decide +kernel
theorem dX3_readTrain_102 : decode cX3_readTrain 102 = .ok (.getfield 172, 3) := by decide +kernel
theorem dX3_readTrain_105 : decode cX3_readTrain 105 = .ok (.iload_n 1, 1) := by decide +kernel
theorem dX3_readTrain_106 : decode cX3_readTrain 106 = .ok (.aload_n 0, 1) := by decide +kernel
theorem dX3_readTrain_107 : decode cX3_readTrain 107 = .ok (.iconst 0, 1) := by decide +kernel
theorem dX3_readTrain_108 : decode cX3_readTrain 108 = .ok (.sipush 359, 3) := by decide +kernel
theorem dX3_readTrain_111 : decode cX3_readTrain 111 = .ok (.invokevirtual 76, 3) := by decide +kernel
theorem dX3_readTrain_114 : decode cX3_readTrain 114 = .ok (.iastore, 1) := by decide +kernel
theorem dX3_readTrain_115 : decode cX3_readTrain 115 = .ok (.aload_n 2, 1) := by decide +kernel
theorem dX3_readTrain_116 : decode cX3_readTrain 116 = .ok (.aload_n 0, 1) := by decide +kernel
theorem dX3_readTrain_117 : decode cX3_readTrain 117 = .ok (.iconst 0, 1) := by decide +kernel
theorem dX3_readTrain_118 : decode cX3_readTrain 118 = .ok (.sipush 9999, 3) := by decide +kernel
theorem dX3_readTrain_121 : decode cX3_readTrain 121 = .ok (.invokevirtual 76, 3) := by decide +kernel
theorem dX3_readTrain_124 : decode cX3_readTrain 124 = .ok (.putfield 175, 3) := by decide +kernel
theorem dX3_readTrain_127 : decode cX3_readTrain 127 = .ok (.aload_n 2, 1) := by decide +kernel
theorem dX3_readTrain_128 : decode cX3_readTrain 128 = .ok (.aload_n 0, 1) := by decide +kernel
theorem dX3_readTrain_129 : decode cX3_readTrain 129 = .ok (.aload_n 2, 1) := by decide +kernel
theorem dX3_readTrain_130 : decode cX3_readTrain 130 = .ok (.getfield 175, 3) := by decide +kernel
theorem dX3_readTrain_133 : decode cX3_readTrain 133 = .ok (.sipush 9999, 3) := by decide +kernel
theorem dX3_readTrain_136 : decode cX3_readTrain 136 = .ok (.invokevirtual 76, 3) := by decide +kernel
theorem dX3_readTrain_139 : decode cX3_readTrain 139 = .ok (.putfield 180, 3) := by decide +kernel
theorem dX3_readTrain_142 : decode cX3_readTrain 142 = .ok (.aload_n 2, 1) := by decide +kernel
theorem dX3_readTrain_143 : decode cX3_readTrain 143 = .ok (.iconst 0, 1) := by decide +kernel
theorem dX3_readTrain_144 : decode cX3_readTrain 144 = .ok (.putfield 183, 3) := by decide +kernel
theorem dX3_readTrain_147 : decode cX3_readTrain 147 = .ok (.aload_n 2, 1) := by decide +kernel
theorem dX3_readTrain_148 : decode cX3_readTrain 148 = .ok (.iconst 0, 1) := by decide +kernel
theorem dX3_readTrain_149 : decode cX3_readTrain 149 = .ok (.putfield 186, 3) := by decide +kernel
theorem dX3_readTrain_152 : decode cX3_readTrain 152 = .ok (.aload_n 2, 1) := by decide +kernel
theorem dX3_readTrain_153 : decode cX3_readTrain 153 = .ok (.iconst 0, 1) := by decide +kernel
theorem dX3_readTrain_154 : decode cX3_readTrain 154 = .ok (.putfield 189, 3) := by decide +kernel
theorem dX3_readTrain_157 : decode cX3_readTrain 157 = .ok (.aload_n 0, 1) := by decide +kernel
theorem dX3_readTrain_158 : decode cX3_readTrain 158 = .ok (.ldc 192, 2) := by decide +kernel
theorem dX3_readTrain_160 : decode cX3_readTrain 160 = .ok (.invokevirtual 94, 3) := by decide +kernel
theorem dX3_readTrain_163 : decode cX3_readTrain 163 = .ok (.ifCond .eq 28, 3) := by decide +kernel
theorem dX3_readTrain_166 : decode cX3_readTrain 166 = .ok (.aload_n 2, 1) := by decide +kernel
theorem dX3_readTrain_167 : decode cX3_readTrain 167 = .ok (.aload_n 0, 1) := by decide +kernel
theorem dX3_readTrain_168 : decode cX3_readTrain 168 = .ok (.iconst 1, 1) := by decide +kernel
theorem dX3_readTrain_169 : decode cX3_readTrain 169 = .ok (.bipush 99, 2) := by decide +kernel
theorem dX3_readTrain_171 : decode cX3_readTrain 171 = .ok (.invokevirtual 76, 3) := by decide +kernel
theorem dX3_readTrain_174 : decode cX3_readTrain 174 = .ok (.putfield 183, 3) := by decide +kernel
theorem dX3_readTrain_177 : decode cX3_readTrain 177 = .ok (.aload_n 2, 1) := by decide +kernel
theorem dX3_readTrain_178 : decode cX3_readTrain 178 = .ok (.aload_n 0, 1) := by decide +kernel
theorem dX3_readTrain_179 : decode cX3_readTrain 179 = .ok (.iconst 1, 1) := by decide +kernel
theorem dX3_readTrain_180 : decode cX3_readTrain 180 = .ok (.bipush 99, 2) := by decide +kernel
theorem dX3_readTrain_182 : decode cX3_readTrain 182 = .ok (.invokevirtual 76, 3) := by decide +kernel
theorem dX3_readTrain_185 : decode cX3_readTrain 185 = .ok (.putfield 186, 3) := by decide +kernel
theorem dX3_readTrain_188 : decode cX3_readTrain 188 = .ok (.goto 23, 3) := by decide +kernel
theorem dX3_readTrain_191 : decode cX3_readTrain 191 = .ok (.aload_n 0, 1) := by decide +kernel
theorem dX3_readTrain_192 : decode cX3_readTrain 192 = .ok (.ldc 194, 2) := by decide +kernel
theorem dX3_readTrain_194 : decode cX3_readTrain 194 = .ok (.invokevirtual 94, 3) := by decide +kernel
theorem dX3_readTrain_197 : decode cX3_readTrain 197 = .ok (.ifCond .eq 14, 3) := by decide +kernel
theorem dX3_readTrain_200 : decode cX3_readTrain 200 = .ok (.aload_n 2, 1) := by decide +kernel
theorem dX3_readTrain_201 : decode cX3_readTrain 201 = .ok (.aload_n 0, 1) := by decide +kernel
theorem dX3_readTrain_202 : decode cX3_readTrain 202 = .ok (.iconst 1, 1) := by decide +kernel
theorem dX3_readTrain_203 : decode cX3_readTrain 203 = .ok (.bipush 99, 2) := by decide +kernel
theorem dX3_readTrain_205 : decode cX3_readTrain 205 = .ok (.invokevirtual 76, 3) := by decide +kernel
theorem dX3_readTrain_208 : decode cX3_readTrain 208 = .ok (.putfield 189, 3) := by decide +kernel
theorem dX3_readTrain_211 : decode cX3_readTrain 211 = .ok (.aload_n 0, 1) := by decide +kernel
theorem dX3_readTrain_212 : decode cX3_readTrain 212 = .ok (.getfield 56, 3) := by decide +kernel
theorem dX3_readTrain_215 : decode cX3_readTrain 215 = .ok (.ifCond .eq 4, 3) := by decide +kernel
theorem dX3_readTrain_218 : decode cX3_readTrain 218 = .ok (.return_, 1) := by decide +kernel
theorem dX3_readTrain_219 : decode cX3_readTrain 219 = .ok (.aload_n 2, 1) := by decide +kernel
theorem dX3_readTrain_220 : decode cX3_readTrain 220 = .ok (.iload_n 3, 1) := by decide +kernel
theorem dX3_readTrain_221 : decode cX3_readTrain 221 = .ok (.putfield 196, 3) := by decide +kernel
theorem dX3_readTrain_224 : decode cX3_readTrain 224 = .ok (.aload_n 2, 1) := by decide +kernel
theorem dX3_readTrain_225 : decode cX3_readTrain 225 = .ok (.iload 4, 2) := by decide +kernel
theorem dX3_readTrain_227 : decode cX3_readTrain 227 = .ok (.putfield 199, 3) := by decide +kernel
theorem dX3_readTrain_230 : decode cX3_readTrain 230 = .ok (.aload_n 2, 1) := by decide +kernel
theorem dX3_readTrain_231 : decode cX3_readTrain 231 = .ok (.iconst 0, 1) := by decide +kernel
theorem dX3_readTrain_232 : decode cX3_readTrain 232 = .ok (.putfield 202, 3) := by decide +kernel
theorem dX3_readTrain_235 : decode cX3_readTrain 235 = .ok (.aload_n 2, 1) := by decide +kernel
theorem dX3_readTrain_236 : decode cX3_readTrain 236 = .ok (.iconst 0, 1) := by decide +kernel
theorem dX3_readTrain_237 : decode cX3_readTrain 237 = .ok (.putfield 204, 3) := by decide +kernel
theorem dX3_readTrain_240 : decode cX3_readTrain 240 = .ok (.aload_n 0, 1) := by decide +kernel
theorem dX3_readTrain_241 : decode cX3_readTrain 241 = .ok (.getfield 26, 3) := by decide +kernel
theorem dX3_readTrain_244 : decode cX3_readTrain 244 = .ok (.getfield 207, 3) := by decide +kernel
theorem dX3_readTrain_247 : decode cX3_readTrain 247 = .ok (.iload_n 1, 1) := by decide +kernel
theorem dX3_readTrain_248 : decode cX3_readTrain 248 = .ok (.iconst 0, 1) := by decide +kernel
theorem dX3_readTrain_249 : decode cX3_readTrain 249 = .ok (.iastore, 1) := by decide +kernel
theorem dX3_readTrain_250 : decode cX3_readTrain 250 = .ok (.aload_n 0, 1) := by decide +kernel
theorem dX3_readTrain_251 : decode cX3_readTrain 251 = .ok (.getfield 26, 3) := by decide +kernel
theorem dX3_readTrain_254 : decode cX3_readTrain 254 = .ok (.getfield 210, 3) := by decide +kernel
theorem dX3_readTrain_257 : decode cX3_readTrain 257 = .ok (.iload_n 1, 1) := by decide +kernel
theorem dX3_readTrain_258 : decode cX3_readTrain 258 = .ok (.iconst 0, 1) := by decide +kernel
theorem dX3_readTrain_259 : decode cX3_readTrain 259 = .ok (.iastore, 1) := by decide +kernel
theorem dX3_readTrain_260 : decode cX3_readTrain 260 = .ok (.aload_n 0, 1) := by decide +kernel
theorem dX3_readTrain_261 : decode cX3_readTrain 261 = .ok (.getfield 26, 3) := by decide +kernel
theorem dX3_readTrain_264 : decode cX3_readTrain 264 = .ok (.getfield 213, 3) := by decide +kernel
theorem dX3_readTrain_267 : decode cX3_readTrain 267 = .ok (.iload_n 1, 1) := by decide +kernel
theorem dX3_readTrain_268 : decode cX3_readTrain 268 = .ok (.iconst 1, 1) := by decide +kernel
theorem dX3_readTrain_269 : decode cX3_readTrain 269 = .ok (.bastore, 1) := by decide +kernel
theorem dX3_readTrain_270 : decode cX3_readTrain 270 = .ok (.aload_n 0, 1) := by decide +kernel
theorem dX3_readTrain_271 : decode cX3_readTrain 271 = .ok (.getfield 22, 3) := by decide +kernel
theorem dX3_readTrain_274 : decode cX3_readTrain 274 = .ok (.dup, 1) := by decide +kernel
theorem dX3_readTrain_275 : decode cX3_readTrain 275 = .ok (.getfield 66, 3) := by decide +kernel
theorem dX3_readTrain_278 : decode cX3_readTrain 278 = .ok (.iconst 1, 1) := by decide +kernel
theorem dX3_readTrain_279 : decode cX3_readTrain 279 = .ok (.iadd, 1) := by decide +kernel
theorem dX3_readTrain_280 : decode cX3_readTrain 280 = .ok (.putfield 66, 3) := by decide +kernel
theorem dX3_readTrain_283 : decode cX3_readTrain 283 = .ok (.return_, 1) := by decide +kernel
theorem dX3_readDrift_0 : decode cX3_readDrift 0 = .ok (.aload_n 0, 1) := by decide +kernel
theorem dX3_readDrift_1 : decode cX3_readDrift 1 = .ok (.invokevirtual 43, 3) := by decide +kernel
theorem dX3_readDrift_4 : decode cX3_readDrift 4 = .ok (.aload_n 0, 1) := by decide +kernel
theorem dX3_readDrift_5 : decode cX3_readDrift 5 = .ok (.aload_n 0, 1) := by decide +kernel
theorem dX3_readDrift_6 : decode cX3_readDrift 6 = .ok (.getfield 217, 3) := by decide +kernel
theorem dX3_readDrift_9 : decode cX3_readDrift 9 = .ok (.invokevirtual 220, 3) := by decide +kernel
theorem dX3_readDrift_12 : decode cX3_readDrift 12 = .ok (.istore_n 1, 1) := by decide +kernel
theorem dX3_readDrift_13 : decode cX3_readDrift 13 = .ok (.aload_n 0, 1) := by decide +kernel
theorem dX3_readDrift_14 : decode cX3_readDrift 14 = .ok (.invokevirtual 223, 3) := by decide +kernel
theorem dX3_readDrift_17 : decode cX3_readDrift 17 = .ok (.istore_n 2, 1) := by decide +kernel
theorem dX3_readDrift_18 : decode cX3_readDrift 18 = .ok (.aload_n 0, 1) := by decide +kernel
theorem dX3_readDrift_19 : decode cX3_readDrift 19 = .ok (.invokevirtual 223, 3) := by decide +kernel
theorem dX3_readDrift_22 : decode cX3_readDrift 22 = .ok (.istore_n 3, 1) := by decide +kernel
theorem dX3_readDrift_23 : decode cX3_readDrift 23 = .ok (.aload_n 0, 1) := by decide +kernel
theorem dX3_readDrift_24 : decode cX3_readDrift 24 = .ok (.getfield 56, 3) := by decide +kernel
theorem dX3_readDrift_27 : decode cX3_readDrift 27 = .ok (.ifCond .ne 35, 3) := by decide +kernel
theorem dX3_readDrift_30 : decode cX3_readDrift 30 = .ok (.aload_n 0, 1) := by decide +kernel
theorem dX3_readDrift_31 : decode cX3_readDrift 31 = .ok (.dup, 1) := by decide +kernel
theorem dX3_readDrift_32 : decode cX3_readDrift 32 = .ok (.getfield 217, 3) := by decide +kernel
theorem dX3_readDrift_35 : decode cX3_readDrift 35 = .ok (.iconst 1, 1) := by decide +kernel
theorem dX3_readDrift_36 : decode cX3_readDrift 36 = .ok (.iload_n 1, 1) := by decide +kernel
theorem dX3_readDrift_37 : decode cX3_readDrift 37 = .ok (.ishl, 1) := by decide +kernel
theorem dX3_readDrift_38 : decode cX3_readDrift 38 = .ok (.ior, 1) := by decide +kernel
theorem dX3_readDrift_39 : decode cX3_readDrift 39 = .ok (.putfield 217, 3) := by decide +kernel
theorem dX3_readDrift_42 : decode cX3_readDrift 42 = .ok (.aload_n 0, 1) := by decide +kernel
theorem dX3_readDrift_43 : decode cX3_readDrift 43 = .ok (.getfield 26, 3) := by decide +kernel
theorem dX3_readDrift_46 : decode cX3_readDrift 46 = .ok (.getfield 207, 3) := by decide +kernel
theorem dX3_readDrift_49 : decode cX3_readDrift 49 = .ok (.iload_n 1, 1) := by decide +kernel
theorem dX3_readDrift_50 : decode cX3_readDrift 50 = .ok (.iload_n 2, 1) := by decide +kernel
theorem dX3_readDrift_51 : decode cX3_readDrift 51 = .ok (.iastore, 1) := by decide +kernel
theorem dX3_readDrift_52 : decode cX3_readDrift 52 = .ok (.aload_n 0, 1) := by decide +kernel
theorem dX3_readDrift_53 : decode cX3_readDrift 53 = .ok (.getfield 26, 3) := by decide +kernel
theorem dX3_readDrift_56 : decode cX3_readDrift 56 = .ok (.getfield 210, 3) := by decide +kernel
theorem dX3_readDrift_59 : decode cX3_readDrift 59 = .ok (.iload_n 1, 1) := by decide +kernel
theorem dX3_readDrift_60 : decode cX3_readDrift 60 = .ok (.iload_n 3, 1) := by decide +kernel
theorem dX3_readDrift_61 : decode cX3_readDrift 61 = .ok (.iastore, 1) := by decide +kernel
theorem dX3_readDrift_62 : decode cX3_readDrift 62 = .ok (.return_, 1) := by decide +kernel
theorem dX3_readSlit_0 : decode cX3_readSlit 0 = .ok (.aload_n 0, 1) := by decide +kernel
theorem dX3_readSlit_1 : decode cX3_readSlit 1 = .ok (.invokevirtual 43, 3) := by decide +kernel
theorem dX3_readSlit_4 : decode cX3_readSlit 4 = .ok (.aload_n 0, 1) := by decide +kernel
theorem dX3_readSlit_5 : decode cX3_readSlit 5 = .ok (.getfield 22, 3) := by decide +kernel
theorem dX3_readSlit_8 : decode cX3_readSlit 8 = .ok (.getfield 98, 3) := by decide +kernel
theorem dX3_readSlit_11 : decode cX3_readSlit 11 = .ok (.iconst (-1), 1) := by decide +kernel
theorem dX3_readSlit_12 : decode cX3_readSlit 12 = .ok (.if_icmp .ne 7, 3) := by decide +kernel
theorem dX3_readSlit_15 : decode cX3_readSlit 15 = .ok (.iconst (-1), 1) := by decide +kernel
theorem dX3_readSlit_16 : decode cX3_readSlit 16 = .ok (.goto 12, 3) := by decide +kernel
theorem dX3_readSlit_19 : decode cX3_readSlit 19 = .ok (.aload_n 0, 1) := by decide +kernel
theorem dX3_readSlit_20 : decode cX3_readSlit 20 = .ok (.getfield 22, 3) := by decide +kernel
theorem dX3_readSlit_23 : decode cX3_readSlit 23 = .ok (.getfield 87, 3) := by decide +kernel
theorem dX3_readSlit_26 : decode cX3_readSlit 26 = .ok (.iconst 1, 1) := by decide +kernel
theorem dX3_readSlit_27 : decode cX3_readSlit 27 = .ok (.isub, 1) := by decide +kernel
theorem dX3_readSlit_28 : decode cX3_readSlit 28 = .ok (.istore_n 1, 1) := by decide +kernel
theorem dX3_readSlit_29 : decode cX3_readSlit 29 = .ok (.aload_n 0, 1) := by decide +kernel
theorem dX3_readSlit_30 : decode cX3_readSlit 30 = .ok (.iconst 0, 1) := by decide +kernel
theorem dX3_readSlit_31 : decode cX3_readSlit 31 = .ok (.iload_n 1, 1) := by decide +kernel
theorem dX3_readSlit_32 : decode cX3_readSlit 32 = .ok (.invokevirtual 76, 3) := by decide +kernel
theorem dX3_readSlit_35 : decode cX3_readSlit 35 = .ok (.istore_n 2, 1) := by decide +kernel
theorem dX3_readSlit_36 : decode cX3_readSlit 36 = .ok (.aload_n 0, 1) := by decide +kernel
theorem dX3_readSlit_37 : decode cX3_readSlit 37 = .ok (.iload_n 2, 1) := by decide +kernel
theorem dX3_readSlit_38 : decode cX3_readSlit 38 = .ok (.iload_n 1, 1) := by decide +kernel
theorem dX3_readSlit_39 : decode cX3_readSlit 39 = .ok (.invokevirtual 76, 3) := by decide +kernel
theorem dX3_readSlit_42 : decode cX3_readSlit 42 = .ok (.istore_n 3, 1) := by decide +kernel
theorem dX3_readSlit_43 : decode cX3_readSlit 43 = .ok (.aload_n 0, 1) := by decide +kernel
theorem dX3_readSlit_44 : decode cX3_readSlit 44 = .ok (.getfield 56, 3) := by decide +kernel
theorem dX3_readSlit_47 : decode cX3_readSlit 47 = .ok (.ifCond .ne 34, 3) := by decide +kernel
theorem dX3_readSlit_50 : decode cX3_readSlit 50 = .ok (.iload_n 2, 1) := by decide +kernel
theorem dX3_readSlit_51 : decode cX3_readSlit 51 = .ok (.istore 4, 2) := by decide +kernel
theorem dX3_readSlit_53 : decode cX3_readSlit 53 = .ok (.iload 4, 2) := by decide +kernel
theorem dX3_readSlit_55 : decode cX3_readSlit 55 = .ok (.iload_n 3, 1) := by decide +kernel
theorem dX3_readSlit_56 : decode cX3_readSlit 56 = .ok (.if_icmp .gt 25, 3) := by decide +kernel
theorem dX3_readSlit_59 : decode cX3_readSlit 59 = .ok (.aload_n 0, 1) := by decide +kernel
theorem dX3_readSlit_60 : decode cX3_readSlit 60 = .ok (.getfield 26, 3) := by decide +kernel
theorem dX3_readSlit_63 : decode cX3_readSlit 63 = .ok (.dup, 1) := by decide +kernel
theorem dX3_readSlit_64 : decode cX3_readSlit 64 = .ok (.getfield 40, 3) := by decide +kernel
theorem dX3_readSlit_67 : decode cX3_readSlit 67 = .ok (.iconst 1, 1) := by decide +kernel
theorem dX3_readSlit_68 : decode cX3_readSlit 68 = .ok (.iload 4, 2) := by decide +kernel
theorem dX3_readSlit_70 : decode cX3_readSlit 70 = .ok (.ishl, 1) := by decide +kernel
theorem dX3_readSlit_71 : decode cX3_readSlit 71 = .ok (.ior, 1) := by decide +kernel
theorem dX3_readSlit_72 : decode cX3_readSlit 72 = .ok (.putfield 40, 3) := by decide +kernel
theorem dX3_readSlit_75 : decode cX3_readSlit 75 = .ok (.iinc 4 1, 3) := by decide +kernel
theorem dX3_readSlit_78 : decode cX3_readSlit 78 = .ok (.goto (-25), 3) := by decide +kernel
theorem dX3_readSlit_81 : decode cX3_readSlit 81 = .ok (.return_, 1) := by decide +kernel
theorem dX3_readOff_0 : decode cX3_readOff 0 = .ok (.aload_n 0, 1) := by decide +kernel
theorem dX3_readOff_1 : decode cX3_readOff 1 = .ok (.invokevirtual 43, 3) := by decide +kernel
theorem dX3_readOff_4 : decode cX3_readOff 4 = .ok (.aload_n 0, 1) := by decide +kernel
theorem dX3_readOff_5 : decode cX3_readOff 5 = .ok (.aload_n 0, 1) := by decide +kernel
theorem dX3_readOff_6 : decode cX3_readOff 6 = .ok (.getfield 227, 3) := by decide +kernel
theorem dX3_readOff_9 : decode cX3_readOff 9 = .ok (.invokevirtual 220, 3) := by decide +kernel
theorem dX3_readOff_12 : decode cX3_readOff 12 = .ok (.istore_n 1, 1) := by decide +kernel
theorem dX3_readOff_13 : decode cX3_readOff 13 = .ok (.aload_n 0, 1) := by decide +kernel
theorem dX3_readOff_14 : decode cX3_readOff 14 = .ok (.getfield 56, 3) := by decide +kernel
theorem dX3_readOff_17 : decode cX3_readOff 17 = .ok (.ifCond .ne 25, 3) := by decide +kernel
theorem dX3_readOff_20 : decode cX3_readOff 20 = .ok (.aload_n 0, 1) := by decide +kernel
theorem dX3_readOff_21 : decode cX3_readOff 21 = .ok (.dup, 1) := by decide +kernel
theorem dX3_readOff_22 : decode cX3_readOff 22 = .ok (.getfield 227, 3) := by decide +kernel
theorem dX3_readOff_25 : decode cX3_readOff 25 = .ok (.iconst 1, 1) := by decide +kernel
theorem dX3_readOff_26 : decode cX3_readOff 26 = .ok (.iload_n 1, 1) := by decide +kernel
theorem dX3_readOff_27 : decode cX3_readOff 27 = .ok (.ishl, 1) := by decide +kernel
theorem dX3_readOff_28 : decode cX3_readOff 28 = .ok (.ior, 1) := by decide +kernel
theorem dX3_readOff_29 : decode cX3_readOff 29 = .ok (.putfield 227, 3) := by decide +kernel
theorem dX3_readOff_32 : decode cX3_readOff 32 = .ok (.aload_n 0, 1) := by decide +kernel
theorem dX3_readOff_33 : decode cX3_readOff 33 = .ok (.getfield 26, 3) := by decide +kernel
theorem dX3_readOff_36 : decode cX3_readOff 36 = .ok (.getfield 213, 3) := by decide +kernel
theorem dX3_readOff_39 : decode cX3_readOff 39 = .ok (.iload_n 1, 1) := by decide +kernel
theorem dX3_readOff_40 : decode cX3_readOff 40 = .ok (.iconst 0, 1) := by decide +kernel
theorem dX3_readOff_41 : decode cX3_readOff 41 = .ok (.bastore, 1) := by decide +kernel
theorem dX3_readOff_42 : decode cX3_readOff 42 = .ok (.return_, 1) := by decide +kernel
theorem dX3_readMirror_0 : decode cX3_readMirror 0 = .ok (.aload_n 0, 1) := by decide +kernel
theorem dX3_readMirror_1 : decode cX3_readMirror 1 = .ok (.invokevirtual 43, 3) := by decide +kernel
theorem dX3_readMirror_4 : decode cX3_readMirror 4 = .ok (.aload_n 0, 1) := by decide +kernel
theorem dX3_readMirror_5 : decode cX3_readMirror 5 = .ok (.invokevirtual 230, 3) := by decide +kernel
theorem dX3_readMirror_8 : decode cX3_readMirror 8 = .ok (.istore_n 1, 1) := by decide +kernel
theorem dX3_readMirror_9 : decode cX3_readMirror 9 = .ok (.aload_n 0, 1) := by decide +kernel
theorem dX3_readMirror_10 : decode cX3_readMirror 10 = .ok (.iconst 1, 1) := by decide +kernel
theorem dX3_readMirror_11 : decode cX3_readMirror 11 = .ok (.bipush 100, 2) := by decide +kernel
theorem dX3_readMirror_13 : decode cX3_readMirror 13 = .ok (.invokevirtual 76, 3) := by decide +kernel
theorem dX3_readMirror_16 : decode cX3_readMirror 16 = .ok (.istore_n 2, 1) := by decide +kernel
theorem dX3_readMirror_17 : decode cX3_readMirror 17 = .ok (.aload_n 0, 1) := by decide +kernel
theorem dX3_readMirror_18 : decode cX3_readMirror 18 = .ok (.getfield 56, 3) := by decide +kernel
theorem dX3_readMirror_21 : decode cX3_readMirror 21 = .ok (.ifCond .ne 13, 3) := by decide +kernel
theorem dX3_readMirror_24 : decode cX3_readMirror 24 = .ok (.aload_n 0, 1) := by decide +kernel
theorem dX3_readMirror_25 : decode cX3_readMirror 25 = .ok (.getfield 22, 3) := by decide +kernel
theorem dX3_readMirror_28 : decode cX3_readMirror 28 = .ok (.getfield 233, 3) := by decide +kernel
theorem dX3_readMirror_31 : decode cX3_readMirror 31 = .ok (.iload_n 1, 1) := by decide +kernel
theorem dX3_readMirror_32 : decode cX3_readMirror 32 = .ok (.iload_n 2, 1) := by decide +kernel
theorem dX3_readMirror_33 : decode cX3_readMirror 33 = .ok (.iastore, 1) := by decide +kernel
theorem dX3_readMirror_34 : decode cX3_readMirror 34 = .ok (.return_, 1) := by decide +kernel
theorem dX3_readCut_0 : decode cX3_readCut 0 = .ok (.aload_n 0, 1) := by decide +kernel
theorem dX3_readCut_1 : decode cX3_readCut 1 = .ok (.aload_n 0, 1) := by decide +kernel
theorem dX3_readCut_2 : decode cX3_readCut 2 = .ok (.getfield 236, 3) := by decide +kernel
theorem dX3_readCut_5 : decode cX3_readCut 5 = .ok (.bipush 6, 2) := by decide +kernel
theorem dX3_readCut_7 : decode cX3_readCut 7 = .ok (.invokevirtual 149, 3) := by decide +kernel
theorem dX3_readCut_10 : decode cX3_readCut 10 = .ok (.ifCond .ne 4, 3) := by decide +kernel
theorem dX3_readCut_13 : decode cX3_readCut 13 = .ok (.return_, 1) := by decide +kernel
theorem dX3_readCut_14 : decode cX3_readCut 14 = .ok (.aload_n 0, 1) := by decide +kernel
theorem dX3_readCut_15 : decode cX3_readCut 15 = .ok (.iconst 0, 1) := by decide +kernel
theorem dX3_readCut_16 : decode cX3_readCut 16 = .ok (.invokevirtual 220, 3) := by decide +kernel
theorem dX3_readCut_19 : decode cX3_readCut 19 = .ok (.istore_n 1, 1) := by decide +kernel
theorem dX3_readCut_20 : decode cX3_readCut 20 = .ok (.aload_n 0, 1) := by decide +kernel
theorem dX3_readCut_21 : decode cX3_readCut 21 = .ok (.iconst 0, 1) := by decide +kernel
theorem dX3_readCut_22 : decode cX3_readCut 22 = .ok (.sipush 9999, 3) := by decide +kernel
theorem dX3_readCut_25 : decode cX3_readCut 25 = .ok (.invokevirtual 76, 3) := by decide +kernel
theorem dX3_readCut_28 : decode cX3_readCut 28 = .ok (.istore_n 2, 1) := by decide +kernel
theorem dX3_readCut_29 : decode cX3_readCut 29 = .ok (.aload_n 0, 1) := by decide +kernel
theorem dX3_readCut_30 : decode cX3_readCut 30 = .ok (.iload_n 2, 1) := by decide +kernel
theorem dX3_readCut_31 : decode cX3_readCut 31 = .ok (.sipush 9999, 3) := by decide +kernel
theorem dX3_readCut_34 : decode cX3_readCut 34 = .ok (.invokevirtual 76, 3) := by decide +kernel
theorem dX3_readCut_37 : decode cX3_readCut 37 = .ok (.istore_n 3, 1) := by decide +kernel
theorem dX3_readCut_38 : decode cX3_readCut 38 = .ok (.aload_n 0, 1) := by decide +kernel
theorem dX3_readCut_39 : decode cX3_readCut 39 = .ok (.getfield 56, 3) := by decide +kernel
theorem dX3_readCut_42 : decode cX3_readCut 42 = .ok (.ifCond .ne 27, 3) := by decide +kernel
theorem dX3_readCut_45 : decode cX3_readCut 45 = .ok (.aload_n 0, 1) := by decide +kernel
theorem dX3_readCut_46 : decode cX3_readCut 46 = .ok (.getfield 22, 3) := by decide +kernel
theorem dX3_readCut_49 : decode cX3_readCut 49 = .ok (.getfield 153, 3) := by decide +kernel
theorem dX3_readCut_52 : decode cX3_readCut 52 = .ok (.iload_n 1, 1) := by decide +kernel
theorem dX3_readCut_53 : decode cX3_readCut 53 = .ok (.aaload, 1) := by decide +kernel
theorem dX3_readCut_54 : decode cX3_readCut 54 = .ok (.iload_n 2, 1) := by decide +kernel
theorem dX3_readCut_55 : decode cX3_readCut 55 = .ok (.iload_n 3, 1) := by decide +kernel
theorem dX3_readCut_56 : decode cX3_readCut 56 = .ok (.invokevirtual 237, 3) := by decide +kernel
theorem dX3_readCut_59 : decode cX3_readCut 59 = .ok (.aload_n 0, 1) := by decide +kernel
theorem dX3_readCut_60 : decode cX3_readCut 60 = .ok (.dup, 1) := by decide +kernel
theorem dX3_readCut_61 : decode cX3_readCut 61 = .ok (.getfield 236, 3) := by decide +kernel
theorem dX3_readCut_64 : decode cX3_readCut 64 = .ok (.iconst 1, 1) := by decide +kernel
theorem dX3_readCut_65 : decode cX3_readCut 65 = .ok (.iadd, 1) := by decide +kernel
theorem dX3_readCut_66 : decode cX3_readCut 66 = .ok (.putfield 236, 3) := by decide +kernel
theorem dX3_readCut_69 : decode cX3_readCut 69 = .ok (.return_, 1) := by decide +kernel
theorem dX3_readShape_0 : decode cX3_readShape 0 = .ok (.aload_n 0, 1) := by decide +kernel
theorem dX3_readShape_1 : decode cX3_readShape 1 = .ok (.invokevirtual 43, 3) := by decide +kernel
theorem dX3_readShape_4 : decode cX3_readShape 4 = .ok (.aload_n 0, 1) := by decide +kernel
theorem dX3_readShape_5 : decode cX3_readShape 5 = .ok (.aload_n 0, 1) := by decide +kernel
theorem dX3_readShape_6 : decode cX3_readShape 6 = .ok (.getfield 241, 3) := by decide +kernel
theorem dX3_readShape_9 : decode cX3_readShape 9 = .ok (.invokevirtual 220, 3) := by decide +kernel
theorem dX3_readShape_12 : decode cX3_readShape 12 = .ok (.istore_n 1, 1) := by decide +kernel
theorem dX3_readShape_13 : decode cX3_readShape 13 = .ok (.iconst 0, 1) := by decide +kernel
theorem dX3_readShape_14 : decode cX3_readShape 14 = .ok (.istore_n 2, 1) := by decide +kernel
theorem dX3_readShape_15 : decode cX3_readShape 15 = .ok (.aload_n 0, 1) := by decide +kernel
theorem dX3_readShape_16 : decode cX3_readShape 16 = .ok (.ldc 244, 2) := by decide +kernel
theorem dX3_readShape_18 : decode cX3_readShape 18 = .ok (.invokevirtual 94, 3) := by decide +kernel
theorem dX3_readShape_21 : decode cX3_readShape 21 = .ok (.ifCond .eq 8, 3) := by decide +kernel
theorem dX3_readShape_24 : decode cX3_readShape 24 = .ok (.iconst 1, 1) := by decide +kernel
theorem dX3_readShape_25 : decode cX3_readShape 25 = .ok (.istore_n 2, 1) := by decide +kernel
theorem dX3_readShape_26 : decode cX3_readShape 26 = .ok (.goto 22, 3) := by decide +kernel
theorem dX3_readShape_29 : decode cX3_readShape 29 = .ok (.aload_n 0, 1) := by decide +kernel
theorem dX3_readShape_30 : decode cX3_readShape 30 = .ok (.ldc 246, 2) := by decide +kernel
theorem dX3_readShape_32 : decode cX3_readShape 32 = .ok (.invokevirtual 94, 3) := by decide +kernel
theorem dX3_readShape_35 : decode cX3_readShape 35 = .ok (.ifCond .eq 8, 3) := by decide +kernel
theorem dX3_readShape_38 : decode cX3_readShape 38 = .ok (.iconst 2, 1) := by decide +kernel
theorem dX3_readShape_39 : decode cX3_readShape 39 = .ok (.istore_n 2, 1) := by decide +kernel
theorem dX3_readShape_40 : decode cX3_readShape 40 = .ok (.goto 8, 3) := by decide +kernel
theorem dX3_readShape_43 : decode cX3_readShape 43 = .ok (.aload_n 0, 1) := by decide +kernel
theorem dX3_readShape_44 : decode cX3_readShape 44 = .ok (.iconst 1, 1) := by decide +kernel
theorem dX3_readShape_45 : decode cX3_readShape 45 = .ok (.invokevirtual 62, 3) := by decide +kernel
theorem dX3_readShape_48 : decode cX3_readShape 48 = .ok (.aload_n 0, 1) := by decide +kernel
theorem dX3_readShape_49 : decode cX3_readShape 49 = .ok (.getfield 56, 3) := by decide +kernel
theorem dX3_readShape_52 : decode cX3_readShape 52 = .ok (.ifCond .ne 28, 3) := by decide +kernel
theorem dX3_readShape_55 : decode cX3_readShape 55 = .ok (.aload_n 0, 1) := by decide +kernel
theorem dX3_readShape_56 : decode cX3_readShape 56 = .ok (.dup, 1) := by decide +kernel
theorem dX3_readShape_57 : decode cX3_readShape 57 = .ok (.getfield 241, 3) := by decide +kernel
theorem dX3_readShape_60 : decode cX3_readShape 60 = .ok (.iconst 1, 1) := by decide +kernel
theorem dX3_readShape_61 : decode cX3_readShape 61 = .ok (.iload_n 1, 1) := by decide +kernel
theorem dX3_readShape_62 : decode cX3_readShape 62 = .ok (.ishl, 1) := by decide +kernel
theorem dX3_readShape_63 : decode cX3_readShape 63 = .ok (.ior, 1) := by decide +kernel
theorem dX3_readShape_64 : decode cX3_readShape 64 = .ok (.putfield 241, 3) := by decide +kernel
theorem dX3_readShape_67 : decode cX3_readShape 67 = .ok (.aload_n 0, 1) := by decide +kernel
theorem dX3_readShape_68 : decode cX3_readShape 68 = .ok (.getfield 22, 3) := by decide +kernel
theorem dX3_readShape_71 : decode cX3_readShape 71 = .ok (.getfield 153, 3) := by decide +kernel
theorem dX3_readShape_74 : decode cX3_readShape 74 = .ok (.iload_n 1, 1) := by decide +kernel
theorem dX3_readShape_75 : decode cX3_readShape 75 = .ok (.aaload, 1) := by decide +kernel
theorem dX3_readShape_76 : decode cX3_readShape 76 = .ok (.iload_n 2, 1) := by decide +kernel
theorem dX3_readShape_77 : decode cX3_readShape 77 = .ok (.putfield 202, 3) := by decide +kernel
theorem dX3_readShape_80 : decode cX3_readShape 80 = .ok (.return_, 1) := by decide +kernel
theorem dX3_readShoal_0 : decode cX3_readShoal 0 = .ok (.aload_n 0, 1) := by decide +kernel
theorem dX3_readShoal_1 : decode cX3_readShoal 1 = .ok (.aload_n 0, 1) := by decide +kernel
theorem dX3_readShoal_2 : decode cX3_readShoal 2 = .ok (.getfield 22, 3) := by decide +kernel
theorem dX3_readShoal_5 : decode cX3_readShoal 5 = .ok (.getfield 248, 3) := by decide +kernel
theorem dX3_readShoal_8 : decode cX3_readShoal 8 = .ok (.iconst 3, 1) := by decide +kernel
theorem dX3_readShoal_9 : decode cX3_readShoal 9 = .ok (.invokevirtual 149, 3) := by decide +kernel
theorem dX3_readShoal_12 : decode cX3_readShoal 12 = .ok (.ifCond .ne 4, 3) := by decide +kernel
theorem dX3_readShoal_15 : decode cX3_readShoal 15 = .ok (.return_, 1) := by decide +kernel
theorem dX3_readShoal_16 : decode cX3_readShoal 16 = .ok (.aload_n 0, 1) := by decide +kernel
theorem dX3_readShoal_17 : decode cX3_readShoal 17 = .ok (.getfield 22, 3) := by decide +kernel
theorem dX3_readShoal_20 : decode cX3_readShoal 20 = .ok (.getfield 251, 3) := by decide +kernel
theorem dX3_readShoal_23 : decode cX3_readShoal 23 = .ok (.aload_n 0, 1) := by decide +kernel
theorem dX3_readShoal_24 : decode cX3_readShoal 24 = .ok (.getfield 22, 3) := by decide +kernel
theorem dX3_readShoal_27 : decode cX3_readShoal 27 = .ok (.getfield 248, 3) := by decide +kernel
theorem dX3_readShoal_30 : decode cX3_readShoal 30 = .ok (.aaload, 1) := by decide +kernel
theorem dX3_readShoal_31 : decode cX3_readShoal 31 = .ok (.astore_n 1, 1) := by decide +kernel
theorem dX3_readShoal_32 : decode cX3_readShoal 32 = .ok (.aload_n 1, 1) := by decide +kernel
theorem dX3_readShoal_33 : decode cX3_readShoal 33 = .ok (.aload_n 0, 1) := by decide +kernel
theorem dX3_readShoal_34 : decode cX3_readShoal 34 = .ok (.iconst 0, 1) := by decide +kernel
theorem dX3_readShoal_35 : decode cX3_readShoal 35 = .ok (.invokevirtual 160, 3) := by decide +kernel
theorem dX3_readShoal_38 : decode cX3_readShoal 38 = .ok (.putfield 255, 3) := by decide +kernel
theorem dX3_readShoal_41 : decode cX3_readShoal 41 = .ok (.aload_n 1, 1) := by decide +kernel
theorem dX3_readShoal_42 : decode cX3_readShoal 42 = .ok (.aload_n 0, 1) := by decide +kernel
theorem dX3_readShoal_43 : decode cX3_readShoal 43 = .ok (.iconst 0, 1) := by decide +kernel
theorem dX3_readShoal_44 : decode cX3_readShoal 44 = .ok (.invokevirtual 166, 3) := by decide +kernel
theorem dX3_readShoal_47 : decode cX3_readShoal 47 = .ok (.putfield 260, 3) := by decide +kernel
theorem dX3_readShoal_50 : decode cX3_readShoal 50 = .ok (.aload_n 1, 1) := by decide +kernel
theorem dX3_readShoal_51 : decode cX3_readShoal 51 = .ok (.aload_n 0, 1) := by decide +kernel
theorem dX3_readShoal_52 : decode cX3_readShoal 52 = .ok (.aload_n 1, 1) := by decide +kernel
theorem dX3_readShoal_53 : decode cX3_readShoal 53 = .ok (.getfield 255, 3) := by decide +kernel
theorem dX3_readShoal_56 : decode cX3_readShoal 56 = .ok (.invokevirtual 160, 3) := by decide +kernel
theorem dX3_readShoal_59 : decode cX3_readShoal 59 = .ok (.putfield 263, 3) := by decide +kernel
theorem dX3_readShoal_62 : decode cX3_readShoal 62 = .ok (.aload_n 1, 1) := by decide +kernel
theorem dX3_readShoal_63 : decode cX3_readShoal 63 = .ok (.aload_n 0, 1) := by decide +kernel
theorem dX3_readShoal_64 : decode cX3_readShoal 64 = .ok (.aload_n 1, 1) := by decide +kernel
theorem dX3_readShoal_65 : decode cX3_readShoal 65 = .ok (.getfield 260, 3) := by decide +kernel
theorem dX3_readShoal_68 : decode cX3_readShoal 68 = .ok (.invokevirtual 166, 3) := by decide +kernel
theorem dX3_readShoal_71 : decode cX3_readShoal 71 = .ok (.putfield 266, 3) := by decide +kernel
theorem dX3_readShoal_74 : decode cX3_readShoal 74 = .ok (.aload_n 1, 1) := by decide +kernel
theorem dX3_readShoal_75 : decode cX3_readShoal 75 = .ok (.aload_n 0, 1) := by decide +kernel
theorem dX3_readShoal_76 : decode cX3_readShoal 76 = .ok (.iconst 0, 1) := by decide +kernel
theorem dX3_readShoal_77 : decode cX3_readShoal 77 = .ok (.sipush 200, 3) := by decide +kernel
theorem dX3_readShoal_80 : decode cX3_readShoal 80 = .ok (.invokevirtual 76, 3) := by decide +kernel
theorem dX3_readShoal_83 : decode cX3_readShoal 83 = .ok (.putfield 269, 3) := by decide +kernel
theorem dX3_readShoal_86 : decode cX3_readShoal 86 = .ok (.aload_n 0, 1) := by decide +kernel
theorem dX3_readShoal_87 : decode cX3_readShoal 87 = .ok (.getfield 56, 3) := by decide +kernel
theorem dX3_readShoal_90 : decode cX3_readShoal 90 = .ok (.ifCond .ne 16, 3) := by decide +kernel
theorem dX3_readShoal_93 : decode cX3_readShoal 93 = .ok (.aload_n 0, 1) := by decide +kernel
theorem dX3_readShoal_94 : decode cX3_readShoal 94 = .ok (.getfield 22, 3) := by decide +kernel
theorem dX3_readShoal_97 : decode cX3_readShoal 97 = .ok (.dup, 1) := by decide +kernel
theorem dX3_readShoal_98 : decode cX3_readShoal 98 = .ok (.getfield 248, 3) := by decide +kernel
theorem dX3_readShoal_101 : decode cX3_readShoal 101 = .ok (.iconst 1, 1) := by decide +kernel
theorem dX3_readShoal_102 : decode cX3_readShoal 102 = .ok (.iadd, 1) := by decide +kernel
theorem dX3_readShoal_103 : decode cX3_readShoal 103 = .ok (.putfield 248, 3) := by decide +kernel
theorem dX3_readShoal_106 : decode cX3_readShoal 106 = .ok (.return_, 1) := by decide +kernel
theorem dX3_readGauge_0 : decode cX3_readGauge 0 = .ok (.aload_n 0, 1) := by decide +kernel
theorem dX3_readGauge_1 : decode cX3_readGauge 1 = .ok (.aload_n 0, 1) := by decide +kernel
theorem dX3_readGauge_2 : decode cX3_readGauge 2 = .ok (.getfield 22, 3) := by decide +kernel
theorem dX3_readGauge_5 : decode cX3_readGauge 5 = .ok (.getfield 272, 3) := by decide +kernel
theorem dX3_readGauge_8 : decode cX3_readGauge 8 = .ok (.iconst 4, 1) := by decide +kernel
theorem dX3_readGauge_9 : decode cX3_readGauge 9 = .ok (.invokevirtual 149, 3) := by decide +kernel
theorem dX3_readGauge_12 : decode cX3_readGauge 12 = .ok (.ifCond .ne 4, 3) := by decide +kernel
theorem dX3_readGauge_15 : decode cX3_readGauge 15 = .ok (.return_, 1) := by decide +kernel
theorem dX3_readGauge_16 : decode cX3_readGauge 16 = .ok (.aload_n 0, 1) := by decide +kernel
theorem dX3_readGauge_17 : decode cX3_readGauge 17 = .ok (.getfield 22, 3) := by decide +kernel
theorem dX3_readGauge_20 : decode cX3_readGauge 20 = .ok (.getfield 275, 3) := by decide +kernel
theorem dX3_readGauge_23 : decode cX3_readGauge 23 = .ok (.aload_n 0, 1) := by decide +kernel
theorem dX3_readGauge_24 : decode cX3_readGauge 24 = .ok (.getfield 22, 3) := by decide +kernel
theorem dX3_readGauge_27 : decode cX3_readGauge 27 = .ok (.getfield 272, 3) := by decide +kernel
theorem dX3_readGauge_30 : decode cX3_readGauge 30 = .ok (.aload_n 0, 1) := by decide +kernel
theorem dX3_readGauge_31 : decode cX3_readGauge 31 = .ok (.iconst 0, 1) := by decide +kernel
theorem dX3_readGauge_32 : decode cX3_readGauge 32 = .ok (.invokevirtual 160, 3) := by decide +kernel
theorem dX3_readGauge_35 : decode cX3_readGauge 35 = .ok (.iastore, 1) := by decide +kernel
theorem dX3_readGauge_36 : decode cX3_readGauge 36 = .ok (.aload_n 0, 1) := by decide +kernel
theorem dX3_readGauge_37 : decode cX3_readGauge 37 = .ok (.getfield 22, 3) := by decide +kernel
theorem dX3_readGauge_40 : decode cX3_readGauge 40 = .ok (.getfield 278, 3) := by decide +kernel
theorem dX3_readGauge_43 : decode cX3_readGauge 43 = .ok (.aload_n 0, 1) := by decide +kernel
theorem dX3_readGauge_44 : decode cX3_readGauge 44 = .ok (.getfield 22, 3) := by decide +kernel
theorem dX3_readGauge_47 : decode cX3_readGauge 47 = .ok (.getfield 272, 3) := by decide +kernel
theorem dX3_readGauge_50 : decode cX3_readGauge 50 = .ok (.aload_n 0, 1) := by decide +kernel
theorem dX3_readGauge_51 : decode cX3_readGauge 51 = .ok (.iconst 0, 1) := by decide +kernel
theorem dX3_readGauge_52 : decode cX3_readGauge 52 = .ok (.invokevirtual 166, 3) := by decide +kernel
theorem dX3_readGauge_55 : decode cX3_readGauge 55 = .ok (.iastore, 1) := by decide +kernel
theorem dX3_readGauge_56 : decode cX3_readGauge 56 = .ok (.aload_n 0, 1) := by decide +kernel
theorem dX3_readGauge_57 : decode cX3_readGauge 57 = .ok (.getfield 56, 3) := by decide +kernel
theorem dX3_readGauge_60 : decode cX3_readGauge 60 = .ok (.ifCond .ne 16, 3) := by decide +kernel
theorem dX3_readGauge_63 : decode cX3_readGauge 63 = .ok (.aload_n 0, 1) := by decide +kernel
theorem dX3_readGauge_64 : decode cX3_readGauge 64 = .ok (.getfield 22, 3) := by decide +kernel
theorem dX3_readGauge_67 : decode cX3_readGauge 67 = .ok (.dup, 1) := by decide +kernel
theorem dX3_readGauge_68 : decode cX3_readGauge 68 = .ok (.getfield 272, 3) := by decide +kernel
theorem dX3_readGauge_71 : decode cX3_readGauge 71 = .ok (.iconst 1, 1) := by decide +kernel
theorem dX3_readGauge_72 : decode cX3_readGauge 72 = .ok (.iadd, 1) := by decide +kernel
theorem dX3_readGauge_73 : decode cX3_readGauge 73 = .ok (.putfield 272, 3) := by decide +kernel
theorem dX3_readGauge_76 : decode cX3_readGauge 76 = .ok (.return_, 1) := by decide +kernel
theorem dX3_startCounted_0 : decode cX3_startCounted 0 = .ok (.iload_n 1, 1) := by decide +kernel
theorem dX3_startCounted_1 : decode cX3_startCounted 1 = .ok (.iload_n 2, 1) := by decide +kernel
theorem dX3_startCounted_2 : decode cX3_startCounted 2 = .ok (.if_icmp .lt 10, 3) := by decide +kernel
theorem dX3_startCounted_5 : decode cX3_startCounted 5 = .ok (.aload_n 0, 1) := by decide +kernel
theorem dX3_startCounted_6 : decode cX3_startCounted 6 = .ok (.iconst 4, 1) := by decide +kernel
theorem dX3_startCounted_7 : decode cX3_startCounted 7 = .ok (.invokevirtual 62, 3) := by decide +kernel
theorem dX3_startCounted_10 : decode cX3_startCounted 10 = .ok (.iconst 0, 1) := by decide +kernel
theorem dX3_startCounted_11 : decode cX3_startCounted 11 = .ok (.ireturn, 1) := by decide +kernel
theorem dX3_startCounted_12 : decode cX3_startCounted 12 = .ok (.aload_n 0, 1) := by decide +kernel
theorem dX3_startCounted_13 : decode cX3_startCounted 13 = .ok (.invokevirtual 43, 3) := by decide +kernel
theorem dX3_startCounted_16 : decode cX3_startCounted 16 = .ok (.iconst 1, 1) := by decide +kernel
theorem dX3_startCounted_17 : decode cX3_startCounted 17 = .ok (.ireturn, 1) := by decide +kernel
theorem dX3_readColumn_0 : decode cX3_readColumn 0 = .ok (.aload_n 0, 1) := by decide +kernel
theorem dX3_readColumn_1 : decode cX3_readColumn 1 = .ok (.iload_n 1, 1) := by decide +kernel
theorem dX3_readColumn_2 : decode cX3_readColumn 2 = .ok (.aload_n 0, 1) := by decide +kernel
theorem dX3_readColumn_3 : decode cX3_readColumn 3 = .ok (.getfield 22, 3) := by decide +kernel
theorem dX3_readColumn_6 : decode cX3_readColumn 6 = .ok (.getfield 84, 3) := by decide +kernel
theorem dX3_readColumn_9 : decode cX3_readColumn 9 = .ok (.iconst 1, 1) := by decide +kernel
theorem dX3_readColumn_10 : decode cX3_readColumn 10 = .ok (.isub, 1) := by decide +kernel
theorem dX3_readColumn_11 : decode cX3_readColumn 11 = .ok (.invokevirtual 76, 3) := by decide +kernel
theorem dX3_readColumn_14 : decode cX3_readColumn 14 = .ok (.ireturn, 1) := by decide +kernel
theorem dX3_readRow_0 : decode cX3_readRow 0 = .ok (.aload_n 0, 1) := by decide +kernel
theorem dX3_readRow_1 : decode cX3_readRow 1 = .ok (.iload_n 1, 1) := by decide +kernel
theorem dX3_readRow_2 : decode cX3_readRow 2 = .ok (.aload_n 0, 1) := by decide +kernel
theorem dX3_readRow_3 : decode cX3_readRow 3 = .ok (.getfield 22, 3) := by decide +kernel
theorem dX3_readRow_6 : decode cX3_readRow 6 = .ok (.getfield 87, 3) := by decide +kernel
theorem dX3_readRow_9 : decode cX3_readRow 9 = .ok (.iconst 1, 1) := by decide +kernel
theorem dX3_readRow_10 : decode cX3_readRow 10 = .ok (.isub, 1) := by decide +kernel
theorem dX3_readRow_11 : decode cX3_readRow 11 = .ok (.invokevirtual 76, 3) := by decide +kernel
theorem dX3_readRow_14 : decode cX3_readRow 14 = .ok (.ireturn, 1) := by decide +kernel
theorem dX3_readSource_0 : decode cX3_readSource 0 = .ok (.aload_n 0, 1) := by decide +kernel
theorem dX3_readSource_1 : decode cX3_readSource 1 = .ok (.getfield 59, 3) := by decide +kernel
theorem dX3_readSource_4 : decode cX3_readSource 4 = .ok (.iconst 2, 1) := by decide +kernel
theorem dX3_readSource_5 : decode cX3_readSource 5 = .ok (.if_icmp .ne 34, 3) := by decide +kernel
theorem dX3_readSource_8 : decode cX3_readSource 8 = .ok (.aload_n 0, 1) := by decide +kernel
theorem dX3_readSource_9 : decode cX3_readSource 9 = .ok (.getfield 281, 3) := by decide +kernel
theorem dX3_readSource_12 : decode cX3_readSource 12 = .ok (.aload_n 0, 1) := by decide +kernel
theorem dX3_readSource_13 : decode cX3_readSource 13 = .ok (.getfield 22, 3) := by decide +kernel
theorem dX3_readSource_16 : decode cX3_readSource 16 = .ok (.getfield 66, 3) := by decide +kernel
theorem dX3_readSource_19 : decode cX3_readSource 19 = .ok (.if_icmp .ge 20, 3) := by decide +kernel
theorem dX3_readSource_22 : decode cX3_readSource 22 = .ok (.iload_n 1, 1) := by decide +kernel
theorem dX3_readSource_23 : decode cX3_readSource 23 = .ok (.aload_n 0, 1) := by decide +kernel
theorem dX3_readSource_24 : decode cX3_readSource 24 = .ok (.getfield 281, 3) := by decide +kernel
theorem dX3_readSource_27 : decode cX3_readSource 27 = .ok (.ishr, 1) := by decide +kernel
theorem dX3_readSource_28 : decode cX3_readSource 28 = .ok (.iconst 1, 1) := by decide +kernel
theorem dX3_readSource_29 : decode cX3_readSource 29 = .ok (.iand, 1) := by decide +kernel
theorem dX3_readSource_30 : decode cX3_readSource 30 = .ok (.iconst 1, 1) := by decide +kernel
theorem dX3_readSource_31 : decode cX3_readSource 31 = .ok (.if_icmp .ne 8, 3) := by decide +kernel
theorem dX3_readSource_34 : decode cX3_readSource 34 = .ok (.aload_n 0, 1) := by decide +kernel
theorem dX3_readSource_35 : decode cX3_readSource 35 = .ok (.iconst 3, 1) := by decide +kernel
theorem dX3_readSource_36 : decode cX3_readSource 36 = .ok (.invokevirtual 62, 3) := by decide +kernel
theorem dX3_readSource_39 : decode cX3_readSource 39 = .ok (.aload_n 0, 1) := by decide +kernel
theorem dX3_readSource_40 : decode cX3_readSource 40 = .ok (.iconst 0, 1) := by decide +kernel
theorem dX3_readSource_41 : decode cX3_readSource 41 = .ok (.aload_n 0, 1) := by decide +kernel
theorem dX3_readSource_42 : decode cX3_readSource 42 = .ok (.getfield 22, 3) := by decide +kernel
theorem dX3_readSource_45 : decode cX3_readSource 45 = .ok (.getfield 66, 3) := by decide +kernel
theorem dX3_readSource_48 : decode cX3_readSource 48 = .ok (.iconst 1, 1) := by decide +kernel
theorem dX3_readSource_49 : decode cX3_readSource 49 = .ok (.isub, 1) := by decide +kernel
theorem dX3_readSource_50 : decode cX3_readSource 50 = .ok (.invokevirtual 76, 3) := by decide +kernel
theorem dX3_readSource_53 : decode cX3_readSource 53 = .ok (.ireturn, 1) := by decide +kernel
theorem dX3_readSide_0 : decode cX3_readSide 0 = .ok (.iconst (-1), 1) := by decide +kernel
theorem dX3_readSide_1 : decode cX3_readSide 1 = .ok (.istore_n 1, 1) := by decide +kernel
theorem dX3_readSide_2 : decode cX3_readSide 2 = .ok (.aload_n 0, 1) := by decide +kernel
theorem dX3_readSide_3 : decode cX3_readSide 3 = .ok (.ldc_w 284, 3) := by decide +kernel
theorem dX3_readSide_6 : decode cX3_readSide 6 = .ok (.invokevirtual 103, 3) := by decide +kernel
theorem dX3_readSide_9 : decode cX3_readSide 9 = .ok (.ifCond .eq 8, 3) := by decide +kernel
theorem dX3_readSide_12 : decode cX3_readSide 12 = .ok (.iconst 0, 1) := by decide +kernel
theorem dX3_readSide_13 : decode cX3_readSide 13 = .ok (.istore_n 1, 1) := by decide +kernel
theorem dX3_readSide_14 : decode cX3_readSide 14 = .ok (.goto 45, 3) := by decide +kernel
theorem dX3_readSide_17 : decode cX3_readSide 17 = .ok (.aload_n 0, 1) := by decide +kernel
theorem dX3_readSide_18 : decode cX3_readSide 18 = .ok (.ldc_w 286, 3) := by decide +kernel
theorem dX3_readSide_21 : decode cX3_readSide 21 = .ok (.invokevirtual 103, 3) := by decide +kernel
theorem dX3_readSide_24 : decode cX3_readSide 24 = .ok (.ifCond .eq 8, 3) := by decide +kernel
theorem dX3_readSide_27 : decode cX3_readSide 27 = .ok (.iconst 1, 1) := by decide +kernel
theorem dX3_readSide_28 : decode cX3_readSide 28 = .ok (.istore_n 1, 1) := by decide +kernel
theorem dX3_readSide_29 : decode cX3_readSide 29 = .ok (.goto 30, 3) := by decide +kernel
theorem dX3_readSide_32 : decode cX3_readSide 32 = .ok (.aload_n 0, 1) := by decide +kernel
theorem dX3_readSide_33 : decode cX3_readSide 33 = .ok (.ldc_w 288, 3) := by decide +kernel
theorem dX3_readSide_36 : decode cX3_readSide 36 = .ok (.invokevirtual 103, 3) := by decide +kernel
theorem dX3_readSide_39 : decode cX3_readSide 39 = .ok (.ifCond .eq 8, 3) := by decide +kernel
theorem dX3_readSide_42 : decode cX3_readSide 42 = .ok (.iconst 2, 1) := by decide +kernel
theorem dX3_readSide_43 : decode cX3_readSide 43 = .ok (.istore_n 1, 1) := by decide +kernel
theorem dX3_readSide_44 : decode cX3_readSide 44 = .ok (.goto 15, 3) := by decide +kernel
theorem dX3_readSide_47 : decode cX3_readSide 47 = .ok (.aload_n 0, 1) := by decide +kernel
theorem dX3_readSide_48 : decode cX3_readSide 48 = .ok (.ldc_w 290, 3) := by decide +kernel
theorem dX3_readSide_51 : decode cX3_readSide 51 = .ok (.invokevirtual 103, 3) := by decide +kernel
theorem dX3_readSide_54 : decode cX3_readSide 54 = .ok (.ifCond .eq 5, 3) := by decide +kernel
theorem dX3_readSide_57 : decode cX3_readSide 57 = .ok (.iconst 3, 1) := by decide +kernel
theorem dX3_readSide_58 : decode cX3_readSide 58 = .ok (.istore_n 1, 1) := by decide +kernel
theorem dX3_readSide_59 : decode cX3_readSide 59 = .ok (.iload_n 1, 1) := by decide +kernel
theorem dX3_readSide_60 : decode cX3_readSide 60 = .ok (.iconst (-1), 1) := by decide +kernel
theorem dX3_readSide_61 : decode cX3_readSide 61 = .ok (.if_icmp .ne 11, 3) := by decide +kernel
theorem dX3_readSide_64 : decode cX3_readSide 64 = .ok (.aload_n 0, 1) := by decide +kernel
theorem dX3_readSide_65 : decode cX3_readSide 65 = .ok (.iconst 1, 1) := by decide +kernel
theorem dX3_readSide_66 : decode cX3_readSide 66 = .ok (.invokevirtual 62, 3) := by decide +kernel
theorem dX3_readSide_69 : decode cX3_readSide 69 = .ok (.goto 27, 3) := by decide +kernel
theorem dX3_readSide_72 : decode cX3_readSide 72 = .ok (.aload_n 0, 1) := by decide +kernel
theorem dX3_readSide_73 : decode cX3_readSide 73 = .ok (.getfield 22, 3) := by decide +kernel
theorem dX3_readSide_76 : decode cX3_readSide 76 = .ok (.getfield 233, 3) := by decide +kernel
theorem dX3_readSide_79 : decode cX3_readSide 79 = .ok (.iload_n 1, 1) := by decide +kernel
theorem dX3_readSide_80 : decode cX3_readSide 80 = .ok (.iaload, 1) := by decide +kernel
theorem dX3_readSide_81 : decode cX3_readSide 81 = .ok (.ifCond .le 11, 3) := by decide +kernel
theorem dX3_readSide_84 : decode cX3_readSide 84 = .ok (.aload_n 0, 1) := by decide +kernel
theorem dX3_readSide_85 : decode cX3_readSide 85 = .ok (.iconst 3, 1) := by decide +kernel
theorem dX3_readSide_86 : decode cX3_readSide 86 = .ok (.invokevirtual 62, 3) := by decide +kernel
theorem dX3_readSide_89 : decode cX3_readSide 89 = .ok (.goto 7, 3) := by decide +kernel
theorem dX3_readSide_92 : decode cX3_readSide 92 = .ok (.aload_n 0, 1) := by decide +kernel
theorem dX3_readSide_93 : decode cX3_readSide 93 = .ok (.invokevirtual 43, 3) := by decide +kernel
theorem dX3_readSide_96 : decode cX3_readSide 96 = .ok (.iload_n 1, 1) := by decide +kernel
theorem dX3_readSide_97 : decode cX3_readSide 97 = .ok (.ireturn, 1) := by decide +kernel
theorem dX3_readSigned_0 : decode cX3_readSigned 0 = .ok (.aload_n 0, 1) := by decide +kernel
theorem dX3_readSigned_1 : decode cX3_readSigned 1 = .ok (.getfield 56, 3) := by decide +kernel
theorem dX3_readSigned_4 : decode cX3_readSigned 4 = .ok (.ifCond .ne 15, 3) := by decide +kernel
theorem dX3_readSigned_7 : decode cX3_readSigned 7 = .ok (.aload_n 0, 1) := by decide +kernel
theorem dX3_readSigned_8 : decode cX3_readSigned 8 = .ok (.getfield 59, 3) := by decide +kernel
theorem dX3_readSigned_11 : decode cX3_readSigned 11 = .ok (.iconst 3, 1) := by decide +kernel
theorem dX3_readSigned_12 : decode cX3_readSigned 12 = .ok (.if_icmp .ne 7, 3) := by decide +kernel
theorem dX3_readSigned_15 : decode cX3_readSigned 15 = .ok (.iconst 1, 1) := by decide +kernel
theorem dX3_readSigned_16 : decode cX3_readSigned 16 = .ok (.goto 4, 3) := by decide +kernel
theorem dX3_readSigned_19 : decode cX3_readSigned 19 = .ok (.iconst 0, 1) := by decide +kernel
theorem dX3_readSigned_20 : decode cX3_readSigned 20 = .ok (.istore_n 1, 1) := by decide +kernel
theorem dX3_readSigned_21 : decode cX3_readSigned 21 = .ok (.iload_n 1, 1) := by decide +kernel
theorem dX3_readSigned_22 : decode cX3_readSigned 22 = .ok (.ifCond .eq 7, 3) := by decide +kernel
theorem dX3_readSigned_25 : decode cX3_readSigned 25 = .ok (.aload_n 0, 1) := by decide +kernel
theorem dX3_readSigned_26 : decode cX3_readSigned 26 = .ok (.invokevirtual 43, 3) := by decide +kernel
theorem dX3_readSigned_29 : decode cX3_readSigned 29 = .ok (.aload_n 0, 1) := by decide +kernel
theorem dX3_readSigned_30 : decode cX3_readSigned 30 = .ok (.iconst 0, 1) := by decide +kernel
theorem dX3_readSigned_31 : decode cX3_readSigned 31 = .ok (.bipush 99, 2) := by decide +kernel
theorem dX3_readSigned_33 : decode cX3_readSigned 33 = .ok (.invokevirtual 76, 3) := by decide +kernel
theorem dX3_readSigned_36 : decode cX3_readSigned 36 = .ok (.istore_n 2, 1) := by decide +kernel
theorem dX3_readSigned_37 : decode cX3_readSigned 37 = .ok (.iload_n 1, 1) := by decide +kernel
theorem dX3_readSigned_38 : decode cX3_readSigned 38 = .ok (.ifCond .eq 8, 3) := by decide +kernel
theorem dX3_readSigned_41 : decode cX3_readSigned 41 = .ok (.iload_n 2, 1) := by decide +kernel
theorem dX3_readSigned_42 : decode cX3_readSigned 42 = .ok (.ineg, 1) := by decide +kernel
theorem dX3_readSigned_43 : decode cX3_readSigned 43 = .ok (.goto 4, 3) := by decide +kernel
theorem dX3_readSigned_46 : decode cX3_readSigned 46 = .ok (.iload_n 2, 1) := by decide +kernel
theorem dX3_readSigned_47 : decode cX3_readSigned 47 = .ok (.ireturn, 1) := by decide +kernel
theorem dX3_readNumber_0 : decode cX3_readNumber 0 = .ok (.aload_n 0, 1) := by decide +kernel
theorem dX3_readNumber_1 : decode cX3_readNumber 1 = .ok (.getfield 56, 3) := by decide +kernel
theorem dX3_readNumber_4 : decode cX3_readNumber 4 = .ok (.ifCond .eq 5, 3) := by decide +kernel
theorem dX3_readNumber_7 : decode cX3_readNumber 7 = .ok (.iconst (-1), 1) := by decide +kernel
theorem dX3_readNumber_8 : decode cX3_readNumber 8 = .ok (.ireturn, 1) := by decide +kernel
theorem dX3_readNumber_9 : decode cX3_readNumber 9 = .ok (.aload_n 0, 1) := by decide +kernel
theorem dX3_readNumber_10 : decode cX3_readNumber 10 = .ok (.getfield 59, 3) := by decide +kernel
theorem dX3_readNumber_13 : decode cX3_readNumber 13 = .ok (.iconst 2, 1) := by decide +kernel
theorem dX3_readNumber_14 : decode cX3_readNumber 14 = .ok (.if_icmp .eq 10, 3) := by decide +kernel
theorem dX3_readNumber_17 : decode cX3_readNumber 17 = .ok (.aload_n 0, 1) := by decide +kernel
theorem dX3_readNumber_18 : decode cX3_readNumber 18 = .ok (.iconst 1, 1) := by decide +kernel
theorem dX3_readNumber_19 : decode cX3_readNumber 19 = .ok (.invokevirtual 62, 3) := by decide +kernel
theorem dX3_readNumber_22 : decode cX3_readNumber 22 = .ok (.iconst (-1), 1) := by decide +kernel
theorem dX3_readNumber_23 : decode cX3_readNumber 23 = .ok (.ireturn, 1) := by decide +kernel
theorem dX3_readNumber_24 : decode cX3_readNumber 24 = .ok (.aload_n 0, 1) := by decide +kernel
theorem dX3_readNumber_25 : decode cX3_readNumber 25 = .ok (.getfield 281, 3) := by decide +kernel
theorem dX3_readNumber_28 : decode cX3_readNumber 28 = .ok (.iload_n 1, 1) := by decide +kernel
theorem dX3_readNumber_29 : decode cX3_readNumber 29 = .ok (.if_icmp .lt 11, 3) := by decide +kernel
theorem dX3_readNumber_32 : decode cX3_readNumber 32 = .ok (.aload_n 0, 1) := by decide +kernel
theorem dX3_readNumber_33 : decode cX3_readNumber 33 = .ok (.getfield 281, 3) := by decide +kernel
theorem dX3_readNumber_36 : decode cX3_readNumber 36 = .ok (.iload_n 2, 1) := by decide +kernel
theorem dX3_readNumber_37 : decode cX3_readNumber 37 = .ok (.if_icmp .le 10, 3) := by decide +kernel
theorem dX3_readNumber_40 : decode cX3_readNumber 40 = .ok (.aload_n 0, 1) := by decide +kernel
theorem dX3_readNumber_41 : decode cX3_readNumber 41 = .ok (.iconst 2, 1) := by decide +kernel
theorem dX3_readNumber_42 : decode cX3_readNumber 42 = .ok (.invokevirtual 62, 3) := by decide +kernel
theorem dX3_readNumber_45 : decode cX3_readNumber 45 = .ok (.iconst (-1), 1) := by decide +kernel
theorem dX3_readNumber_46 : decode cX3_readNumber 46 = .ok (.ireturn, 1) := by decide +kernel
theorem dX3_readNumber_47 : decode cX3_readNumber 47 = .ok (.aload_n 0, 1) := by decide +kernel
theorem dX3_readNumber_48 : decode cX3_readNumber 48 = .ok (.getfield 281, 3) := by decide +kernel
theorem dX3_readNumber_51 : decode cX3_readNumber 51 = .ok (.istore_n 3, 1) := by decide +kernel
theorem dX3_readNumber_52 : decode cX3_readNumber 52 = .ok (.aload_n 0, 1) := by decide +kernel
theorem dX3_readNumber_53 : decode cX3_readNumber 53 = .ok (.invokevirtual 43, 3) := by decide +kernel
theorem dX3_readNumber_56 : decode cX3_readNumber 56 = .ok (.iload_n 3, 1) := by decide +kernel
theorem dX3_readNumber_57 : decode cX3_readNumber 57 = .ok (.ireturn, 1) := by decide +kernel
theorem dX3_readWord_0 : decode cX3_readWord 0 = .ok (.aload_n 0, 1) := by decide +kernel
theorem dX3_readWord_1 : decode cX3_readWord 1 = .ok (.aload_n 1, 1) := by decide +kernel
theorem dX3_readWord_2 : decode cX3_readWord 2 = .ok (.invokevirtual 94, 3) := by decide +kernel
theorem dX3_readWord_5 : decode cX3_readWord 5 = .ok (.ifCond .ne 8, 3) := by decide +kernel
theorem dX3_readWord_8 : decode cX3_readWord 8 = .ok (.aload_n 0, 1) := by decide +kernel
theorem dX3_readWord_9 : decode cX3_readWord 9 = .ok (.iconst 1, 1) := by decide +kernel
theorem dX3_readWord_10 : decode cX3_readWord 10 = .ok (.invokevirtual 62, 3) := by decide +kernel
theorem dX3_readWord_13 : decode cX3_readWord 13 = .ok (.return_, 1) := by decide +kernel
theorem dX3_takeWord_0 : decode cX3_takeWord 0 = .ok (.aload_n 0, 1) := by decide +kernel
theorem dX3_takeWord_1 : decode cX3_takeWord 1 = .ok (.getfield 56, 3) := by decide +kernel
theorem dX3_takeWord_4 : decode cX3_takeWord 4 = .ok (.ifCond .ne 11, 3) := by decide +kernel
theorem dX3_takeWord_7 : decode cX3_takeWord 7 = .ok (.aload_n 0, 1) := by decide +kernel
theorem dX3_takeWord_8 : decode cX3_takeWord 8 = .ok (.aload_n 1, 1) := by decide +kernel
theorem dX3_takeWord_9 : decode cX3_takeWord 9 = .ok (.invokevirtual 103, 3) := by decide +kernel
theorem dX3_takeWord_12 : decode cX3_takeWord 12 = .ok (.ifCond .ne 5, 3) := by decide +kernel
theorem dX3_takeWord_15 : decode cX3_takeWord 15 = .ok (.iconst 0, 1) := by decide +kernel
theorem dX3_takeWord_16 : decode cX3_takeWord 16 = .ok (.ireturn, 1) := by decide +kernel
theorem dX3_takeWord_17 : decode cX3_takeWord 17 = .ok (.aload_n 0, 1) := by decide +kernel
theorem dX3_takeWord_18 : decode cX3_takeWord 18 = .ok (.invokevirtual 43, 3) := by decide +kernel
theorem dX3_takeWord_21 : decode cX3_takeWord 21 = .ok (.iconst 1, 1) := by decide +kernel
theorem dX3_takeWord_22 : decode cX3_takeWord 22 = .ok (.ireturn, 1) := by decide +kernel
theorem dX3_takeSemicolon_0 : decode cX3_takeSemicolon 0 = .ok (.aload_n 0, 1) := by decide +kernel
theorem dX3_takeSemicolon_1 : decode cX3_takeSemicolon 1 = .ok (.getfield 56, 3) := by decide +kernel
theorem dX3_takeSemicolon_4 : decode cX3_takeSemicolon 4 = .ok (.ifCond .ne 11, 3) := by decide +kernel
theorem dX3_takeSemicolon_7 : decode cX3_takeSemicolon 7 = .ok (.aload_n 0, 1) := by decide +kernel
theorem dX3_takeSemicolon_8 : decode cX3_takeSemicolon 8 = .ok (.getfield 59, 3) := by decide +kernel
theorem dX3_takeSemicolon_11 : decode cX3_takeSemicolon 11 = .ok (.iconst 4, 1) := by decide +kernel
theorem dX3_takeSemicolon_12 : decode cX3_takeSemicolon 12 = .ok (.if_icmp .eq 5, 3) := by decide +kernel
theorem dX3_takeSemicolon_15 : decode cX3_takeSemicolon 15 = .ok (.iconst 0, 1) := by decide +kernel
theorem dX3_takeSemicolon_16 : decode cX3_takeSemicolon 16 = .ok (.ireturn, 1) := by decide +kernel
theorem dX3_takeSemicolon_17 : decode cX3_takeSemicolon 17 = .ok (.aload_n 0, 1) := by decide +kernel
theorem dX3_takeSemicolon_18 : decode cX3_takeSemicolon 18 = .ok (.invokevirtual 43, 3) := by decide +kernel
theorem dX3_takeSemicolon_21 : decode cX3_takeSemicolon 21 = .ok (.iconst 1, 1) := by decide +kernel
theorem dX3_takeSemicolon_22 : decode cX3_takeSemicolon 22 = .ok (.ireturn, 1) := by decide +kernel
theorem dX3_isWord_0 : decode cX3_isWord 0 = .ok (.aload_n 0, 1) := by decide +kernel
theorem dX3_isWord_1 : decode cX3_isWord 1 = .ok (.getfield 59, 3) := by decide +kernel
theorem dX3_isWord_4 : decode cX3_isWord 4 = .ok (.iconst 1, 1) := by decide +kernel
theorem dX3_isWord_5 : decode cX3_isWord 5 = .ok (.if_icmp .ne 19, 3) := by decide +kernel
theorem dX3_isWord_8 : decode cX3_isWord 8 = .ok (.aload_n 0, 1) := by decide +kernel
theorem dX3_isWord_9 : decode cX3_isWord 9 = .ok (.getfield 292, 3) := by decide +kernel
theorem dX3_isWord_12 : decode cX3_isWord 12 = .ok (.aload_n 0, 1) := by decide +kernel
theorem dX3_isWord_13 : decode cX3_isWord 13 = .ok (.getfield 295, 3) := by decide +kernel
theorem dX3_isWord_16 : decode cX3_isWord 16 = .ok (.isub, 1) := by decide +kernel
theorem dX3_isWord_17 : decode cX3_isWord 17 = .ok (.aload_n 1, 1) := by decide +kernel
theorem dX3_isWord_18 : decode cX3_isWord 18 = .ok (.invokevirtual 298, 3) := by decide +kernel
theorem dX3_isWord_21 : decode cX3_isWord 21 = .ok (.if_icmp .eq 5, 3) := by decide +kernel
theorem dX3_isWord_24 : decode cX3_isWord 24 = .ok (.iconst 0, 1) := by decide +kernel
theorem dX3_isWord_25 : decode cX3_isWord 25 = .ok (.ireturn, 1) := by decide +kernel
theorem dX3_isWord_26 : decode cX3_isWord 26 = .ok (.iconst 0, 1) := by decide +kernel
theorem dX3_isWord_27 : decode cX3_isWord 27 = .ok (.istore_n 2, 1) := by decide +kernel
theorem dX3_isWord_28 : decode cX3_isWord 28 = .ok (.iload_n 2, 1) := by decide +kernel
theorem dX3_isWord_29 : decode cX3_isWord 29 = .ok (.aload_n 1, 1) := by decide +kernel
theorem dX3_isWord_30 : decode cX3_isWord 30 = .ok (.invokevirtual 298, 3) := by decide +kernel
theorem dX3_isWord_33 : decode cX3_isWord 33 = .ok (.if_icmp .ge 30, 3) := by decide +kernel
theorem dX3_isWord_36 : decode cX3_isWord 36 = .ok (.aload_n 0, 1) := by decide +kernel
theorem dX3_isWord_37 : decode cX3_isWord 37 = .ok (.getfield 15, 3) := by decide +kernel
theorem dX3_isWord_40 : decode cX3_isWord 40 = .ok (.aload_n 0, 1) := by decide +kernel
theorem dX3_isWord_41 : decode cX3_isWord 41 = .ok (.getfield 295, 3) := by decide +kernel
theorem dX3_isWord_44 : decode cX3_isWord 44 = .ok (.iload_n 2, 1) := by decide +kernel
theorem dX3_isWord_45 : decode cX3_isWord 45 = .ok (.iadd, 1) := by decide +kernel
theorem dX3_isWord_46 : decode cX3_isWord 46 = .ok (.baload, 1) := by decide +kernel
theorem dX3_isWord_47 : decode cX3_isWord 47 = .ok (.aload_n 1, 1) := by decide +kernel
theorem dX3_isWord_48 : decode cX3_isWord 48 = .ok (.iload_n 2, 1) := by decide +kernel
theorem dX3_isWord_49 : decode cX3_isWord 49 = .ok (.invokevirtual 302, 3) := by decide +kernel
theorem dX3_isWord_52 : decode cX3_isWord 52 = .ok (.if_icmp .eq 5, 3) := by decide +kernel
theorem dX3_isWord_55 : decode cX3_isWord 55 = .ok (.iconst 0, 1) := by decide +kernel
theorem dX3_isWord_56 : decode cX3_isWord 56 = .ok (.ireturn, 1) := by decide +kernel
theorem dX3_isWord_57 : decode cX3_isWord 57 = .ok (.iinc 2 1, 3) := by decide +kernel
theorem dX3_isWord_60 : decode cX3_isWord 60 = .ok (.goto (-32), 3) := by decide +kernel
theorem dX3_isWord_63 : decode cX3_isWord 63 = .ok (.iconst 1, 1) := by decide +kernel
theorem dX3_isWord_64 : decode cX3_isWord 64 = .ok (.ireturn, 1) := by decide +kernel
theorem dX3_fail_0 : decode cX3_fail 0 = .ok (.aload_n 0, 1) := by decide +kernel
theorem dX3_fail_1 : decode cX3_fail 1 = .ok (.getfield 56, 3) := by decide +kernel
theorem dX3_fail_4 : decode cX3_fail 4 = .ok (.ifCond .ne 16, 3) := by decide +kernel
theorem dX3_fail_7 : decode cX3_fail 7 = .ok (.aload_n 0, 1) := by decide +kernel
theorem dX3_fail_8 : decode cX3_fail 8 = .ok (.iload_n 1, 1) := by decide +kernel
theorem dX3_fail_9 : decode cX3_fail 9 = .ok (.putfield 56, 3) := by decide +kernel
theorem dX3_fail_12 : decode cX3_fail 12 = .ok (.aload_n 0, 1) := by decide +kernel
theorem dX3_fail_13 : decode cX3_fail 13 = .ok (.aload_n 0, 1) := by decide +kernel
theorem dX3_fail_14 : decode cX3_fail 14 = .ok (.getfield 295, 3) := by decide +kernel
theorem dX3_fail_17 : decode cX3_fail 17 = .ok (.putfield 9, 3) := by decide +kernel
theorem dX3_fail_20 : decode cX3_fail 20 = .ok (.return_, 1) := by decide +kernel
theorem dX3_nextToken_0 : decode cX3_nextToken 0 = .ok (.aload_n 0, 1) := by decide +kernel
theorem dX3_nextToken_1 : decode cX3_nextToken 1 = .ok (.aload_n 0, 1) := by decide +kernel
theorem dX3_nextToken_2 : decode cX3_nextToken 2 = .ok (.getfield 292, 3) := by decide +kernel
theorem dX3_nextToken_5 : decode cX3_nextToken 5 = .ok (.putfield 295, 3) := by decide +kernel
theorem dX3_nextToken_8 : decode cX3_nextToken 8 = .ok (.aload_n 0, 1) := by decide +kernel
theorem dX3_nextToken_9 : decode cX3_nextToken 9 = .ok (.getfield 295, 3) := by decide +kernel
theorem dX3_nextToken_12 : decode cX3_nextToken 12 = .ok (.aload_n 0, 1) := by decide +kernel
theorem dX3_nextToken_13 : decode cX3_nextToken 13 = .ok (.getfield 19, 3) := by decide +kernel
theorem dX3_nextToken_16 : decode cX3_nextToken 16 = .ok (.if_icmp .ge 30, 3) := by decide +kernel
theorem dX3_nextToken_19 : decode cX3_nextToken 19 = .ok (.aload_n 0, 1) := by decide +kernel
theorem dX3_nextToken_20 : decode cX3_nextToken 20 = .ok (.getfield 15, 3) := by decide +kernel
theorem dX3_nextToken_23 : decode cX3_nextToken 23 = .ok (.aload_n 0, 1) := by decide +kernel
theorem dX3_nextToken_24 : decode cX3_nextToken 24 = .ok (.getfield 295, 3) := by decide +kernel
theorem dX3_nextToken_27 : decode cX3_nextToken 27 = .ok (.baload, 1) := by decide +kernel
theorem dX3_nextToken_28 : decode cX3_nextToken 28 = .ok (.bipush 32, 2) := by decide +kernel
theorem dX3_nextToken_30 : decode cX3_nextToken 30 = .ok (.if_icmp .ne 16, 3) := by decide +kernel
theorem dX3_nextToken_33 : decode cX3_nextToken 33 = .ok (.aload_n 0, 1) := by decide +kernel
theorem dX3_nextToken_34 : decode cX3_nextToken 34 = .ok (.dup, 1) := by decide +kernel
theorem dX3_nextToken_35 : decode cX3_nextToken 35 = .ok (.getfield 295, 3) := by decide +kernel
theorem dX3_nextToken_38 : decode cX3_nextToken 38 = .ok (.iconst 1, 1) := by decide +kernel
theorem dX3_nextToken_39 : decode cX3_nextToken 39 = .ok (.iadd, 1) := by decide +kernel
theorem dX3_nextToken_40 : decode cX3_nextToken 40 = .ok (.putfield 295, 3) := by decide +kernel
theorem dX3_nextToken_43 : decode cX3_nextToken 43 = .ok (.goto (-35), 3) := by decide +kernel
theorem dX3_nextToken_46 : decode cX3_nextToken 46 = .ok (.aload_n 0, 1) := by decide +kernel
theorem dX3_nextToken_47 : decode cX3_nextToken 47 = .ok (.bipush 97, 2) := by decide +kernel
theorem dX3_nextToken_49 : decode cX3_nextToken 49 = .ok (.bipush 122, 2) := by decide +kernel
theorem dX3_nextToken_51 : decode cX3_nextToken 51 = .ok (.invokevirtual 306, 3) := by decide +kernel
theorem dX3_nextToken_54 : decode cX3_nextToken 54 = .ok (.istore_n 1, 1) := by decide +kernel
theorem dX3_nextToken_55 : decode cX3_nextToken 55 = .ok (.aload_n 0, 1) := by decide +kernel
theorem dX3_nextToken_56 : decode cX3_nextToken 56 = .ok (.bipush 48, 2) := by decide +kernel
theorem dX3_nextToken_58 : decode cX3_nextToken 58 = .ok (.bipush 57, 2) := by decide +kernel
theorem dX3_nextToken_60 : decode cX3_nextToken 60 = .ok (.invokevirtual 306, 3) := by decide +kernel
theorem dX3_nextToken_63 : decode cX3_nextToken 63 = .ok (.istore_n 2, 1) := by decide +kernel
theorem dX3_nextToken_64 : decode cX3_nextToken 64 = .ok (.aload_n 0, 1) := by decide +kernel
theorem dX3_nextToken_65 : decode cX3_nextToken 65 = .ok (.getfield 295, 3) := by decide +kernel
theorem dX3_nextToken_68 : decode cX3_nextToken 68 = .ok (.aload_n 0, 1) := by decide +kernel
theorem dX3_nextToken_69 : decode cX3_nextToken 69 = .ok (.getfield 19, 3) := by decide +kernel
theorem dX3_nextToken_72 : decode cX3_nextToken 72 = .ok (.if_icmp .lt 19, 3) := by decide +kernel
theorem dX3_nextToken_75 : decode cX3_nextToken 75 = .ok (.aload_n 0, 1) := by decide +kernel
theorem dX3_nextToken_76 : decode cX3_nextToken 76 = .ok (.iconst 0, 1) := by decide +kernel
theorem dX3_nextToken_77 : decode cX3_nextToken 77 = .ok (.putfield 59, 3) := by decide +kernel
theorem dX3_nextToken_80 : decode cX3_nextToken 80 = .ok (.aload_n 0, 1) := by decide +kernel
theorem dX3_nextToken_81 : decode cX3_nextToken 81 = .ok (.aload_n 0, 1) := by decide +kernel
theorem dX3_nextToken_82 : decode cX3_nextToken 82 = .ok (.getfield 19, 3) := by decide +kernel
theorem dX3_nextToken_85 : decode cX3_nextToken 85 = .ok (.putfield 292, 3) := by decide +kernel
theorem dX3_nextToken_88 : decode cX3_nextToken 88 = .ok (.goto 109, 3) := by decide +kernel
theorem dX3_nextToken_91 : decode cX3_nextToken 91 = .ok (.iload_n 1, 1) := by decide +kernel
theorem dX3_nextToken_92 : decode cX3_nextToken 92 = .ok (.ifCond .le 31, 3) := by decide +kernel
theorem dX3_nextToken_95 : decode cX3_nextToken 95 = .ok (.aload_n 0, 1) := by decide +kernel
theorem dX3_nextToken_96 : decode cX3_nextToken 96 = .ok (.iload_n 1, 1) := by decide +kernel
theorem dX3_nextToken_97 : decode cX3_nextToken 97 = .ok (.bipush 8, 2) := by decide +kernel
theorem dX3_nextToken_99 : decode cX3_nextToken 99 = .ok (.if_icmp .le 7, 3) := by decide +kernel
theorem dX3_nextToken_102 : decode cX3_nextToken 102 = .ok (.iconst 5, 1) := by decide +kernel
theorem dX3_nextToken_103 : decode cX3_nextToken 103 = .ok (.goto 4, 3) := by decide +kernel
theorem dX3_nextToken_106 : decode cX3_nextToken 106 = .ok (.iconst 1, 1) := by decide +kernel
theorem dX3_nextToken_107 : decode cX3_nextToken 107 = .ok (.putfield 59, 3) := by decide +kernel
theorem dX3_nextToken_110 : decode cX3_nextToken 110 = .ok (.aload_n 0, 1) := by decide +kernel
theorem dX3_nextToken_111 : decode cX3_nextToken 111 = .ok (.aload_n 0, 1) := by decide +kernel
theorem dX3_nextToken_112 : decode cX3_nextToken 112 = .ok (.getfield 295, 3) := by decide +kernel
theorem dX3_nextToken_115 : decode cX3_nextToken 115 = .ok (.iload_n 1, 1) := by decide +kernel
theorem dX3_nextToken_116 : decode cX3_nextToken 116 = .ok (.iadd, 1) := by decide +kernel
theorem dX3_nextToken_117 : decode cX3_nextToken 117 = .ok (.putfield 292, 3) := by decide +kernel
theorem dX3_nextToken_120 : decode cX3_nextToken 120 = .ok (.goto 77, 3) := by decide +kernel
theorem dX3_nextToken_123 : decode cX3_nextToken 123 = .ok (.iload_n 2, 1) := by decide +kernel
theorem dX3_nextToken_124 : decode cX3_nextToken 124 = .ok (.ifCond .le 47, 3) := by decide +kernel
theorem dX3_nextToken_127 : decode cX3_nextToken 127 = .ok (.aload_n 0, 1) := by decide +kernel
theorem dX3_nextToken_128 : decode cX3_nextToken 128 = .ok (.iload_n 2, 1) := by decide +kernel
theorem dX3_nextToken_129 : decode cX3_nextToken 129 = .ok (.iconst 4, 1) := by decide +kernel
theorem dX3_nextToken_130 : decode cX3_nextToken 130 = .ok (.if_icmp .le 7, 3) := by decide +kernel
theorem dX3_nextToken_133 : decode cX3_nextToken 133 = .ok (.iconst 5, 1) := by decide +kernel
theorem dX3_nextToken_134 : decode cX3_nextToken 134 = .ok (.goto 4, 3) := by decide +kernel
theorem dX3_nextToken_137 : decode cX3_nextToken 137 = .ok (.iconst 2, 1) := by decide +kernel
theorem dX3_nextToken_138 : decode cX3_nextToken 138 = .ok (.putfield 59, 3) := by decide +kernel
theorem dX3_nextToken_141 : decode cX3_nextToken 141 = .ok (.aload_n 0, 1) := by decide +kernel
theorem dX3_nextToken_142 : decode cX3_nextToken 142 = .ok (.aload_n 0, 1) := by decide +kernel
theorem dX3_nextToken_143 : decode cX3_nextToken 143 = .ok (.getfield 295, 3) := by decide +kernel
theorem dX3_nextToken_146 : decode cX3_nextToken 146 = .ok (.iload_n 2, 1) := by decide +kernel
theorem dX3_nextToken_147 : decode cX3_nextToken 147 = .ok (.iadd, 1) := by decide +kernel
theorem dX3_nextToken_148 : decode cX3_nextToken 148 = .ok (.putfield 292, 3) := by decide +kernel
theorem dX3_nextToken_151 : decode cX3_nextToken 151 = .ok (.aload_n 0, 1) := by decide +kernel
theorem dX3_nextToken_152 : decode cX3_nextToken 152 = .ok (.iload_n 2, 1) := by decide +kernel
theorem dX3_nextToken_153 : decode cX3_nextToken 153 = .ok (.iconst 4, 1) := by decide +kernel
theorem dX3_nextToken_154 : decode cX3_nextToken 154 = .ok (.if_icmp .le 7, 3) := by decide +kernel
theorem dX3_nextToken_157 : decode cX3_nextToken 157 = .ok (.iconst (-1), 1) := by decide +kernel
theorem dX3_nextToken_158 : decode cX3_nextToken 158 = .ok (.goto 7, 3) := by decide +kernel
theorem dX3_nextToken_161 : decode cX3_nextToken 161 = .ok (.aload_n 0, 1) := by decide +kernel
theorem dX3_nextToken_162 : decode cX3_nextToken 162 = .ok (.invokevirtual 310, 3) := by decide +kernel
theorem dX3_nextToken_165 : decode cX3_nextToken 165 = .ok (.putfield 281, 3) := by decide +kernel
theorem dX3_nextToken_168 : decode cX3_nextToken 168 = .ok (.goto 29, 3) := by decide +kernel
theorem dX3_nextToken_171 : decode cX3_nextToken 171 = .ok (.aload_n 0, 1) := by decide +kernel
theorem dX3_nextToken_172 : decode cX3_nextToken 172 = .ok (.aload_n 0, 1) := by decide +kernel
theorem dX3_nextToken_173 : decode cX3_nextToken 173 = .ok (.getfield 15, 3) := by decide +kernel
theorem dX3_nextToken_176 : decode cX3_nextToken 176 = .ok (.aload_n 0, 1) := by decide +kernel
theorem dX3_nextToken_177 : decode cX3_nextToken 177 = .ok (.getfield 295, 3) := by decide +kernel
theorem dX3_nextToken_180 : decode cX3_nextToken 180 = .ok (.baload, 1) := by decide +kernel
theorem dX3_nextToken_181 : decode cX3_nextToken 181 = .ok (.invokestatic 313, 3) := by decide +kernel
theorem dX3_nextToken_184 : decode cX3_nextToken 184 = .ok (.putfield 59, 3) := by decide +kernel
theorem dX3_nextToken_187 : decode cX3_nextToken 187 = .ok (.aload_n 0, 1) := by decide +kernel
theorem dX3_nextToken_188 : decode cX3_nextToken 188 = .ok (.aload_n 0, 1) := by decide +kernel
theorem dX3_nextToken_189 : decode cX3_nextToken 189 = .ok (.getfield 295, 3) := by decide +kernel
theorem dX3_nextToken_192 : decode cX3_nextToken 192 = .ok (.iconst 1, 1) := by decide +kernel
theorem dX3_nextToken_193 : decode cX3_nextToken 193 = .ok (.iadd, 1) := by decide +kernel
theorem dX3_nextToken_194 : decode cX3_nextToken 194 = .ok (.putfield 292, 3) := by decide +kernel
theorem dX3_nextToken_197 : decode cX3_nextToken 197 = .ok (.return_, 1) := by decide +kernel
theorem dX3_countRun_0 : decode cX3_countRun 0 = .ok (.aload_n 0, 1) := by decide +kernel
theorem dX3_countRun_1 : decode cX3_countRun 1 = .ok (.getfield 295, 3) := by decide +kernel
theorem dX3_countRun_4 : decode cX3_countRun 4 = .ok (.istore_n 3, 1) := by decide +kernel
theorem dX3_countRun_5 : decode cX3_countRun 5 = .ok (.iload_n 3, 1) := by decide +kernel
theorem dX3_countRun_6 : decode cX3_countRun 6 = .ok (.aload_n 0, 1) := by decide +kernel
theorem dX3_countRun_7 : decode cX3_countRun 7 = .ok (.getfield 19, 3) := by decide +kernel
theorem dX3_countRun_10 : decode cX3_countRun 10 = .ok (.if_icmp .ge 29, 3) := by decide +kernel
theorem dX3_countRun_13 : decode cX3_countRun 13 = .ok (.aload_n 0, 1) := by decide +kernel
theorem dX3_countRun_14 : decode cX3_countRun 14 = .ok (.getfield 15, 3) := by decide +kernel
theorem dX3_countRun_17 : decode cX3_countRun 17 = .ok (.iload_n 3, 1) := by decide +kernel
theorem dX3_countRun_18 : decode cX3_countRun 18 = .ok (.baload, 1) := by decide +kernel
theorem dX3_countRun_19 : decode cX3_countRun 19 = .ok (.iload_n 1, 1) := by decide +kernel
theorem dX3_countRun_20 : decode cX3_countRun 20 = .ok (.if_icmp .lt 19, 3) := by decide +kernel
theorem dX3_countRun_23 : decode cX3_countRun 23 = .ok (.aload_n 0, 1) := by decide +kernel
theorem dX3_countRun_24 : decode cX3_countRun 24 = .ok (.getfield 15, 3) := by decide +kernel
theorem dX3_countRun_27 : decode cX3_countRun 27 = .ok (.iload_n 3, 1) := by decide +kernel
theorem dX3_countRun_28 : decode cX3_countRun 28 = .ok (.baload, 1) := by decide +kernel
theorem dX3_countRun_29 : decode cX3_countRun 29 = .ok (.iload_n 2, 1) := by decide +kernel
theorem dX3_countRun_30 : decode cX3_countRun 30 = .ok (.if_icmp .gt 9, 3) := by decide +kernel
theorem dX3_countRun_33 : decode cX3_countRun 33 = .ok (.iinc 3 1, 3) := by decide +kernel
theorem dX3_countRun_36 : decode cX3_countRun 36 = .ok (.goto (-31), 3) := by decide +kernel
theorem dX3_countRun_39 : decode cX3_countRun 39 = .ok (.iload_n 3, 1) := by decide +kernel
theorem dX3_countRun_40 : decode cX3_countRun 40 = .ok (.aload_n 0, 1) := by decide +kernel
theorem dX3_countRun_41 : decode cX3_countRun 41 = .ok (.getfield 295, 3) := by decide +kernel
theorem dX3_countRun_44 : decode cX3_countRun 44 = .ok (.isub, 1) := by decide +kernel
theorem dX3_countRun_45 : decode cX3_countRun 45 = .ok (.ireturn, 1) := by decide +kernel
theorem dX3_numberAtStart_0 : decode cX3_numberAtStart 0 = .ok (.iconst 0, 1) := by decide +kernel
theorem dX3_numberAtStart_1 : decode cX3_numberAtStart 1 = .ok (.istore_n 1, 1) := by decide +kernel
theorem dX3_numberAtStart_2 : decode cX3_numberAtStart 2 = .ok (.aload_n 0, 1) := by decide +kernel
theorem dX3_numberAtStart_3 : decode cX3_numberAtStart 3 = .ok (.getfield 295, 3) := by decide +kernel
theorem dX3_numberAtStart_6 : decode cX3_numberAtStart 6 = .ok (.istore_n 2, 1) := by decide +kernel
theorem dX3_numberAtStart_7 : decode cX3_numberAtStart 7 = .ok (.iload_n 2, 1) := by decide +kernel
theorem dX3_numberAtStart_8 : decode cX3_numberAtStart 8 = .ok (.aload_n 0, 1) := by decide +kernel
theorem dX3_numberAtStart_9 : decode cX3_numberAtStart 9 = .ok (.getfield 292, 3) := by decide +kernel
theorem dX3_numberAtStart_12 : decode cX3_numberAtStart 12 = .ok (.if_icmp .ge 24, 3) := by decide +kernel
theorem dX3_numberAtStart_15 : decode cX3_numberAtStart 15 = .ok (.bipush 10, 2) := by decide +kernel
theorem dX3_numberAtStart_17 : decode cX3_numberAtStart 17 = .ok (.iload_n 1, 1) := by decide +kernel
theorem dX3_numberAtStart_18 : decode cX3_numberAtStart 18 = .ok (.imul, 1) := by decide +kernel
theorem dX3_numberAtStart_19 : decode cX3_numberAtStart 19 = .ok (.aload_n 0, 1) := by decide +kernel
theorem dX3_numberAtStart_20 : decode cX3_numberAtStart 20 = .ok (.getfield 15, 3) := by decide +kernel
theorem dX3_numberAtStart_23 : decode cX3_numberAtStart 23 = .ok (.iload_n 2, 1) := by decide +kernel
theorem dX3_numberAtStart_24 : decode cX3_numberAtStart 24 = .ok (.baload, 1) := by decide +kernel
theorem dX3_numberAtStart_25 : decode cX3_numberAtStart 25 = .ok (.iadd, 1) := by decide +kernel
theorem dX3_numberAtStart_26 : decode cX3_numberAtStart 26 = .ok (.bipush 48, 2) := by decide +kernel
theorem dX3_numberAtStart_28 : decode cX3_numberAtStart 28 = .ok (.isub, 1) := by decide +kernel
theorem dX3_numberAtStart_29 : decode cX3_numberAtStart 29 = .ok (.istore_n 1, 1) := by decide +kernel
theorem dX3_numberAtStart_30 : decode cX3_numberAtStart 30 = .ok (.iinc 2 1, 3) := by decide +kernel
theorem dX3_numberAtStart_33 : decode cX3_numberAtStart 33 = .ok (.goto (-26), 3) := by decide +kernel
theorem dX3_numberAtStart_36 : decode cX3_numberAtStart 36 = .ok (.iload_n 1, 1) := by decide +kernel
theorem dX3_numberAtStart_37 : decode cX3_numberAtStart 37 = .ok (.ireturn, 1) := by decide +kernel
theorem dX3_kindOfSign_0 : decode cX3_kindOfSign 0 = .ok (.iload_n 0, 1) := by decide +kernel
theorem dX3_kindOfSign_1 : decode cX3_kindOfSign 1 = .ok (.bipush 45, 2) := by decide +kernel
theorem dX3_kindOfSign_3 : decode cX3_kindOfSign 3 = .ok (.if_icmp .ne 5, 3) := by decide +kernel
theorem dX3_kindOfSign_6 : decode cX3_kindOfSign 6 = .ok (.iconst 3, 1) := by decide +kernel
theorem dX3_kindOfSign_7 : decode cX3_kindOfSign 7 = .ok (.ireturn, 1) := by decide +kernel
theorem dX3_kindOfSign_8 : decode cX3_kindOfSign 8 = .ok (.iload_n 0, 1) := by decide +kernel
theorem dX3_kindOfSign_9 : decode cX3_kindOfSign 9 = .ok (.bipush 59, 2) := by decide +kernel
theorem dX3_kindOfSign_11 : decode cX3_kindOfSign 11 = .ok (.if_icmp .ne 7, 3) := by decide +kernel
theorem dX3_kindOfSign_14 : decode cX3_kindOfSign 14 = .ok (.iconst 4, 1) := by decide +kernel
theorem dX3_kindOfSign_15 : decode cX3_kindOfSign 15 = .ok (.goto 4, 3) := by decide +kernel
theorem dX3_kindOfSign_18 : decode cX3_kindOfSign 18 = .ok (.iconst 5, 1) := by decide +kernel
theorem dX3_kindOfSign_19 : decode cX3_kindOfSign 19 = .ok (.ireturn, 1) := by decide +kernel
theorem dX4_init_0 : decode cX4_init 0 = .ok (.aload_n 0, 1) := by decide +kernel
theorem dX4_init_1 : decode cX4_init 1 = .ok (.invokespecial 3, 3) := by decide +kernel
theorem dX4_init_4 : decode cX4_init 4 = .ok (.aload_n 0, 1) := by decide +kernel
theorem dX4_init_5 : decode cX4_init 5 = .ok (.sipush 640, 3) := by decide +kernel
theorem dX4_init_8 : decode cX4_init 8 = .ok (.newarray .int, 2) := by decide +kernel
theorem dX4_init_10 : decode cX4_init 10 = .ok (.putfield 11, 3) := by decide +kernel
theorem dX4_init_13 : decode cX4_init 13 = .ok (.iconst 0, 1) := by decide +kernel
theorem dX4_init_14 : decode cX4_init 14 = .ok (.istore_n 1, 1) := by decide +kernel
theorem dX4_init_15 : decode cX4_init 15 = .ok (.iload_n 1, 1) := by decide +kernel
theorem dX4_init_16 : decode cX4_init 16 = .ok (.bipush 32, 2) := by decide +kernel
theorem dX4_init_18 : decode cX4_init 18 = .ok (.if_icmp .ge 48, 3) := by decide +kernel
theorem dX4_init_21 : decode cX4_init 21 = .ok (.iconst 0, 1) := by decide +kernel
theorem dX4_init_22 : decode cX4_init 22 = .ok (.istore_n 2, 1) := by decide +kernel
theorem dX4_init_23 : decode cX4_init 23 = .ok (.iload_n 2, 1) := by decide +kernel
theorem dX4_init_24 : decode cX4_init 24 = .ok (.bipush 20, 2) := by decide +kernel
theorem dX4_init_26 : decode cX4_init 26 = .ok (.if_icmp .ge 34, 3) := by decide +kernel
theorem dX4_init_29 : decode cX4_init 29 = .ok (.aload_n 0, 1) := by decide +kernel
theorem dX4_init_30 : decode cX4_init 30 = .ok (.getfield 11, 3) := by decide +kernel
theorem dX4_init_33 : decode cX4_init 33 = .ok (.iload_n 1, 1) := by decide +kernel
theorem dX4_init_34 : decode cX4_init 34 = .ok (.bipush 20, 2) := by decide +kernel
theorem dX4_init_36 : decode cX4_init 36 = .ok (.imul, 1) := by decide +kernel
theorem dX4_init_37 : decode cX4_init 37 = .ok (.iload_n 2, 1) := by decide +kernel
theorem dX4_init_38 : decode cX4_init 38 = .ok (.iadd, 1) := by decide +kernel
theorem dX4_init_39 : decode cX4_init 39 = .ok (.sipush 10000, 3) := by decide +kernel
theorem dX4_init_42 : decode cX4_init 42 = .ok (.iload_n 1, 1) := by decide +kernel
theorem dX4_init_43 : decode cX4_init 43 = .ok (.iload_n 1, 1) := by decide +kernel
theorem dX4_init_44 : decode cX4_init 44 = .ok (.imul, 1) := by decide +kernel
theorem dX4_init_45 : decode cX4_init 45 = .ok (.iload_n 2, 1) := by decide +kernel
theorem dX4_init_46 : decode cX4_init 46 = .ok (.iload_n 2, 1) := by decide +kernel
theorem dX4_init_47 : decode cX4_init 47 = .ok (.imul, 1) := by decide +kernel
theorem dX4_init_48 : decode cX4_init 48 = .ok (.iadd, 1) := by decide +kernel
theorem dX4_init_49 : decode cX4_init 49 = .ok (.imul, 1) := by decide +kernel
theorem dX4_init_50 : decode cX4_init 50 = .ok (.invokestatic 15, 3) := by decide +kernel
theorem dX4_init_53 : decode cX4_init 53 = .ok (.iastore, 1) := by decide +kernel
theorem dX4_init_54 : decode cX4_init 54 = .ok (.iinc 2 1, 3) := by decide +kernel
theorem dX4_init_57 : decode cX4_init 57 = .ok (.goto (-34), 3) := by decide +kernel
theorem dX4_init_60 : decode cX4_init 60 = .ok (.iinc 1 1, 3) := by decide +kernel
theorem dX4_init_63 : decode cX4_init 63 = .ok (.goto (-48), 3) := by decide +kernel
theorem dX4_init_66 : decode cX4_init 66 = .ok (.return_, 1) := by decide +kernel
theorem dX4_between_0 : decode cX4_between 0 = .ok (.aload_n 0, 1) := by decide +kernel
theorem dX4_between_1 : decode cX4_between 1 = .ok (.getfield 11, 3) := by decide +kernel
theorem dX4_between_4 : decode cX4_between 4 = .ok (.iload_n 1, 1) := by decide +kernel
theorem dX4_between_5 : decode cX4_between 5 = .ok (.invokestatic 19, 3) := by decide +kernel
theorem dX4_between_8 : decode cX4_between 8 = .ok (.bipush 20, 2) := by decide +kernel
theorem dX4_between_10 : decode cX4_between 10 = .ok (.imul, 1) := by decide +kernel
theorem dX4_between_11 : decode cX4_between 11 = .ok (.iload_n 2, 1) := by decide +kernel
theorem dX4_between_12 : decode cX4_between 12 = .ok (.invokestatic 19, 3) := by decide +kernel
theorem dX4_between_15 : decode cX4_between 15 = .ok (.iadd, 1) := by decide +kernel
theorem dX4_between_16 : decode cX4_between 16 = .ok (.iaload, 1) := by decide +kernel
theorem dX4_between_17 : decode cX4_between 17 = .ok (.ireturn, 1) := by decide +kernel
theorem dX4_root_0 : decode cX4_root 0 = .ok (.iconst 0, 1) := by decide +kernel
theorem dX4_root_1 : decode cX4_root 1 = .ok (.istore_n 1, 1) := by decide +kernel
theorem dX4_root_2 : decode cX4_root 2 = .ok (.sipush 2048, 3) := by decide +kernel
theorem dX4_root_5 : decode cX4_root 5 = .ok (.istore_n 2, 1) := by decide +kernel
theorem dX4_root_6 : decode cX4_root 6 = .ok (.iload_n 2, 1) := by decide +kernel
theorem dX4_root_7 : decode cX4_root 7 = .ok (.ifCond .le 25, 3) := by decide +kernel
theorem dX4_root_10 : decode cX4_root 10 = .ok (.iload_n 1, 1) := by decide +kernel
theorem dX4_root_11 : decode cX4_root 11 = .ok (.iload_n 2, 1) := by decide +kernel
theorem dX4_root_12 : decode cX4_root 12 = .ok (.iadd, 1) := by decide +kernel
theorem dX4_root_13 : decode cX4_root 13 = .ok (.iload_n 1, 1) := by decide +kernel
theorem dX4_root_14 : decode cX4_root 14 = .ok (.iload_n 2, 1) := by decide +kernel
theorem dX4_root_15 : decode cX4_root 15 = .ok (.iadd, 1) := by decide +kernel
theorem dX4_root_16 : decode cX4_root 16 = .ok (.imul, 1) := by decide +kernel
theorem dX4_root_17 : decode cX4_root 17 = .ok (.iload_n 0, 1) := by decide +kernel
theorem dX4_root_18 : decode cX4_root 18 = .ok (.if_icmp .gt 7, 3) := by decide +kernel
theorem dX4_root_21 : decode cX4_root 21 = .ok (.iload_n 1, 1) := by decide +kernel
theorem dX4_root_22 : decode cX4_root 22 = .ok (.iload_n 2, 1) := by decide +kernel
theorem dX4_root_23 : decode cX4_root 23 = .ok (.iadd, 1) := by decide +kernel
theorem dX4_root_24 : decode cX4_root 24 = .ok (.istore_n 1, 1) := by decide +kernel
theorem dX4_root_25 : decode cX4_root 25 = .ok (.iload_n 2, 1) := by decide +kernel
theorem dX4_root_26 : decode cX4_root 26 = .ok (.iconst 1, 1) := by decide +kernel
theorem dX4_root_27 : decode cX4_root 27 = .ok (.ishr, 1) := by decide +kernel
theorem dX4_root_28 : decode cX4_root 28 = .ok (.istore_n 2, 1) := by decide +kernel
theorem dX4_root_29 : decode cX4_root 29 = .ok (.goto (-23), 3) := by decide +kernel
theorem dX4_root_32 : decode cX4_root 32 = .ok (.iload_n 1, 1) := by decide +kernel
theorem dX4_root_33 : decode cX4_root 33 = .ok (.ireturn, 1) := by decide +kernel
theorem dX5_init_0 : decode cX5_init 0 = .ok (.aload_n 0, 1) := by decide +kernel
theorem dX5_init_1 : decode cX5_init 1 = .ok (.invokespecial 1, 3) := by decide +kernel
theorem dX5_init_4 : decode cX5_init 4 = .ok (.return_, 1) := by decide +kernel
theorem dX5_holds_0 : decode cX5_holds 0 = .ok (.iload_n 1, 1) := by decide +kernel
theorem dX5_holds_1 : decode cX5_holds 1 = .ok (.aload_n 0, 1) := by decide +kernel
theorem dX5_holds_2 : decode cX5_holds 2 = .ok (.getfield 7, 3) := by decide +kernel
theorem dX5_holds_5 : decode cX5_holds 5 = .ok (.if_icmp .lt 31, 3) := by decide +kernel
theorem dX5_holds_8 : decode cX5_holds 8 = .ok (.iload_n 1, 1) := by decide +kernel
theorem dX5_holds_9 : decode cX5_holds 9 = .ok (.aload_n 0, 1) := by decide +kernel
theorem dX5_holds_10 : decode cX5_holds 10 = .ok (.getfield 13, 3) := by decide +kernel
theorem dX5_holds_13 : decode cX5_holds 13 = .ok (.if_icmp .gt 23, 3) := by decide +kernel
theorem dX5_holds_16 : decode cX5_holds 16 = .ok (.iload_n 2, 1) := by decide +kernel
theorem dX5_holds_17 : decode cX5_holds 17 = .ok (.aload_n 0, 1) := by decide +kernel
theorem dX5_holds_18 : decode cX5_holds 18 = .ok (.getfield 16, 3) := by decide +kernel
theorem dX5_holds_21 : decode cX5_holds 21 = .ok (.if_icmp .lt 15, 3) := by decide +kernel
theorem dX5_holds_24 : decode cX5_holds 24 = .ok (.iload_n 2, 1) := by decide +kernel
theorem dX5_holds_25 : decode cX5_holds 25 = .ok (.aload_n 0, 1) := by decide +kernel
theorem dX5_holds_26 : decode cX5_holds 26 = .ok (.getfield 19, 3) := by decide +kernel
theorem dX5_holds_29 : decode cX5_holds 29 = .ok (.if_icmp .gt 7, 3) := by decide +kernel
theorem dX5_holds_32 : decode cX5_holds 32 = .ok (.iconst 1, 1) := by decide +kernel
theorem dX5_holds_33 : decode cX5_holds 33 = .ok (.goto 4, 3) := by decide +kernel
theorem dX5_holds_36 : decode cX5_holds 36 = .ok (.iconst 0, 1) := by decide +kernel
theorem dX5_holds_37 : decode cX5_holds 37 = .ok (.ireturn, 1) := by decide +kernel
theorem dX6_init_0 : decode cX6_init 0 = .ok (.aload_n 0, 1) := by decide +kernel
theorem dX6_init_1 : decode cX6_init 1 = .ok (.invokespecial 3, 3) := by decide +kernel
theorem dX6_init_4 : decode cX6_init 4 = .ok (.aload_n 0, 1) := by decide +kernel
theorem dX6_init_5 : decode cX6_init 5 = .ok (.iconst 4, 1) := by decide +kernel
theorem dX6_init_6 : decode cX6_init 6 = .ok (.newarray .boolean, 2) := by decide +kernel
theorem dX6_init_8 : decode cX6_init 8 = .ok (.putfield 9, 3) := by decide +kernel
theorem dX6_init_11 : decode cX6_init 11 = .ok (.aload_n 0, 1) := by decide +kernel
theorem dX6_init_12 : decode cX6_init 12 = .ok (.iconst 4, 1) := by decide +kernel
theorem dX6_init_13 : decode cX6_init 13 = .ok (.newarray .int, 2) := by decide +kernel
theorem dX6_init_15 : decode cX6_init 15 = .ok (.putfield 15, 3) := by decide +kernel
theorem dX6_init_18 : decode cX6_init 18 = .ok (.aload_n 0, 1) := by decide +kernel
theorem dX6_init_19 : decode cX6_init 19 = .ok (.iconst 4, 1) := by decide +kernel
theorem dX6_init_20 : decode cX6_init 20 = .ok (.newarray .int, 2) := by decide +kernel
theorem dX6_init_22 : decode cX6_init 22 = .ok (.putfield 19, 3) := by decide +kernel
theorem dX6_init_25 : decode cX6_init 25 = .ok (.aload_n 0, 1) := by decide +kernel
theorem dX6_init_26 : decode cX6_init 26 = .ok (.iconst 4, 1) := by decide +kernel
theorem dX6_init_27 : decode cX6_init 27 = .ok (.newarray .int, 2) := by decide +kernel
theorem dX6_init_29 : decode cX6_init 29 = .ok (.putfield 22, 3) := by decide +kernel
theorem dX6_init_32 : decode cX6_init 32 = .ok (.aload_n 0, 1) := by decide +kernel
theorem dX6_init_33 : decode cX6_init 33 = .ok (.iconst 4, 1) := by decide +kernel
theorem dX6_init_34 : decode cX6_init 34 = .ok (.newarray .int, 2) := by decide +kernel
theorem dX6_init_36 : decode cX6_init 36 = .ok (.putfield 25, 3) := by decide +kernel
theorem dX6_init_39 : decode cX6_init 39 = .ok (.aload_n 0, 1) := by decide +kernel
theorem dX6_init_40 : decode cX6_init 40 = .ok (.iconst 4, 1) := by decide +kernel
theorem dX6_init_41 : decode cX6_init 41 = .ok (.newarray .int, 2) := by decide +kernel
theorem dX6_init_43 : decode cX6_init 43 = .ok (.putfield 28, 3) := by decide +kernel
theorem dX6_init_46 : decode cX6_init 46 = .ok (.aload_n 0, 1) := by decide +kernel
theorem dX6_init_47 : decode cX6_init 47 = .ok (.iconst 4, 1) := by decide +kernel
theorem dX6_init_48 : decode cX6_init 48 = .ok (.newarray .int, 2) := by decide +kernel
theorem dX6_init_50 : decode cX6_init 50 = .ok (.putfield 31, 3) := by decide +kernel
theorem dX6_init_53 : decode cX6_init 53 = .ok (.return_, 1) := by decide +kernel
theorem dX6_copyFrom_0 : decode cX6_copyFrom 0 = .ok (.aload_n 0, 1) := by decide +kernel
theorem dX6_copyFrom_1 : decode cX6_copyFrom 1 = .ok (.aload_n 1, 1) := by decide +kernel
theorem dX6_copyFrom_2 : decode cX6_copyFrom 2 = .ok (.getfield 34, 3) := by decide +kernel
theorem dX6_copyFrom_5 : decode cX6_copyFrom 5 = .ok (.putfield 34, 3) := by decide +kernel
theorem dX6_copyFrom_8 : decode cX6_copyFrom 8 = .ok (.aload_n 0, 1) := by decide +kernel
theorem dX6_copyFrom_9 : decode cX6_copyFrom 9 = .ok (.aload_n 1, 1) := by decide +kernel
theorem dX6_copyFrom_10 : decode cX6_copyFrom 10 = .ok (.getfield 38, 3) := by decide +kernel
theorem dX6_copyFrom_13 : decode cX6_copyFrom 13 = .ok (.putfield 38, 3) := by decide +kernel
theorem dX6_copyFrom_16 : decode cX6_copyFrom 16 = .ok (.iconst 0, 1) := by decide +kernel
theorem dX6_copyFrom_17 : decode cX6_copyFrom 17 = .ok (.istore_n 2, 1) := by decide +kernel
theorem dX6_copyFrom_18 : decode cX6_copyFrom 18 = .ok (.iload_n 2, 1) := by decide +kernel
theorem dX6_copyFrom_19 : decode cX6_copyFrom 19 = .ok (.iconst 4, 1) := by decide +kernel
theorem dX6_copyFrom_20 : decode cX6_copyFrom 20 = .ok (.if_icmp .ge 93, 3) := by decide +kernel
theorem dX6_copyFrom_23 : decode cX6_copyFrom 23 = .ok (.aload_n 0, 1) := by decide +kernel
theorem dX6_copyFrom_24 : decode cX6_copyFrom 24 = .ok (.getfield 9, 3) := by decide +kernel
theorem dX6_copyFrom_27 : decode cX6_copyFrom 27 = .ok (.iload_n 2, 1) := by decide +kernel
theorem dX6_copyFrom_28 : decode cX6_copyFrom 28 = .ok (.aload_n 1, 1) := by decide +kernel
theorem dX6_copyFrom_29 : decode cX6_copyFrom 29 = .ok (.getfield 9, 3) := by decide +kernel
theorem dX6_copyFrom_32 : decode cX6_copyFrom 32 = .ok (.iload_n 2, 1) := by decide +kernel
theorem dX6_copyFrom_33 : decode cX6_copyFrom 33 = .ok (.baload, 1) := by decide +kernel
theorem dX6_copyFrom_34 : decode cX6_copyFrom 34 = .ok (.bastore, 1) := by decide +kernel
theorem dX6_copyFrom_35 : decode cX6_copyFrom 35 = .ok (.aload_n 0, 1) := by decide +kernel
theorem dX6_copyFrom_36 : decode cX6_copyFrom 36 = .ok (.getfield 15, 3) := by decide +kernel
theorem dX6_copyFrom_39 : decode cX6_copyFrom 39 = .ok (.iload_n 2, 1) := by decide +kernel
theorem dX6_copyFrom_40 : decode cX6_copyFrom 40 = .ok (.aload_n 1, 1) := by decide +kernel
theorem dX6_copyFrom_41 : decode cX6_copyFrom 41 = .ok (.getfield 15, 3) := by decide +kernel
theorem dX6_copyFrom_44 : decode cX6_copyFrom 44 = .ok (.iload_n 2, 1) := by decide +kernel
theorem dX6_copyFrom_45 : decode cX6_copyFrom 45 = .ok (.iaload, 1) := by decide +kernel
theorem dX6_copyFrom_46 : decode cX6_copyFrom 46 = .ok (.iastore, 1) := by decide +kernel
theorem dX6_copyFrom_47 : decode cX6_copyFrom 47 = .ok (.aload_n 0, 1) := by decide +kernel
theorem dX6_copyFrom_48 : decode cX6_copyFrom 48 = .ok (.getfield 19, 3) := by decide +kernel
theorem dX6_copyFrom_51 : decode cX6_copyFrom 51 = .ok (.iload_n 2, 1) := by decide +kernel
theorem dX6_copyFrom_52 : decode cX6_copyFrom 52 = .ok (.aload_n 1, 1) := by decide +kernel
theorem dX6_copyFrom_53 : decode cX6_copyFrom 53 = .ok (.getfield 19, 3) := by decide +kernel
theorem dX6_copyFrom_56 : decode cX6_copyFrom 56 = .ok (.iload_n 2, 1) := by decide +kernel
theorem dX6_copyFrom_57 : decode cX6_copyFrom 57 = .ok (.iaload, 1) := by decide +kernel
theorem dX6_copyFrom_58 : decode cX6_copyFrom 58 = .ok (.iastore, 1) := by decide +kernel
theorem dX6_copyFrom_59 : decode cX6_copyFrom 59 = .ok (.aload_n 0, 1) := by decide +kernel
theorem dX6_copyFrom_60 : decode cX6_copyFrom 60 = .ok (.getfield 22, 3) := by decide +kernel
theorem dX6_copyFrom_63 : decode cX6_copyFrom 63 = .ok (.iload_n 2, 1) := by decide +kernel
theorem dX6_copyFrom_64 : decode cX6_copyFrom 64 = .ok (.aload_n 1, 1) := by decide +kernel
theorem dX6_copyFrom_65 : decode cX6_copyFrom 65 = .ok (.getfield 22, 3) := by decide +kernel
theorem dX6_copyFrom_68 : decode cX6_copyFrom 68 = .ok (.iload_n 2, 1) := by decide +kernel
theorem dX6_copyFrom_69 : decode cX6_copyFrom 69 = .ok (.iaload, 1) := by decide +kernel
theorem dX6_copyFrom_70 : decode cX6_copyFrom 70 = .ok (.iastore, 1) := by decide +kernel
theorem dX6_copyFrom_71 : decode cX6_copyFrom 71 = .ok (.aload_n 0, 1) := by decide +kernel
theorem dX6_copyFrom_72 : decode cX6_copyFrom 72 = .ok (.getfield 25, 3) := by decide +kernel
theorem dX6_copyFrom_75 : decode cX6_copyFrom 75 = .ok (.iload_n 2, 1) := by decide +kernel
theorem dX6_copyFrom_76 : decode cX6_copyFrom 76 = .ok (.aload_n 1, 1) := by decide +kernel
theorem dX6_copyFrom_77 : decode cX6_copyFrom 77 = .ok (.getfield 25, 3) := by decide +kernel
theorem dX6_copyFrom_80 : decode cX6_copyFrom 80 = .ok (.iload_n 2, 1) := by decide +kernel
theorem dX6_copyFrom_81 : decode cX6_copyFrom 81 = .ok (.iaload, 1) := by decide +kernel
theorem dX6_copyFrom_82 : decode cX6_copyFrom 82 = .ok (.iastore, 1) := by decide +kernel
theorem dX6_copyFrom_83 : decode cX6_copyFrom 83 = .ok (.aload_n 0, 1) := by decide +kernel
theorem dX6_copyFrom_84 : decode cX6_copyFrom 84 = .ok (.getfield 28, 3) := by decide +kernel
theorem dX6_copyFrom_87 : decode cX6_copyFrom 87 = .ok (.iload_n 2, 1) := by decide +kernel
theorem dX6_copyFrom_88 : decode cX6_copyFrom 88 = .ok (.aload_n 1, 1) := by decide +kernel
theorem dX6_copyFrom_89 : decode cX6_copyFrom 89 = .ok (.getfield 28, 3) := by decide +kernel
theorem dX6_copyFrom_92 : decode cX6_copyFrom 92 = .ok (.iload_n 2, 1) := by decide +kernel
theorem dX6_copyFrom_93 : decode cX6_copyFrom 93 = .ok (.iaload, 1) := by decide +kernel
theorem dX6_copyFrom_94 : decode cX6_copyFrom 94 = .ok (.iastore, 1) := by decide +kernel
theorem dX6_copyFrom_95 : decode cX6_copyFrom 95 = .ok (.aload_n 0, 1) := by decide +kernel
theorem dX6_copyFrom_96 : decode cX6_copyFrom 96 = .ok (.getfield 31, 3) := by decide +kernel
theorem dX6_copyFrom_99 : decode cX6_copyFrom 99 = .ok (.iload_n 2, 1) := by decide +kernel
theorem dX6_copyFrom_100 : decode cX6_copyFrom 100 = .ok (.aload_n 1, 1) := by decide +kernel
theorem dX6_copyFrom_101 : decode cX6_copyFrom 101 = .ok (.getfield 31, 3) := by decide +kernel
theorem dX6_copyFrom_104 : decode cX6_copyFrom 104 = .ok (.iload_n 2, 1) := by decide +kernel
theorem dX6_copyFrom_105 : decode cX6_copyFrom 105 = .ok (.iaload, 1) := by decide +kernel
theorem dX6_copyFrom_106 : decode cX6_copyFrom 106 = .ok (.iastore, 1) := by decide +kernel
theorem dX6_copyFrom_107 : decode cX6_copyFrom 107 = .ok (.iinc 2 1, 3) := by decide +kernel
theorem dX6_copyFrom_110 : decode cX6_copyFrom 110 = .ok (.goto (-92), 3) := by decide +kernel
theorem dX6_copyFrom_113 : decode cX6_copyFrom 113 = .ok (.return_, 1) := by decide +kernel
theorem dX6_hasOpen_0 : decode cX6_hasOpen 0 = .ok (.aload_n 0, 1) := by decide +kernel
theorem dX6_hasOpen_1 : decode cX6_hasOpen 1 = .ok (.getfield 38, 3) := by decide +kernel
theorem dX6_hasOpen_4 : decode cX6_hasOpen 4 = .ok (.iload_n 1, 1) := by decide +kernel
theorem dX6_hasOpen_5 : decode cX6_hasOpen 5 = .ok (.ishr, 1) := by decide +kernel
theorem dX6_hasOpen_6 : decode cX6_hasOpen 6 = .ok (.iconst 1, 1) := by decide +kernel
theorem dX6_hasOpen_7 : decode cX6_hasOpen 7 = .ok (.iand, 1) := by decide +kernel
theorem dX6_hasOpen_8 : decode cX6_hasOpen 8 = .ok (.iconst 1, 1) := by decide +kernel
theorem dX6_hasOpen_9 : decode cX6_hasOpen 9 = .ok (.if_icmp .ne 7, 3) := by decide +kernel
theorem dX6_hasOpen_12 : decode cX6_hasOpen 12 = .ok (.iconst 1, 1) := by decide +kernel
theorem dX6_hasOpen_13 : decode cX6_hasOpen 13 = .ok (.goto 4, 3) := by decide +kernel
theorem dX6_hasOpen_16 : decode cX6_hasOpen 16 = .ok (.iconst 0, 1) := by decide +kernel
theorem dX6_hasOpen_17 : decode cX6_hasOpen 17 = .ok (.ireturn, 1) := by decide +kernel
theorem dX6_turn_0 : decode cX6_turn 0 = .ok (.aload_n 0, 1) := by decide +kernel
theorem dX6_turn_1 : decode cX6_turn 1 = .ok (.dup, 1) := by decide +kernel
theorem dX6_turn_2 : decode cX6_turn 2 = .ok (.getfield 38, 3) := by decide +kernel
theorem dX6_turn_5 : decode cX6_turn 5 = .ok (.iconst 1, 1) := by decide +kernel
theorem dX6_turn_6 : decode cX6_turn 6 = .ok (.iload_n 1, 1) := by decide +kernel
theorem dX6_turn_7 : decode cX6_turn 7 = .ok (.ishl, 1) := by decide +kernel
theorem dX6_turn_8 : decode cX6_turn 8 = .ok (.ixor, 1) := by decide +kernel
theorem dX6_turn_9 : decode cX6_turn 9 = .ok (.putfield 38, 3) := by decide +kernel
theorem dX6_turn_12 : decode cX6_turn 12 = .ok (.return_, 1) := by decide +kernel
theorem dX7_init_0 : decode cX7_init 0 = .ok (.aload_n 0, 1) := by decide +kernel
theorem dX7_init_1 : decode cX7_init 1 = .ok (.invokespecial 3, 3) := by decide +kernel
theorem dX7_init_4 : decode cX7_init 4 = .ok (.aload_n 0, 1) := by decide +kernel
theorem dX7_init_5 : decode cX7_init 5 = .ok (.iconst 1, 1) := by decide +kernel
theorem dX7_init_6 : decode cX7_init 6 = .ok (.putfield 9, 3) := by decide +kernel
theorem dX7_init_9 : decode cX7_init 9 = .ok (.aload_n 0, 1) := by decide +kernel
theorem dX7_init_10 : decode cX7_init 10 = .ok (.iconst 1, 1) := by decide +kernel
theorem dX7_init_11 : decode cX7_init 11 = .ok (.putfield 15, 3) := by decide +kernel
theorem dX7_init_14 : decode cX7_init 14 = .ok (.aload_n 0, 1) := by decide +kernel
theorem dX7_init_15 : decode cX7_init 15 = .ok (.iconst (-1), 1) := by decide +kernel
theorem dX7_init_16 : decode cX7_init 16 = .ok (.putfield 18, 3) := by decide +kernel
theorem dX7_init_19 : decode cX7_init 19 = .ok (.aload_n 0, 1) := by decide +kernel
theorem dX7_init_20 : decode cX7_init 20 = .ok (.iconst 4, 1) := by decide +kernel
theorem dX7_init_21 : decode cX7_init 21 = .ok (.anewarray 21, 3) := by decide +kernel
theorem dX7_init_24 : decode cX7_init 24 = .ok (.putfield 23, 3) := by decide +kernel
theorem dX7_init_27 : decode cX7_init 27 = .ok (.aload_n 0, 1) := by decide +kernel
theorem dX7_init_28 : decode cX7_init 28 = .ok (.iconst 3, 1) := by decide +kernel
theorem dX7_init_29 : decode cX7_init 29 = .ok (.anewarray 27, 3) := by decide +kernel
theorem dX7_init_32 : decode cX7_init 32 = .ok (.putfield 29, 3) := by decide +kernel
theorem dX7_init_35 : decode cX7_init 35 = .ok (.aload_n 0, 1) := by decide +kernel
theorem dX7_init_36 : decode cX7_init 36 = .ok (.iconst 4, 1) := by decide +kernel
theorem dX7_init_37 : decode cX7_init 37 = .ok (.newarray .int, 2) := by decide +kernel
theorem dX7_init_39 : decode cX7_init 39 = .ok (.putfield 33, 3) := by decide +kernel
theorem dX7_init_42 : decode cX7_init 42 = .ok (.aload_n 0, 1) := by decide +kernel
theorem dX7_init_43 : decode cX7_init 43 = .ok (.iconst 4, 1) := by decide +kernel
theorem dX7_init_44 : decode cX7_init 44 = .ok (.newarray .int, 2) := by decide +kernel
theorem dX7_init_46 : decode cX7_init 46 = .ok (.putfield 37, 3) := by decide +kernel
theorem dX7_init_49 : decode cX7_init 49 = .ok (.aload_n 0, 1) := by decide +kernel
theorem dX7_init_50 : decode cX7_init 50 = .ok (.iconst 4, 1) := by decide +kernel
theorem dX7_init_51 : decode cX7_init 51 = .ok (.newarray .int, 2) := by decide +kernel
theorem dX7_init_53 : decode cX7_init 53 = .ok (.putfield 40, 3) := by decide +kernel
theorem dX7_init_56 : decode cX7_init 56 = .ok (.aload_n 0, 1) := by decide +kernel
theorem dX7_init_57 : decode cX7_init 57 = .ok (.aload_n 1, 1) := by decide +kernel
theorem dX7_init_58 : decode cX7_init 58 = .ok (.putfield 43, 3) := by decide +kernel
theorem dX7_init_61 : decode cX7_init 61 = .ok (.iconst 0, 1) := by decide +kernel
theorem dX7_init_62 : decode cX7_init 62 = .ok (.istore_n 2, 1) := by decide +kernel
theorem dX7_init_63 : decode cX7_init 63 = .ok (.iload_n 2, 1) := by decide +kernel
theorem dX7_init_64 : decode cX7_init 64 = .ok (.iconst 4, 1) := by decide +kernel
theorem dX7_init_65 : decode cX7_init 65 = .ok (.if_icmp .ge 22, 3) := by decide +kernel
theorem dX7_init_68 : decode cX7_init 68 = .ok (.aload_n 0, 1) := by decide +kernel
theorem dX7_init_69 : decode cX7_init 69 = .ok (.getfield 23, 3) := by decide +kernel
theorem dX7_init_72 : decode cX7_init 72 = .ok (.iload_n 2, 1) := by decide +kernel
theorem dX7_init_73 : decode cX7_init 73 = .ok (.new 21, 3) := by decide +kernel
theorem dX7_init_76 : decode cX7_init 76 = .ok (.dup, 1) := by decide +kernel
theorem dX7_init_77 : decode cX7_init 77 = .ok (.invokespecial 47, 3) := by decide +kernel
theorem dX7_init_80 : decode cX7_init 80 = .ok (.aastore, 1) := by decide +kernel
theorem dX7_init_81 : decode cX7_init 81 = .ok (.iinc 2 1, 3) := by decide +kernel
theorem dX7_init_84 : decode cX7_init 84 = .ok (.goto (-21), 3) := by decide +kernel
theorem dX7_init_87 : decode cX7_init 87 = .ok (.iconst 0, 1) := by decide +kernel
theorem dX7_init_88 : decode cX7_init 88 = .ok (.istore_n 2, 1) := by decide +kernel
theorem dX7_init_89 : decode cX7_init 89 = .ok (.iload_n 2, 1) := by decide +kernel
theorem dX7_init_90 : decode cX7_init 90 = .ok (.iconst 3, 1) := by decide +kernel
theorem dX7_init_91 : decode cX7_init 91 = .ok (.if_icmp .ge 22, 3) := by decide +kernel
theorem dX7_init_94 : decode cX7_init 94 = .ok (.aload_n 0, 1) := by decide +kernel
theorem dX7_init_95 : decode cX7_init 95 = .ok (.getfield 29, 3) := by decide +kernel
theorem dX7_init_98 : decode cX7_init 98 = .ok (.iload_n 2, 1) := by decide +kernel
theorem dX7_init_99 : decode cX7_init 99 = .ok (.new 27, 3) := by decide +kernel
theorem dX7_init_102 : decode cX7_init 102 = .ok (.dup, 1) := by decide +kernel
theorem dX7_init_103 : decode cX7_init 103 = .ok (.invokespecial 48, 3) := by decide +kernel
theorem dX7_init_106 : decode cX7_init 106 = .ok (.aastore, 1) := by decide +kernel
theorem dX7_init_107 : decode cX7_init 107 = .ok (.iinc 2 1, 3) := by decide +kernel
theorem dX7_init_110 : decode cX7_init 110 = .ok (.goto (-21), 3) := by decide +kernel
theorem dX7_init_113 : decode cX7_init 113 = .ok (.return_, 1) := by decide +kernel
theorem dX7_clear_0 : decode cX7_clear 0 = .ok (.aload_n 0, 1) := by decide +kernel
theorem dX7_clear_1 : decode cX7_clear 1 = .ok (.iconst (-1), 1) := by decide +kernel
theorem dX7_clear_2 : decode cX7_clear 2 = .ok (.putfield 18, 3) := by decide +kernel
theorem dX7_clear_5 : decode cX7_clear 5 = .ok (.aload_n 0, 1) := by decide +kernel
theorem dX7_clear_6 : decode cX7_clear 6 = .ok (.iconst 0, 1) := by decide +kernel
theorem dX7_clear_7 : decode cX7_clear 7 = .ok (.putfield 49, 3) := by decide +kernel
theorem dX7_clear_10 : decode cX7_clear 10 = .ok (.aload_n 0, 1) := by decide +kernel
theorem dX7_clear_11 : decode cX7_clear 11 = .ok (.iconst 0, 1) := by decide +kernel
theorem dX7_clear_12 : decode cX7_clear 12 = .ok (.putfield 52, 3) := by decide +kernel
theorem dX7_clear_15 : decode cX7_clear 15 = .ok (.aload_n 0, 1) := by decide +kernel
theorem dX7_clear_16 : decode cX7_clear 16 = .ok (.iconst 0, 1) := by decide +kernel
theorem dX7_clear_17 : decode cX7_clear 17 = .ok (.putfield 55, 3) := by decide +kernel
theorem dX7_clear_20 : decode cX7_clear 20 = .ok (.iconst 0, 1) := by decide +kernel
theorem dX7_clear_21 : decode cX7_clear 21 = .ok (.istore_n 1, 1) := by decide +kernel
theorem dX7_clear_22 : decode cX7_clear 22 = .ok (.iload_n 1, 1) := by decide +kernel
theorem dX7_clear_23 : decode cX7_clear 23 = .ok (.iconst 4, 1) := by decide +kernel
theorem dX7_clear_24 : decode cX7_clear 24 = .ok (.if_icmp .ge 16, 3) := by decide +kernel
theorem dX7_clear_27 : decode cX7_clear 27 = .ok (.aload_n 0, 1) := by decide +kernel
theorem dX7_clear_28 : decode cX7_clear 28 = .ok (.getfield 40, 3) := by decide +kernel
theorem dX7_clear_31 : decode cX7_clear 31 = .ok (.iload_n 1, 1) := by decide +kernel
theorem dX7_clear_32 : decode cX7_clear 32 = .ok (.iconst 0, 1) := by decide +kernel
theorem dX7_clear_33 : decode cX7_clear 33 = .ok (.iastore, 1) := by decide +kernel
theorem dX7_clear_34 : decode cX7_clear 34 = .ok (.iinc 1 1, 3) := by decide +kernel
theorem dX7_clear_37 : decode cX7_clear 37 = .ok (.goto (-15), 3) := by decide +kernel
theorem dX7_clear_40 : decode cX7_clear 40 = .ok (.return_, 1) := by decide +kernel
theorem dX7_cells_0 : decode cX7_cells 0 = .ok (.aload_n 0, 1) := by decide +kernel
theorem dX7_cells_1 : decode cX7_cells 1 = .ok (.getfield 9, 3) := by decide +kernel
theorem dX7_cells_4 : decode cX7_cells 4 = .ok (.aload_n 0, 1) := by decide +kernel
theorem dX7_cells_5 : decode cX7_cells 5 = .ok (.getfield 15, 3) := by decide +kernel
theorem dX7_cells_8 : decode cX7_cells 8 = .ok (.imul, 1) := by decide +kernel
theorem dX7_cells_9 : decode cX7_cells 9 = .ok (.ireturn, 1) := by decide +kernel
theorem dX7_cellNumber_0 : decode cX7_cellNumber 0 = .ok (.iload_n 2, 1) := by decide +kernel
theorem dX7_cellNumber_1 : decode cX7_cellNumber 1 = .ok (.aload_n 0, 1) := by decide +kernel
theorem dX7_cellNumber_2 : decode cX7_cellNumber 2 = .ok (.getfield 9, 3) := by decide +kernel
theorem dX7_cellNumber_5 : decode cX7_cellNumber 5 = .ok (.imul, 1) := by decide +kernel
theorem dX7_cellNumber_6 : decode cX7_cellNumber 6 = .ok (.iload_n 1, 1) := by decide +kernel
theorem dX7_cellNumber_7 : decode cX7_cellNumber 7 = .ok (.iadd, 1) := by decide +kernel
theorem dX7_cellNumber_8 : decode cX7_cellNumber 8 = .ok (.ireturn, 1) := by decide +kernel
theorem dX7_columnOf_0 : decode cX7_columnOf 0 = .ok (.aload_n 1, 1) := by decide +kernel
theorem dX7_columnOf_1 : decode cX7_columnOf 1 = .ok (.getfield 58, 3) := by decide +kernel
theorem dX7_columnOf_4 : decode cX7_columnOf 4 = .ok (.iload_n 2, 1) := by decide +kernel
theorem dX7_columnOf_5 : decode cX7_columnOf 5 = .ok (.iaload, 1) := by decide +kernel
theorem dX7_columnOf_6 : decode cX7_columnOf 6 = .ok (.aload_n 1, 1) := by decide +kernel
theorem dX7_columnOf_7 : decode cX7_columnOf 7 = .ok (.getfield 62, 3) := by decide +kernel
theorem dX7_columnOf_10 : decode cX7_columnOf 10 = .ok (.iload_n 2, 1) := by decide +kernel
theorem dX7_columnOf_11 : decode cX7_columnOf 11 = .ok (.iaload, 1) := by decide +kernel
theorem dX7_columnOf_12 : decode cX7_columnOf 12 = .ok (.iload_n 3, 1) := by decide +kernel
theorem dX7_columnOf_13 : decode cX7_columnOf 13 = .ok (.imul, 1) := by decide +kernel
theorem dX7_columnOf_14 : decode cX7_columnOf 14 = .ok (.bipush 100, 2) := by decide +kernel
theorem dX7_columnOf_16 : decode cX7_columnOf 16 = .ok (.idiv, 1) := by decide +kernel
theorem dX7_columnOf_17 : decode cX7_columnOf 17 = .ok (.iadd, 1) := by decide +kernel
theorem dX7_columnOf_18 : decode cX7_columnOf 18 = .ok (.istore 4, 2) := by decide +kernel
theorem dX7_columnOf_20 : decode cX7_columnOf 20 = .ok (.iconst 0, 1) := by decide +kernel
theorem dX7_columnOf_21 : decode cX7_columnOf 21 = .ok (.aload_n 0, 1) := by decide +kernel
theorem dX7_columnOf_22 : decode cX7_columnOf 22 = .ok (.getfield 9, 3) := by decide +kernel
theorem dX7_columnOf_25 : decode cX7_columnOf 25 = .ok (.iconst 1, 1) := by decide +kernel
theorem dX7_columnOf_26 : decode cX7_columnOf 26 = .ok (.isub, 1) := by decide +kernel
theorem dX7_columnOf_27 : decode cX7_columnOf 27 = .ok (.iload 4, 2) := by decide +kernel
theorem dX7_columnOf_29 : decode cX7_columnOf 29 = .ok (.invokestatic 65, 3) := by decide +kernel
theorem dX7_columnOf_32 : decode cX7_columnOf 32 = .ok (.invokestatic 71, 3) := by decide +kernel
theorem dX7_columnOf_35 : decode cX7_columnOf 35 = .ok (.ireturn, 1) := by decide +kernel
theorem dX7_rowOf_0 : decode cX7_rowOf 0 = .ok (.aload_n 1, 1) := by decide +kernel
theorem dX7_rowOf_1 : decode cX7_rowOf 1 = .ok (.getfield 74, 3) := by decide +kernel
theorem dX7_rowOf_4 : decode cX7_rowOf 4 = .ok (.iload_n 2, 1) := by decide +kernel
theorem dX7_rowOf_5 : decode cX7_rowOf 5 = .ok (.iaload, 1) := by decide +kernel
theorem dX7_rowOf_6 : decode cX7_rowOf 6 = .ok (.aload_n 1, 1) := by decide +kernel
theorem dX7_rowOf_7 : decode cX7_rowOf 7 = .ok (.getfield 76, 3) := by decide +kernel
theorem dX7_rowOf_10 : decode cX7_rowOf 10 = .ok (.iload_n 2, 1) := by decide +kernel
theorem dX7_rowOf_11 : decode cX7_rowOf 11 = .ok (.iaload, 1) := by decide +kernel
theorem dX7_rowOf_12 : decode cX7_rowOf 12 = .ok (.iload_n 3, 1) := by decide +kernel
theorem dX7_rowOf_13 : decode cX7_rowOf 13 = .ok (.imul, 1) := by decide +kernel
theorem dX7_rowOf_14 : decode cX7_rowOf 14 = .ok (.bipush 100, 2) := by decide +kernel
theorem dX7_rowOf_16 : decode cX7_rowOf 16 = .ok (.idiv, 1) := by decide +kernel
theorem dX7_rowOf_17 : decode cX7_rowOf 17 = .ok (.iadd, 1) := by decide +kernel
theorem dX7_rowOf_18 : decode cX7_rowOf 18 = .ok (.istore 4, 2) := by decide +kernel
theorem dX7_rowOf_20 : decode cX7_rowOf 20 = .ok (.iconst 0, 1) := by decide +kernel
theorem dX7_rowOf_21 : decode cX7_rowOf 21 = .ok (.aload_n 0, 1) := by decide +kernel
theorem dX7_rowOf_22 : decode cX7_rowOf 22 = .ok (.getfield 15, 3) := by decide +kernel
theorem dX7_rowOf_25 : decode cX7_rowOf 25 = .ok (.iconst 1, 1) := by decide +kernel
theorem dX7_rowOf_26 : decode cX7_rowOf 26 = .ok (.isub, 1) := by decide +kernel
theorem dX7_rowOf_27 : decode cX7_rowOf 27 = .ok (.iload 4, 2) := by decide +kernel
theorem dX7_rowOf_29 : decode cX7_rowOf 29 = .ok (.invokestatic 65, 3) := by decide +kernel
theorem dX7_rowOf_32 : decode cX7_rowOf 32 = .ok (.invokestatic 71, 3) := by decide +kernel
theorem dX7_rowOf_35 : decode cX7_rowOf 35 = .ok (.ireturn, 1) := by decide +kernel
theorem dX7_cellOf_0 : decode cX7_cellOf 0 = .ok (.aload_n 0, 1) := by decide +kernel
theorem dX7_cellOf_1 : decode cX7_cellOf 1 = .ok (.aload_n 0, 1) := by decide +kernel
theorem dX7_cellOf_2 : decode cX7_cellOf 2 = .ok (.aload_n 1, 1) := by decide +kernel
theorem dX7_cellOf_3 : decode cX7_cellOf 3 = .ok (.iload_n 2, 1) := by decide +kernel
theorem dX7_cellOf_4 : decode cX7_cellOf 4 = .ok (.aload_n 1, 1) := by decide +kernel
theorem dX7_cellOf_5 : decode cX7_cellOf 5 = .ok (.getfield 79, 3) := by decide +kernel
theorem dX7_cellOf_8 : decode cX7_cellOf 8 = .ok (.invokevirtual 82, 3) := by decide +kernel
theorem dX7_cellOf_11 : decode cX7_cellOf 11 = .ok (.aload_n 0, 1) := by decide +kernel
theorem dX7_cellOf_12 : decode cX7_cellOf 12 = .ok (.aload_n 1, 1) := by decide +kernel
theorem dX7_cellOf_13 : decode cX7_cellOf 13 = .ok (.iload_n 2, 1) := by decide +kernel
theorem dX7_cellOf_14 : decode cX7_cellOf 14 = .ok (.aload_n 1, 1) := by decide +kernel
theorem dX7_cellOf_15 : decode cX7_cellOf 15 = .ok (.getfield 79, 3) := by decide +kernel
theorem dX7_cellOf_18 : decode cX7_cellOf 18 = .ok (.invokevirtual 86, 3) := by decide +kernel
theorem dX7_cellOf_21 : decode cX7_cellOf 21 = .ok (.invokevirtual 89, 3) := by decide +kernel
theorem dX7_cellOf_24 : decode cX7_cellOf 24 = .ok (.ireturn, 1) := by decide +kernel
theorem dX7_isShadowed_0 : decode cX7_isShadowed 0 = .ok (.aload_n 0, 1) := by decide +kernel
theorem dX7_isShadowed_1 : decode cX7_isShadowed 1 = .ok (.getfield 18, 3) := by decide +kernel
theorem dX7_isShadowed_4 : decode cX7_isShadowed 4 = .ok (.iconst (-1), 1) := by decide +kernel
theorem dX7_isShadowed_5 : decode cX7_isShadowed 5 = .ok (.if_icmp .ne 5, 3) := by decide +kernel
theorem dX7_isShadowed_8 : decode cX7_isShadowed 8 = .ok (.iconst 0, 1) := by decide +kernel
theorem dX7_isShadowed_9 : decode cX7_isShadowed 9 = .ok (.ireturn, 1) := by decide +kernel
theorem dX7_isShadowed_10 : decode cX7_isShadowed 10 = .ok (.iload_n 1, 1) := by decide +kernel
theorem dX7_isShadowed_11 : decode cX7_isShadowed 11 = .ok (.aload_n 0, 1) := by decide +kernel
theorem dX7_isShadowed_12 : decode cX7_isShadowed 12 = .ok (.getfield 18, 3) := by decide +kernel
theorem dX7_isShadowed_15 : decode cX7_isShadowed 15 = .ok (.if_icmp .ge 11, 3) := by decide +kernel
theorem dX7_isShadowed_18 : decode cX7_isShadowed 18 = .ok (.iload_n 2, 1) := by decide +kernel
theorem dX7_isShadowed_19 : decode cX7_isShadowed 19 = .ok (.aload_n 0, 1) := by decide +kernel
theorem dX7_isShadowed_20 : decode cX7_isShadowed 20 = .ok (.getfield 18, 3) := by decide +kernel
theorem dX7_isShadowed_23 : decode cX7_isShadowed 23 = .ok (.if_icmp .gt 19, 3) := by decide +kernel
theorem dX7_isShadowed_26 : decode cX7_isShadowed 26 = .ok (.iload_n 1, 1) := by decide +kernel
theorem dX7_isShadowed_27 : decode cX7_isShadowed 27 = .ok (.aload_n 0, 1) := by decide +kernel
theorem dX7_isShadowed_28 : decode cX7_isShadowed 28 = .ok (.getfield 18, 3) := by decide +kernel
theorem dX7_isShadowed_31 : decode cX7_isShadowed 31 = .ok (.if_icmp .le 15, 3) := by decide +kernel
theorem dX7_isShadowed_34 : decode cX7_isShadowed 34 = .ok (.iload_n 2, 1) := by decide +kernel
theorem dX7_isShadowed_35 : decode cX7_isShadowed 35 = .ok (.aload_n 0, 1) := by decide +kernel
theorem dX7_isShadowed_36 : decode cX7_isShadowed 36 = .ok (.getfield 18, 3) := by decide +kernel
theorem dX7_isShadowed_39 : decode cX7_isShadowed 39 = .ok (.if_icmp .ge 7, 3) := by decide +kernel
theorem dX7_isShadowed_42 : decode cX7_isShadowed 42 = .ok (.iconst 1, 1) := by decide +kernel
theorem dX7_isShadowed_43 : decode cX7_isShadowed 43 = .ok (.goto 4, 3) := by decide +kernel
theorem dX7_isShadowed_46 : decode cX7_isShadowed 46 = .ok (.iconst 0, 1) := by decide +kernel
theorem dX7_isShadowed_47 : decode cX7_isShadowed 47 = .ok (.ireturn, 1) := by decide +kernel
theorem dX7_isBlocked_0 : decode cX7_isBlocked 0 = .ok (.aload_n 0, 1) := by decide +kernel
theorem dX7_isBlocked_1 : decode cX7_isBlocked 1 = .ok (.getfield 18, 3) := by decide +kernel
theorem dX7_isBlocked_4 : decode cX7_isBlocked 4 = .ok (.iconst (-1), 1) := by decide +kernel
theorem dX7_isBlocked_5 : decode cX7_isBlocked 5 = .ok (.if_icmp .eq 23, 3) := by decide +kernel
theorem dX7_isBlocked_8 : decode cX7_isBlocked 8 = .ok (.iload_n 2, 1) := by decide +kernel
theorem dX7_isBlocked_9 : decode cX7_isBlocked 9 = .ok (.aload_n 0, 1) := by decide +kernel
theorem dX7_isBlocked_10 : decode cX7_isBlocked 10 = .ok (.getfield 18, 3) := by decide +kernel
theorem dX7_isBlocked_13 : decode cX7_isBlocked 13 = .ok (.if_icmp .ne 15, 3) := by decide +kernel
theorem dX7_isBlocked_16 : decode cX7_isBlocked 16 = .ok (.aload_n 1, 1) := by decide +kernel
theorem dX7_isBlocked_17 : decode cX7_isBlocked 17 = .ok (.iload_n 3, 1) := by decide +kernel
theorem dX7_isBlocked_18 : decode cX7_isBlocked 18 = .ok (.invokevirtual 92, 3) := by decide +kernel
theorem dX7_isBlocked_21 : decode cX7_isBlocked 21 = .ok (.ifCond .ne 7, 3) := by decide +kernel
theorem dX7_isBlocked_24 : decode cX7_isBlocked 24 = .ok (.iconst 1, 1) := by decide +kernel
theorem dX7_isBlocked_25 : decode cX7_isBlocked 25 = .ok (.goto 4, 3) := by decide +kernel
theorem dX7_isBlocked_28 : decode cX7_isBlocked 28 = .ok (.iconst 0, 1) := by decide +kernel
theorem dX7_isBlocked_29 : decode cX7_isBlocked 29 = .ok (.ireturn, 1) := by decide +kernel
theorem dX7_lengthThrough_0 : decode cX7_lengthThrough 0 = .ok (.aload_n 0, 1) := by decide +kernel
theorem dX7_lengthThrough_1 : decode cX7_lengthThrough 1 = .ok (.getfield 43, 3) := by decide +kernel
theorem dX7_lengthThrough_4 : decode cX7_lengthThrough 4 = .ok (.iload_n 2, 1) := by decide +kernel
theorem dX7_lengthThrough_5 : decode cX7_lengthThrough 5 = .ok (.aload_n 0, 1) := by decide +kernel
theorem dX7_lengthThrough_6 : decode cX7_lengthThrough 6 = .ok (.getfield 18, 3) := by decide +kernel
theorem dX7_lengthThrough_9 : decode cX7_lengthThrough 9 = .ok (.isub, 1) := by decide +kernel
theorem dX7_lengthThrough_10 : decode cX7_lengthThrough 10 = .ok (.iload_n 3, 1) := by decide +kernel
theorem dX7_lengthThrough_11 : decode cX7_lengthThrough 11 = .ok (.iload_n 1, 1) := by decide +kernel
theorem dX7_lengthThrough_12 : decode cX7_lengthThrough 12 = .ok (.isub, 1) := by decide +kernel
theorem dX7_lengthThrough_13 : decode cX7_lengthThrough 13 = .ok (.invokevirtual 96, 3) := by decide +kernel
theorem dX7_lengthThrough_16 : decode cX7_lengthThrough 16 = .ok (.aload_n 0, 1) := by decide +kernel
theorem dX7_lengthThrough_17 : decode cX7_lengthThrough 17 = .ok (.getfield 43, 3) := by decide +kernel
theorem dX7_lengthThrough_20 : decode cX7_lengthThrough 20 = .ok (.aload_n 0, 1) := by decide +kernel
theorem dX7_lengthThrough_21 : decode cX7_lengthThrough 21 = .ok (.getfield 18, 3) := by decide +kernel
theorem dX7_lengthThrough_24 : decode cX7_lengthThrough 24 = .ok (.iload 4, 2) := by decide +kernel
theorem dX7_lengthThrough_26 : decode cX7_lengthThrough 26 = .ok (.isub, 1) := by decide +kernel
theorem dX7_lengthThrough_27 : decode cX7_lengthThrough 27 = .ok (.iload_n 1, 1) := by decide +kernel
theorem dX7_lengthThrough_28 : decode cX7_lengthThrough 28 = .ok (.iload 5, 2) := by decide +kernel
theorem dX7_lengthThrough_30 : decode cX7_lengthThrough 30 = .ok (.isub, 1) := by decide +kernel
theorem dX7_lengthThrough_31 : decode cX7_lengthThrough 31 = .ok (.invokevirtual 96, 3) := by decide +kernel
theorem dX7_lengthThrough_34 : decode cX7_lengthThrough 34 = .ok (.iadd, 1) := by decide +kernel
theorem dX7_lengthThrough_35 : decode cX7_lengthThrough 35 = .ok (.ireturn, 1) := by decide +kernel
theorem dX7_shortestLength_0 : decode cX7_shortestLength 0 = .ok (.aload_n 0, 1) := by decide +kernel
theorem dX7_shortestLength_1 : decode cX7_shortestLength 1 = .ok (.aload_n 1, 1) := by decide +kernel
theorem dX7_shortestLength_2 : decode cX7_shortestLength 2 = .ok (.iload_n 3, 1) := by decide +kernel
theorem dX7_shortestLength_3 : decode cX7_shortestLength 3 = .ok (.iload 4, 2) := by decide +kernel
theorem dX7_shortestLength_5 : decode cX7_shortestLength 5 = .ok (.invokevirtual 101, 3) := by decide +kernel
theorem dX7_shortestLength_8 : decode cX7_shortestLength 8 = .ok (.ifCond .eq 5, 3) := by decide +kernel
theorem dX7_shortestLength_11 : decode cX7_shortestLength 11 = .ok (.iconst (-1), 1) := by decide +kernel
theorem dX7_shortestLength_12 : decode cX7_shortestLength 12 = .ok (.ireturn, 1) := by decide +kernel
theorem dX7_shortestLength_13 : decode cX7_shortestLength 13 = .ok (.aload_n 0, 1) := by decide +kernel
theorem dX7_shortestLength_14 : decode cX7_shortestLength 14 = .ok (.aload_n 1, 1) := by decide +kernel
theorem dX7_shortestLength_15 : decode cX7_shortestLength 15 = .ok (.iload_n 2, 1) := by decide +kernel
theorem dX7_shortestLength_16 : decode cX7_shortestLength 16 = .ok (.aload_n 1, 1) := by decide +kernel
theorem dX7_shortestLength_17 : decode cX7_shortestLength 17 = .ok (.getfield 79, 3) := by decide +kernel
theorem dX7_shortestLength_20 : decode cX7_shortestLength 20 = .ok (.invokevirtual 82, 3) := by decide +kernel
theorem dX7_shortestLength_23 : decode cX7_shortestLength 23 = .ok (.istore 5, 2) := by decide +kernel
theorem dX7_shortestLength_25 : decode cX7_shortestLength 25 = .ok (.aload_n 0, 1) := by decide +kernel
theorem dX7_shortestLength_26 : decode cX7_shortestLength 26 = .ok (.aload_n 1, 1) := by decide +kernel
theorem dX7_shortestLength_27 : decode cX7_shortestLength 27 = .ok (.iload_n 2, 1) := by decide +kernel
theorem dX7_shortestLength_28 : decode cX7_shortestLength 28 = .ok (.aload_n 1, 1) := by decide +kernel
theorem dX7_shortestLength_29 : decode cX7_shortestLength 29 = .ok (.getfield 79, 3) := by decide +kernel
theorem dX7_shortestLength_32 : decode cX7_shortestLength 32 = .ok (.invokevirtual 86, 3) := by decide +kernel
theorem dX7_shortestLength_35 : decode cX7_shortestLength 35 = .ok (.istore 6, 2) := by decide +kernel
theorem dX7_shortestLength_37 : decode cX7_shortestLength 37 = .ok (.aload_n 0, 1) := by decide +kernel
theorem dX7_shortestLength_38 : decode cX7_shortestLength 38 = .ok (.iload 5, 2) := by decide +kernel
theorem dX7_shortestLength_40 : decode cX7_shortestLength 40 = .ok (.iload_n 3, 1) := by decide +kernel
theorem dX7_shortestLength_41 : decode cX7_shortestLength 41 = .ok (.invokevirtual 105, 3) := by decide +kernel
theorem dX7_shortestLength_44 : decode cX7_shortestLength 44 = .ok (.ifCond .ne 20, 3) := by decide +kernel
theorem dX7_shortestLength_47 : decode cX7_shortestLength 47 = .ok (.aload_n 0, 1) := by decide +kernel
theorem dX7_shortestLength_48 : decode cX7_shortestLength 48 = .ok (.getfield 43, 3) := by decide +kernel
theorem dX7_shortestLength_51 : decode cX7_shortestLength 51 = .ok (.iload 5, 2) := by decide +kernel
theorem dX7_shortestLength_53 : decode cX7_shortestLength 53 = .ok (.iload_n 3, 1) := by decide +kernel
theorem dX7_shortestLength_54 : decode cX7_shortestLength 54 = .ok (.isub, 1) := by decide +kernel
theorem dX7_shortestLength_55 : decode cX7_shortestLength 55 = .ok (.iload 6, 2) := by decide +kernel
theorem dX7_shortestLength_57 : decode cX7_shortestLength 57 = .ok (.iload 4, 2) := by decide +kernel
theorem dX7_shortestLength_59 : decode cX7_shortestLength 59 = .ok (.isub, 1) := by decide +kernel
theorem dX7_shortestLength_60 : decode cX7_shortestLength 60 = .ok (.invokevirtual 96, 3) := by decide +kernel
theorem dX7_shortestLength_63 : decode cX7_shortestLength 63 = .ok (.ireturn, 1) := by decide +kernel
theorem dX7_shortestLength_64 : decode cX7_shortestLength 64 = .ok (.iconst (-1), 1) := by decide +kernel
theorem dX7_shortestLength_65 : decode cX7_shortestLength 65 = .ok (.istore 7, 2) := by decide +kernel
theorem dX7_shortestLength_67 : decode cX7_shortestLength 67 = .ok (.iconst 0, 1) := by decide +kernel
theorem dX7_shortestLength_68 : decode cX7_shortestLength 68 = .ok (.istore 8, 2) := by decide +kernel
theorem dX7_shortestLength_70 : decode cX7_shortestLength 70 = .ok (.iload 8, 2) := by decide +kernel
theorem dX7_shortestLength_72 : decode cX7_shortestLength 72 = .ok (.aload_n 0, 1) := by decide +kernel
theorem dX7_shortestLength_73 : decode cX7_shortestLength 73 = .ok (.getfield 15, 3) := by decide +kernel
theorem dX7_shortestLength_76 : decode cX7_shortestLength 76 = .ok (.if_icmp .ge 53, 3) := by decide +kernel
theorem dX7_shortestLength_79 : decode cX7_shortestLength 79 = .ok (.aload_n 1, 1) := by decide +kernel
theorem dX7_shortestLength_80 : decode cX7_shortestLength 80 = .ok (.iload 8, 2) := by decide +kernel
theorem dX7_shortestLength_82 : decode cX7_shortestLength 82 = .ok (.invokevirtual 92, 3) := by decide +kernel
theorem dX7_shortestLength_85 : decode cX7_shortestLength 85 = .ok (.ifCond .eq 38, 3) := by decide +kernel
theorem dX7_shortestLength_88 : decode cX7_shortestLength 88 = .ok (.aload_n 0, 1) := by decide +kernel
theorem dX7_shortestLength_89 : decode cX7_shortestLength 89 = .ok (.iload 8, 2) := by decide +kernel
theorem dX7_shortestLength_91 : decode cX7_shortestLength 91 = .ok (.iload 5, 2) := by decide +kernel
theorem dX7_shortestLength_93 : decode cX7_shortestLength 93 = .ok (.iload 6, 2) := by decide +kernel
theorem dX7_shortestLength_95 : decode cX7_shortestLength 95 = .ok (.iload_n 3, 1) := by decide +kernel
theorem dX7_shortestLength_96 : decode cX7_shortestLength 96 = .ok (.iload 4, 2) := by decide +kernel
theorem dX7_shortestLength_98 : decode cX7_shortestLength 98 = .ok (.invokevirtual 109, 3) := by decide +kernel
theorem dX7_shortestLength_101 : decode cX7_shortestLength 101 = .ok (.istore 9, 2) := by decide +kernel
theorem dX7_shortestLength_103 : decode cX7_shortestLength 103 = .ok (.iload 7, 2) := by decide +kernel
theorem dX7_shortestLength_105 : decode cX7_shortestLength 105 = .ok (.iconst (-1), 1) := by decide +kernel
theorem dX7_shortestLength_106 : decode cX7_shortestLength 106 = .ok (.if_icmp .ne 8, 3) := by decide +kernel
theorem dX7_shortestLength_109 : decode cX7_shortestLength 109 = .ok (.iload 9, 2) := by decide +kernel
theorem dX7_shortestLength_111 : decode cX7_shortestLength 111 = .ok (.goto 10, 3) := by decide +kernel
theorem dX7_shortestLength_114 : decode cX7_shortestLength 114 = .ok (.iload 7, 2) := by decide +kernel
theorem dX7_shortestLength_116 : decode cX7_shortestLength 116 = .ok (.iload 9, 2) := by decide +kernel
theorem dX7_shortestLength_118 : decode cX7_shortestLength 118 = .ok (.invokestatic 65, 3) := by decide +kernel
theorem dX7_shortestLength_121 : decode cX7_shortestLength 121 = .ok (.istore 7, 2) := by decide +kernel
theorem dX7_shortestLength_123 : decode cX7_shortestLength 123 = .ok (.iinc 8 1, 3) := by decide +kernel
theorem dX7_shortestLength_126 : decode cX7_shortestLength 126 = .ok (.goto (-56), 3) := by decide +kernel
theorem dX7_shortestLength_129 : decode cX7_shortestLength 129 = .ok (.iload 7, 2) := by decide +kernel
theorem dX7_shortestLength_131 : decode cX7_shortestLength 131 = .ok (.ireturn, 1) := by decide +kernel
theorem dX7_firstArrival_0 : decode cX7_firstArrival 0 = .ok (.aload_n 0, 1) := by decide +kernel
theorem dX7_firstArrival_1 : decode cX7_firstArrival 1 = .ok (.aload_n 1, 1) := by decide +kernel
theorem dX7_firstArrival_2 : decode cX7_firstArrival 2 = .ok (.iload_n 2, 1) := by decide +kernel
theorem dX7_firstArrival_3 : decode cX7_firstArrival 3 = .ok (.iload_n 3, 1) := by decide +kernel
theorem dX7_firstArrival_4 : decode cX7_firstArrival 4 = .ok (.iload 4, 2) := by decide +kernel
theorem dX7_firstArrival_6 : decode cX7_firstArrival 6 = .ok (.invokevirtual 113, 3) := by decide +kernel
theorem dX7_firstArrival_9 : decode cX7_firstArrival 9 = .ok (.istore 5, 2) := by decide +kernel
theorem dX7_firstArrival_11 : decode cX7_firstArrival 11 = .ok (.iload 5, 2) := by decide +kernel
theorem dX7_firstArrival_13 : decode cX7_firstArrival 13 = .ok (.iconst (-1), 1) := by decide +kernel
theorem dX7_firstArrival_14 : decode cX7_firstArrival 14 = .ok (.if_icmp .ne 5, 3) := by decide +kernel
theorem dX7_firstArrival_17 : decode cX7_firstArrival 17 = .ok (.iconst (-1), 1) := by decide +kernel
theorem dX7_firstArrival_18 : decode cX7_firstArrival 18 = .ok (.ireturn, 1) := by decide +kernel
theorem dX7_firstArrival_19 : decode cX7_firstArrival 19 = .ok (.aload_n 0, 1) := by decide +kernel
theorem dX7_firstArrival_20 : decode cX7_firstArrival 20 = .ok (.getfield 23, 3) := by decide +kernel
theorem dX7_firstArrival_23 : decode cX7_firstArrival 23 = .ok (.iload_n 2, 1) := by decide +kernel
theorem dX7_firstArrival_24 : decode cX7_firstArrival 24 = .ok (.aaload, 1) := by decide +kernel
theorem dX7_firstArrival_25 : decode cX7_firstArrival 25 = .ok (.getfield 117, 3) := by decide +kernel
theorem dX7_firstArrival_28 : decode cX7_firstArrival 28 = .ok (.aload_n 0, 1) := by decide +kernel
theorem dX7_firstArrival_29 : decode cX7_firstArrival 29 = .ok (.getfield 23, 3) := by decide +kernel
theorem dX7_firstArrival_32 : decode cX7_firstArrival 32 = .ok (.iload_n 2, 1) := by decide +kernel
theorem dX7_firstArrival_33 : decode cX7_firstArrival 33 = .ok (.aaload, 1) := by decide +kernel
theorem dX7_firstArrival_34 : decode cX7_firstArrival 34 = .ok (.iload 5, 2) := by decide +kernel
theorem dX7_firstArrival_36 : decode cX7_firstArrival 36 = .ok (.invokevirtual 120, 3) := by decide +kernel
theorem dX7_firstArrival_39 : decode cX7_firstArrival 39 = .ok (.iadd, 1) := by decide +kernel
theorem dX7_firstArrival_40 : decode cX7_firstArrival 40 = .ok (.ireturn, 1) := by decide +kernel
theorem dX7_imageColumn_0 : decode cX7_imageColumn 0 = .ok (.iload_n 1, 1) := by decide +kernel
theorem dX7_imageColumn_1 : decode cX7_imageColumn 1 = .ok (.ifCond .ne 7, 3) := by decide +kernel
theorem dX7_imageColumn_4 : decode cX7_imageColumn 4 = .ok (.iconst (-1), 1) := by decide +kernel
theorem dX7_imageColumn_5 : decode cX7_imageColumn 5 = .ok (.iload_n 2, 1) := by decide +kernel
theorem dX7_imageColumn_6 : decode cX7_imageColumn 6 = .ok (.isub, 1) := by decide +kernel
theorem dX7_imageColumn_7 : decode cX7_imageColumn 7 = .ok (.ireturn, 1) := by decide +kernel
theorem dX7_imageColumn_8 : decode cX7_imageColumn 8 = .ok (.iload_n 1, 1) := by decide +kernel
theorem dX7_imageColumn_9 : decode cX7_imageColumn 9 = .ok (.iconst 1, 1) := by decide +kernel
theorem dX7_imageColumn_10 : decode cX7_imageColumn 10 = .ok (.if_icmp .ne 16, 3) := by decide +kernel
theorem dX7_imageColumn_13 : decode cX7_imageColumn 13 = .ok (.iconst 2, 1) := by decide +kernel
theorem dX7_imageColumn_14 : decode cX7_imageColumn 14 = .ok (.aload_n 0, 1) := by decide +kernel
theorem dX7_imageColumn_15 : decode cX7_imageColumn 15 = .ok (.getfield 9, 3) := by decide +kernel
theorem dX7_imageColumn_18 : decode cX7_imageColumn 18 = .ok (.imul, 1) := by decide +kernel
theorem dX7_imageColumn_19 : decode cX7_imageColumn 19 = .ok (.iconst 1, 1) := by decide +kernel
theorem dX7_imageColumn_20 : decode cX7_imageColumn 20 = .ok (.isub, 1) := by decide +kernel
theorem dX7_imageColumn_21 : decode cX7_imageColumn 21 = .ok (.iload_n 2, 1) := by decide +kernel
theorem dX7_imageColumn_22 : decode cX7_imageColumn 22 = .ok (.isub, 1) := by decide +kernel
theorem dX7_imageColumn_23 : decode cX7_imageColumn 23 = .ok (.goto 4, 3) := by decide +kernel
theorem dX7_imageColumn_26 : decode cX7_imageColumn 26 = .ok (.iload_n 2, 1) := by decide +kernel
theorem dX7_imageColumn_27 : decode cX7_imageColumn 27 = .ok (.ireturn, 1) := by decide +kernel
theorem dX7_imageRow_0 : decode cX7_imageRow 0 = .ok (.iload_n 1, 1) := by decide +kernel
theorem dX7_imageRow_1 : decode cX7_imageRow 1 = .ok (.iconst 2, 1) := by decide +kernel
theorem dX7_imageRow_2 : decode cX7_imageRow 2 = .ok (.if_icmp .ne 7, 3) := by decide +kernel
theorem dX7_imageRow_5 : decode cX7_imageRow 5 = .ok (.iconst (-1), 1) := by decide +kernel
theorem dX7_imageRow_6 : decode cX7_imageRow 6 = .ok (.iload_n 2, 1) := by decide +kernel
theorem dX7_imageRow_7 : decode cX7_imageRow 7 = .ok (.isub, 1) := by decide +kernel
theorem dX7_imageRow_8 : decode cX7_imageRow 8 = .ok (.ireturn, 1) := by decide +kernel
theorem dX7_imageRow_9 : decode cX7_imageRow 9 = .ok (.iload_n 1, 1) := by decide +kernel
theorem dX7_imageRow_10 : decode cX7_imageRow 10 = .ok (.iconst 3, 1) := by decide +kernel
theorem dX7_imageRow_11 : decode cX7_imageRow 11 = .ok (.if_icmp .ne 16, 3) := by decide +kernel
theorem dX7_imageRow_14 : decode cX7_imageRow 14 = .ok (.iconst 2, 1) := by decide +kernel
theorem dX7_imageRow_15 : decode cX7_imageRow 15 = .ok (.aload_n 0, 1) := by decide +kernel
theorem dX7_imageRow_16 : decode cX7_imageRow 16 = .ok (.getfield 15, 3) := by decide +kernel
theorem dX7_imageRow_19 : decode cX7_imageRow 19 = .ok (.imul, 1) := by decide +kernel
theorem dX7_imageRow_20 : decode cX7_imageRow 20 = .ok (.iconst 1, 1) := by decide +kernel
theorem dX7_imageRow_21 : decode cX7_imageRow 21 = .ok (.isub, 1) := by decide +kernel
theorem dX7_imageRow_22 : decode cX7_imageRow 22 = .ok (.iload_n 2, 1) := by decide +kernel
theorem dX7_imageRow_23 : decode cX7_imageRow 23 = .ok (.isub, 1) := by decide +kernel
theorem dX7_imageRow_24 : decode cX7_imageRow 24 = .ok (.goto 4, 3) := by decide +kernel
theorem dX7_imageRow_27 : decode cX7_imageRow 27 = .ok (.iload_n 2, 1) := by decide +kernel
theorem dX7_imageRow_28 : decode cX7_imageRow 28 = .ok (.ireturn, 1) := by decide +kernel
theorem dX7_partOf_0 : decode cX7_partOf 0 = .ok (.aload_n 1, 1) := by decide +kernel
theorem dX7_partOf_1 : decode cX7_partOf 1 = .ok (.getfield 124, 3) := by decide +kernel
theorem dX7_partOf_4 : decode cX7_partOf 4 = .ok (.iload_n 2, 1) := by decide +kernel
theorem dX7_partOf_5 : decode cX7_partOf 5 = .ok (.baload, 1) := by decide +kernel
theorem dX7_partOf_6 : decode cX7_partOf 6 = .ok (.ifCond .eq 14, 3) := by decide +kernel
theorem dX7_partOf_9 : decode cX7_partOf 9 = .ok (.aload_n 0, 1) := by decide +kernel
theorem dX7_partOf_10 : decode cX7_partOf 10 = .ok (.aload_n 1, 1) := by decide +kernel
theorem dX7_partOf_11 : decode cX7_partOf 11 = .ok (.iload_n 3, 1) := by decide +kernel
theorem dX7_partOf_12 : decode cX7_partOf 12 = .ok (.iload 4, 2) := by decide +kernel
theorem dX7_partOf_14 : decode cX7_partOf 14 = .ok (.invokevirtual 101, 3) := by decide +kernel
theorem dX7_partOf_17 : decode cX7_partOf 17 = .ok (.ifCond .eq 5, 3) := by decide +kernel
theorem dX7_partOf_20 : decode cX7_partOf 20 = .ok (.iconst 0, 1) := by decide +kernel
theorem dX7_partOf_21 : decode cX7_partOf 21 = .ok (.ireturn, 1) := by decide +kernel
theorem dX7_partOf_22 : decode cX7_partOf 22 = .ok (.aload_n 0, 1) := by decide +kernel
theorem dX7_partOf_23 : decode cX7_partOf 23 = .ok (.getfield 23, 3) := by decide +kernel
theorem dX7_partOf_26 : decode cX7_partOf 26 = .ok (.iload_n 2, 1) := by decide +kernel
theorem dX7_partOf_27 : decode cX7_partOf 27 = .ok (.aaload, 1) := by decide +kernel
theorem dX7_partOf_28 : decode cX7_partOf 28 = .ok (.astore 6, 2) := by decide +kernel
theorem dX7_partOf_30 : decode cX7_partOf 30 = .ok (.aload_n 1, 1) := by decide +kernel
theorem dX7_partOf_31 : decode cX7_partOf 31 = .ok (.getfield 128, 3) := by decide +kernel
theorem dX7_partOf_34 : decode cX7_partOf 34 = .ok (.iload_n 2, 1) := by decide +kernel
theorem dX7_partOf_35 : decode cX7_partOf 35 = .ok (.iaload, 1) := by decide +kernel
theorem dX7_partOf_36 : decode cX7_partOf 36 = .ok (.istore 7, 2) := by decide +kernel
theorem dX7_partOf_38 : decode cX7_partOf 38 = .ok (.aload_n 1, 1) := by decide +kernel
theorem dX7_partOf_39 : decode cX7_partOf 39 = .ok (.getfield 131, 3) := by decide +kernel
theorem dX7_partOf_42 : decode cX7_partOf 42 = .ok (.iload_n 2, 1) := by decide +kernel
theorem dX7_partOf_43 : decode cX7_partOf 43 = .ok (.iaload, 1) := by decide +kernel
theorem dX7_partOf_44 : decode cX7_partOf 44 = .ok (.istore 8, 2) := by decide +kernel
theorem dX7_partOf_46 : decode cX7_partOf 46 = .ok (.aload_n 0, 1) := by decide +kernel
theorem dX7_partOf_47 : decode cX7_partOf 47 = .ok (.aload_n 1, 1) := by decide +kernel
theorem dX7_partOf_48 : decode cX7_partOf 48 = .ok (.iload_n 2, 1) := by decide +kernel
theorem dX7_partOf_49 : decode cX7_partOf 49 = .ok (.iload 5, 2) := by decide +kernel
theorem dX7_partOf_51 : decode cX7_partOf 51 = .ok (.invokevirtual 82, 3) := by decide +kernel
theorem dX7_partOf_54 : decode cX7_partOf 54 = .ok (.istore 9, 2) := by decide +kernel
theorem dX7_partOf_56 : decode cX7_partOf 56 = .ok (.aload_n 0, 1) := by decide +kernel
theorem dX7_partOf_57 : decode cX7_partOf 57 = .ok (.aload_n 1, 1) := by decide +kernel
theorem dX7_partOf_58 : decode cX7_partOf 58 = .ok (.iload_n 2, 1) := by decide +kernel
theorem dX7_partOf_59 : decode cX7_partOf 59 = .ok (.iload 5, 2) := by decide +kernel
theorem dX7_partOf_61 : decode cX7_partOf 61 = .ok (.invokevirtual 86, 3) := by decide +kernel
theorem dX7_partOf_64 : decode cX7_partOf 64 = .ok (.istore 10, 2) := by decide +kernel
theorem dX7_partOf_66 : decode cX7_partOf 66 = .ok (.iconst 0, 1) := by decide +kernel
theorem dX7_partOf_67 : decode cX7_partOf 67 = .ok (.istore 11, 2) := by decide +kernel
theorem dX7_partOf_69 : decode cX7_partOf 69 = .ok (.aload_n 0, 1) := by decide +kernel
theorem dX7_partOf_70 : decode cX7_partOf 70 = .ok (.iload 9, 2) := by decide +kernel
theorem dX7_partOf_72 : decode cX7_partOf 72 = .ok (.iload_n 3, 1) := by decide +kernel
theorem dX7_partOf_73 : decode cX7_partOf 73 = .ok (.invokevirtual 105, 3) := by decide +kernel
theorem dX7_partOf_76 : decode cX7_partOf 76 = .ok (.ifCond .eq 89, 3) := by decide +kernel
theorem dX7_partOf_79 : decode cX7_partOf 79 = .ok (.iconst 0, 1) := by decide +kernel
theorem dX7_partOf_80 : decode cX7_partOf 80 = .ok (.istore 12, 2) := by decide +kernel
theorem dX7_partOf_82 : decode cX7_partOf 82 = .ok (.iload 12, 2) := by decide +kernel
theorem dX7_partOf_84 : decode cX7_partOf 84 = .ok (.aload_n 0, 1) := by decide +kernel
theorem dX7_partOf_85 : decode cX7_partOf 85 = .ok (.getfield 15, 3) := by decide +kernel
theorem dX7_partOf_88 : decode cX7_partOf 88 = .ok (.if_icmp .ge 55, 3) := by decide +kernel
theorem dX7_partOf_91 : decode cX7_partOf 91 = .ok (.aload_n 1, 1) := by decide +kernel
theorem dX7_partOf_92 : decode cX7_partOf 92 = .ok (.iload 12, 2) := by decide +kernel
theorem dX7_partOf_94 : decode cX7_partOf 94 = .ok (.invokevirtual 92, 3) := by decide +kernel
theorem dX7_partOf_97 : decode cX7_partOf 97 = .ok (.ifCond .eq 40, 3) := by decide +kernel
theorem dX7_partOf_100 : decode cX7_partOf 100 = .ok (.aload_n 0, 1) := by decide +kernel
theorem dX7_partOf_101 : decode cX7_partOf 101 = .ok (.iload 12, 2) := by decide +kernel
theorem dX7_partOf_103 : decode cX7_partOf 103 = .ok (.iload 9, 2) := by decide +kernel
theorem dX7_partOf_105 : decode cX7_partOf 105 = .ok (.iload 10, 2) := by decide +kernel
theorem dX7_partOf_107 : decode cX7_partOf 107 = .ok (.iload_n 3, 1) := by decide +kernel
theorem dX7_partOf_108 : decode cX7_partOf 108 = .ok (.iload 4, 2) := by decide +kernel
theorem dX7_partOf_110 : decode cX7_partOf 110 = .ok (.invokevirtual 109, 3) := by decide +kernel
theorem dX7_partOf_113 : decode cX7_partOf 113 = .ok (.istore 13, 2) := by decide +kernel
theorem dX7_partOf_115 : decode cX7_partOf 115 = .ok (.iload 11, 2) := by decide +kernel
theorem dX7_partOf_117 : decode cX7_partOf 117 = .ok (.aload 6, 2) := by decide +kernel
theorem dX7_partOf_119 : decode cX7_partOf 119 = .ok (.iload 7, 2) := by decide +kernel
theorem dX7_partOf_121 : decode cX7_partOf 121 = .ok (.iload 8, 2) := by decide +kernel
theorem dX7_partOf_123 : decode cX7_partOf 123 = .ok (.iload 13, 2) := by decide +kernel
theorem dX7_partOf_125 : decode cX7_partOf 125 = .ok (.iload 5, 2) := by decide +kernel
theorem dX7_partOf_127 : decode cX7_partOf 127 = .ok (.aload_n 0, 1) := by decide +kernel
theorem dX7_partOf_128 : decode cX7_partOf 128 = .ok (.getfield 134, 3) := by decide +kernel
theorem dX7_partOf_131 : decode cX7_partOf 131 = .ok (.invokevirtual 137, 3) := by decide +kernel
theorem dX7_partOf_134 : decode cX7_partOf 134 = .ok (.iadd, 1) := by decide +kernel
theorem dX7_partOf_135 : decode cX7_partOf 135 = .ok (.istore 11, 2) := by decide +kernel
theorem dX7_partOf_137 : decode cX7_partOf 137 = .ok (.iinc 12 1, 3) := by decide +kernel
theorem dX7_partOf_140 : decode cX7_partOf 140 = .ok (.goto (-58), 3) := by decide +kernel
theorem dX7_partOf_143 : decode cX7_partOf 143 = .ok (.aload_n 1, 1) := by decide +kernel
theorem dX7_partOf_144 : decode cX7_partOf 144 = .ok (.getfield 140, 3) := by decide +kernel
theorem dX7_partOf_147 : decode cX7_partOf 147 = .ok (.ifCond .ne 7, 3) := by decide +kernel
theorem dX7_partOf_150 : decode cX7_partOf 150 = .ok (.iconst 0, 1) := by decide +kernel
theorem dX7_partOf_151 : decode cX7_partOf 151 = .ok (.goto 13, 3) := by decide +kernel
theorem dX7_partOf_154 : decode cX7_partOf 154 = .ok (.iload 11, 2) := by decide +kernel
theorem dX7_partOf_156 : decode cX7_partOf 156 = .ok (.aload_n 1, 1) := by decide +kernel
theorem dX7_partOf_157 : decode cX7_partOf 157 = .ok (.getfield 140, 3) := by decide +kernel
theorem dX7_partOf_160 : decode cX7_partOf 160 = .ok (.invokestatic 143, 3) := by decide +kernel
theorem dX7_partOf_163 : decode cX7_partOf 163 = .ok (.idiv, 1) := by decide +kernel
theorem dX7_partOf_164 : decode cX7_partOf 164 = .ok (.ireturn, 1) := by decide +kernel
theorem dX7_partOf_165 : decode cX7_partOf 165 = .ok (.aload 6, 2) := by decide +kernel
theorem dX7_partOf_167 : decode cX7_partOf 167 = .ok (.iload 7, 2) := by decide +kernel
theorem dX7_partOf_169 : decode cX7_partOf 169 = .ok (.iload 8, 2) := by decide +kernel
theorem dX7_partOf_171 : decode cX7_partOf 171 = .ok (.aload_n 0, 1) := by decide +kernel
theorem dX7_partOf_172 : decode cX7_partOf 172 = .ok (.getfield 43, 3) := by decide +kernel
theorem dX7_partOf_175 : decode cX7_partOf 175 = .ok (.iload 9, 2) := by decide +kernel
theorem dX7_partOf_177 : decode cX7_partOf 177 = .ok (.iload_n 3, 1) := by decide +kernel
theorem dX7_partOf_178 : decode cX7_partOf 178 = .ok (.isub, 1) := by decide +kernel
theorem dX7_partOf_179 : decode cX7_partOf 179 = .ok (.iload 10, 2) := by decide +kernel
theorem dX7_partOf_181 : decode cX7_partOf 181 = .ok (.iload 4, 2) := by decide +kernel
theorem dX7_partOf_183 : decode cX7_partOf 183 = .ok (.isub, 1) := by decide +kernel
theorem dX7_partOf_184 : decode cX7_partOf 184 = .ok (.invokevirtual 96, 3) := by decide +kernel
theorem dX7_partOf_187 : decode cX7_partOf 187 = .ok (.iload 5, 2) := by decide +kernel
theorem dX7_partOf_189 : decode cX7_partOf 189 = .ok (.aload_n 0, 1) := by decide +kernel
theorem dX7_partOf_190 : decode cX7_partOf 190 = .ok (.getfield 134, 3) := by decide +kernel
theorem dX7_partOf_193 : decode cX7_partOf 193 = .ok (.invokevirtual 137, 3) := by decide +kernel
theorem dX7_partOf_196 : decode cX7_partOf 196 = .ok (.istore 11, 2) := by decide +kernel
theorem dX7_partOf_198 : decode cX7_partOf 198 = .ok (.iconst 0, 1) := by decide +kernel
theorem dX7_partOf_199 : decode cX7_partOf 199 = .ok (.istore 12, 2) := by decide +kernel
theorem dX7_partOf_201 : decode cX7_partOf 201 = .ok (.iload 12, 2) := by decide +kernel
theorem dX7_partOf_203 : decode cX7_partOf 203 = .ok (.iconst 4, 1) := by decide +kernel
theorem dX7_partOf_204 : decode cX7_partOf 204 = .ok (.if_icmp .ge 90, 3) := by decide +kernel
theorem dX7_partOf_207 : decode cX7_partOf 207 = .ok (.aload_n 0, 1) := by decide +kernel
theorem dX7_partOf_208 : decode cX7_partOf 208 = .ok (.getfield 40, 3) := by decide +kernel
theorem dX7_partOf_211 : decode cX7_partOf 211 = .ok (.iload 12, 2) := by decide +kernel
theorem dX7_partOf_213 : decode cX7_partOf 213 = .ok (.iaload, 1) := by decide +kernel
theorem dX7_partOf_214 : decode cX7_partOf 214 = .ok (.ifCond .le 74, 3) := by decide +kernel
theorem dX7_partOf_217 : decode cX7_partOf 217 = .ok (.aload_n 0, 1) := by decide +kernel
theorem dX7_partOf_218 : decode cX7_partOf 218 = .ok (.iload 12, 2) := by decide +kernel
theorem dX7_partOf_220 : decode cX7_partOf 220 = .ok (.iload 9, 2) := by decide +kernel
theorem dX7_partOf_222 : decode cX7_partOf 222 = .ok (.invokevirtual 148, 3) := by decide +kernel
theorem dX7_partOf_225 : decode cX7_partOf 225 = .ok (.iload_n 3, 1) := by decide +kernel
theorem dX7_partOf_226 : decode cX7_partOf 226 = .ok (.isub, 1) := by decide +kernel
theorem dX7_partOf_227 : decode cX7_partOf 227 = .ok (.istore 13, 2) := by decide +kernel
theorem dX7_partOf_229 : decode cX7_partOf 229 = .ok (.aload_n 0, 1) := by decide +kernel
theorem dX7_partOf_230 : decode cX7_partOf 230 = .ok (.iload 12, 2) := by decide +kernel
theorem dX7_partOf_232 : decode cX7_partOf 232 = .ok (.iload 10, 2) := by decide +kernel
theorem dX7_partOf_234 : decode cX7_partOf 234 = .ok (.invokevirtual 151, 3) := by decide +kernel
theorem dX7_partOf_237 : decode cX7_partOf 237 = .ok (.iload 4, 2) := by decide +kernel
theorem dX7_partOf_239 : decode cX7_partOf 239 = .ok (.isub, 1) := by decide +kernel
theorem dX7_partOf_240 : decode cX7_partOf 240 = .ok (.istore 14, 2) := by decide +kernel
theorem dX7_partOf_242 : decode cX7_partOf 242 = .ok (.aload_n 0, 1) := by decide +kernel
theorem dX7_partOf_243 : decode cX7_partOf 243 = .ok (.getfield 43, 3) := by decide +kernel
theorem dX7_partOf_246 : decode cX7_partOf 246 = .ok (.iload 13, 2) := by decide +kernel
theorem dX7_partOf_248 : decode cX7_partOf 248 = .ok (.iload 14, 2) := by decide +kernel
theorem dX7_partOf_250 : decode cX7_partOf 250 = .ok (.invokevirtual 96, 3) := by decide +kernel
theorem dX7_partOf_253 : decode cX7_partOf 253 = .ok (.istore 15, 2) := by decide +kernel
theorem dX7_partOf_255 : decode cX7_partOf 255 = .ok (.iload 11, 2) := by decide +kernel
theorem dX7_partOf_257 : decode cX7_partOf 257 = .ok (.aload 6, 2) := by decide +kernel
theorem dX7_partOf_259 : decode cX7_partOf 259 = .ok (.iload 7, 2) := by decide +kernel
theorem dX7_partOf_261 : decode cX7_partOf 261 = .ok (.iload 8, 2) := by decide +kernel
theorem dX7_partOf_263 : decode cX7_partOf 263 = .ok (.iload 15, 2) := by decide +kernel
theorem dX7_partOf_265 : decode cX7_partOf 265 = .ok (.iload 5, 2) := by decide +kernel
theorem dX7_partOf_267 : decode cX7_partOf 267 = .ok (.aload_n 0, 1) := by decide +kernel
theorem dX7_partOf_268 : decode cX7_partOf 268 = .ok (.getfield 134, 3) := by decide +kernel
theorem dX7_partOf_271 : decode cX7_partOf 271 = .ok (.invokevirtual 137, 3) := by decide +kernel
theorem dX7_partOf_274 : decode cX7_partOf 274 = .ok (.aload_n 0, 1) := by decide +kernel
theorem dX7_partOf_275 : decode cX7_partOf 275 = .ok (.getfield 40, 3) := by decide +kernel
theorem dX7_partOf_278 : decode cX7_partOf 278 = .ok (.iload 12, 2) := by decide +kernel
theorem dX7_partOf_280 : decode cX7_partOf 280 = .ok (.iaload, 1) := by decide +kernel
theorem dX7_partOf_281 : decode cX7_partOf 281 = .ok (.imul, 1) := by decide +kernel
theorem dX7_partOf_282 : decode cX7_partOf 282 = .ok (.bipush 100, 2) := by decide +kernel
theorem dX7_partOf_284 : decode cX7_partOf 284 = .ok (.idiv, 1) := by decide +kernel
theorem dX7_partOf_285 : decode cX7_partOf 285 = .ok (.iadd, 1) := by decide +kernel
theorem dX7_partOf_286 : decode cX7_partOf 286 = .ok (.istore 11, 2) := by decide +kernel
theorem dX7_partOf_288 : decode cX7_partOf 288 = .ok (.iinc 12 1, 3) := by decide +kernel
theorem dX7_partOf_291 : decode cX7_partOf 291 = .ok (.goto (-90), 3) := by decide +kernel
theorem dX7_partOf_294 : decode cX7_partOf 294 = .ok (.iload 11, 2) := by decide +kernel
theorem dX7_partOf_296 : decode cX7_partOf 296 = .ok (.ireturn, 1) := by decide +kernel
theorem dX7_waveOf_0 : decode cX7_waveOf 0 = .ok (.iconst 0, 1) := by decide +kernel
theorem dX7_waveOf_1 : decode cX7_waveOf 1 = .ok (.istore 5, 2) := by decide +kernel
theorem dX7_waveOf_3 : decode cX7_waveOf 3 = .ok (.iconst 0, 1) := by decide +kernel
theorem dX7_waveOf_4 : decode cX7_waveOf 4 = .ok (.istore 6, 2) := by decide +kernel
theorem dX7_waveOf_6 : decode cX7_waveOf 6 = .ok (.iload 6, 2) := by decide +kernel
theorem dX7_waveOf_8 : decode cX7_waveOf 8 = .ok (.aload_n 0, 1) := by decide +kernel
theorem dX7_waveOf_9 : decode cX7_waveOf 9 = .ok (.getfield 49, 3) := by decide +kernel
theorem dX7_waveOf_12 : decode cX7_waveOf 12 = .ok (.if_icmp .ge 25, 3) := by decide +kernel
theorem dX7_waveOf_15 : decode cX7_waveOf 15 = .ok (.iload 5, 2) := by decide +kernel
theorem dX7_waveOf_17 : decode cX7_waveOf 17 = .ok (.aload_n 0, 1) := by decide +kernel
theorem dX7_waveOf_18 : decode cX7_waveOf 18 = .ok (.aload_n 1, 1) := by decide +kernel
theorem dX7_waveOf_19 : decode cX7_waveOf 19 = .ok (.iload 6, 2) := by decide +kernel
theorem dX7_waveOf_21 : decode cX7_waveOf 21 = .ok (.iload_n 2, 1) := by decide +kernel
theorem dX7_waveOf_22 : decode cX7_waveOf 22 = .ok (.iload_n 3, 1) := by decide +kernel
theorem dX7_waveOf_23 : decode cX7_waveOf 23 = .ok (.iload 4, 2) := by decide +kernel
theorem dX7_waveOf_25 : decode cX7_waveOf 25 = .ok (.invokevirtual 154, 3) := by decide +kernel
theorem dX7_waveOf_28 : decode cX7_waveOf 28 = .ok (.iadd, 1) := by decide +kernel
theorem dX7_waveOf_29 : decode cX7_waveOf 29 = .ok (.istore 5, 2) := by decide +kernel
theorem dX7_waveOf_31 : decode cX7_waveOf 31 = .ok (.iinc 6 1, 3) := by decide +kernel
theorem dX7_waveOf_34 : decode cX7_waveOf 34 = .ok (.goto (-28), 3) := by decide +kernel
theorem dX7_waveOf_37 : decode cX7_waveOf 37 = .ok (.iconst 0, 1) := by decide +kernel
theorem dX7_waveOf_38 : decode cX7_waveOf 38 = .ok (.istore 6, 2) := by decide +kernel
theorem dX7_waveOf_40 : decode cX7_waveOf 40 = .ok (.iload 6, 2) := by decide +kernel
theorem dX7_waveOf_42 : decode cX7_waveOf 42 = .ok (.aload_n 0, 1) := by decide +kernel
theorem dX7_waveOf_43 : decode cX7_waveOf 43 = .ok (.getfield 52, 3) := by decide +kernel
theorem dX7_waveOf_46 : decode cX7_waveOf 46 = .ok (.if_icmp .ge 42, 3) := by decide +kernel
theorem dX7_waveOf_49 : decode cX7_waveOf 49 = .ok (.aload_n 0, 1) := by decide +kernel
theorem dX7_waveOf_50 : decode cX7_waveOf 50 = .ok (.getfield 29, 3) := by decide +kernel
theorem dX7_waveOf_53 : decode cX7_waveOf 53 = .ok (.iload 6, 2) := by decide +kernel
theorem dX7_waveOf_55 : decode cX7_waveOf 55 = .ok (.aaload, 1) := by decide +kernel
theorem dX7_waveOf_56 : decode cX7_waveOf 56 = .ok (.iload_n 2, 1) := by decide +kernel
theorem dX7_waveOf_57 : decode cX7_waveOf 57 = .ok (.iload_n 3, 1) := by decide +kernel
theorem dX7_waveOf_58 : decode cX7_waveOf 58 = .ok (.invokevirtual 158, 3) := by decide +kernel
theorem dX7_waveOf_61 : decode cX7_waveOf 61 = .ok (.ifCond .eq 21, 3) := by decide +kernel
theorem dX7_waveOf_64 : decode cX7_waveOf 64 = .ok (.iload 5, 2) := by decide +kernel
theorem dX7_waveOf_66 : decode cX7_waveOf 66 = .ok (.aload_n 0, 1) := by decide +kernel
theorem dX7_waveOf_67 : decode cX7_waveOf 67 = .ok (.getfield 29, 3) := by decide +kernel
theorem dX7_waveOf_70 : decode cX7_waveOf 70 = .ok (.iload 6, 2) := by decide +kernel
theorem dX7_waveOf_72 : decode cX7_waveOf 72 = .ok (.aaload, 1) := by decide +kernel
theorem dX7_waveOf_73 : decode cX7_waveOf 73 = .ok (.getfield 161, 3) := by decide +kernel
theorem dX7_waveOf_76 : decode cX7_waveOf 76 = .ok (.imul, 1) := by decide +kernel
theorem dX7_waveOf_77 : decode cX7_waveOf 77 = .ok (.bipush 100, 2) := by decide +kernel
theorem dX7_waveOf_79 : decode cX7_waveOf 79 = .ok (.idiv, 1) := by decide +kernel
theorem dX7_waveOf_80 : decode cX7_waveOf 80 = .ok (.istore 5, 2) := by decide +kernel
theorem dX7_waveOf_82 : decode cX7_waveOf 82 = .ok (.iinc 6 1, 3) := by decide +kernel
theorem dX7_waveOf_85 : decode cX7_waveOf 85 = .ok (.goto (-45), 3) := by decide +kernel
theorem dX7_waveOf_88 : decode cX7_waveOf 88 = .ok (.iload 5, 2) := by decide +kernel
theorem dX7_waveOf_90 : decode cX7_waveOf 90 = .ok (.ireturn, 1) := by decide +kernel
theorem dX7_staysCalm_0 : decode cX7_staysCalm 0 = .ok (.iconst 0, 1) := by decide +kernel
theorem dX7_staysCalm_1 : decode cX7_staysCalm 1 = .ok (.istore 6, 2) := by decide +kernel
theorem dX7_staysCalm_3 : decode cX7_staysCalm 3 = .ok (.iload 6, 2) := by decide +kernel
theorem dX7_staysCalm_5 : decode cX7_staysCalm 5 = .ok (.iload 4, 2) := by decide +kernel
theorem dX7_staysCalm_7 : decode cX7_staysCalm 7 = .ok (.if_icmp .ge 33, 3) := by decide +kernel
theorem dX7_staysCalm_10 : decode cX7_staysCalm 10 = .ok (.aload_n 0, 1) := by decide +kernel
theorem dX7_staysCalm_11 : decode cX7_staysCalm 11 = .ok (.aload_n 1, 1) := by decide +kernel
theorem dX7_staysCalm_12 : decode cX7_staysCalm 12 = .ok (.iload_n 2, 1) := by decide +kernel
theorem dX7_staysCalm_13 : decode cX7_staysCalm 13 = .ok (.iload_n 3, 1) := by decide +kernel
theorem dX7_staysCalm_14 : decode cX7_staysCalm 14 = .ok (.aload_n 1, 1) := by decide +kernel
theorem dX7_staysCalm_15 : decode cX7_staysCalm 15 = .ok (.getfield 79, 3) := by decide +kernel
theorem dX7_staysCalm_18 : decode cX7_staysCalm 18 = .ok (.iload 6, 2) := by decide +kernel
theorem dX7_staysCalm_20 : decode cX7_staysCalm 20 = .ok (.iadd, 1) := by decide +kernel
theorem dX7_staysCalm_21 : decode cX7_staysCalm 21 = .ok (.invokevirtual 164, 3) := by decide +kernel
theorem dX7_staysCalm_24 : decode cX7_staysCalm 24 = .ok (.invokestatic 167, 3) := by decide +kernel
theorem dX7_staysCalm_27 : decode cX7_staysCalm 27 = .ok (.iload 5, 2) := by decide +kernel
theorem dX7_staysCalm_29 : decode cX7_staysCalm 29 = .ok (.if_icmp .le 5, 3) := by decide +kernel
theorem dX7_staysCalm_32 : decode cX7_staysCalm 32 = .ok (.iconst 0, 1) := by decide +kernel
theorem dX7_staysCalm_33 : decode cX7_staysCalm 33 = .ok (.ireturn, 1) := by decide +kernel
theorem dX7_staysCalm_34 : decode cX7_staysCalm 34 = .ok (.iinc 6 1, 3) := by decide +kernel
theorem dX7_staysCalm_37 : decode cX7_staysCalm 37 = .ok (.goto (-34), 3) := by decide +kernel
theorem dX7_staysCalm_40 : decode cX7_staysCalm 40 = .ok (.iconst 1, 1) := by decide +kernel
theorem dX7_staysCalm_41 : decode cX7_staysCalm 41 = .ok (.ireturn, 1) := by decide +kernel
theorem dX7_energyOf_0 : decode cX7_energyOf 0 = .ok (.lconst 0, 1) := by decide +kernel
theorem dX7_energyOf_1 : decode cX7_energyOf 1 = .ok (.lstore 5, 2) := by decide +kernel
theorem dX7_energyOf_3 : decode cX7_energyOf 3 = .ok (.iconst 0, 1) := by decide +kernel
theorem dX7_energyOf_4 : decode cX7_energyOf 4 = .ok (.istore 7, 2) := by decide +kernel
theorem dX7_energyOf_6 : decode cX7_energyOf 6 = .ok (.iload 7, 2) := by decide +kernel
theorem dX7_energyOf_8 : decode cX7_energyOf 8 = .ok (.iload 4, 2) := by decide +kernel
theorem dX7_energyOf_10 : decode cX7_energyOf 10 = .ok (.if_icmp .ge 36, 3) := by decide +kernel
theorem dX7_energyOf_13 : decode cX7_energyOf 13 = .ok (.aload_n 0, 1) := by decide +kernel
theorem dX7_energyOf_14 : decode cX7_energyOf 14 = .ok (.aload_n 1, 1) := by decide +kernel
theorem dX7_energyOf_15 : decode cX7_energyOf 15 = .ok (.iload_n 2, 1) := by decide +kernel
theorem dX7_energyOf_16 : decode cX7_energyOf 16 = .ok (.iload_n 3, 1) := by decide +kernel
theorem dX7_energyOf_17 : decode cX7_energyOf 17 = .ok (.aload_n 1, 1) := by decide +kernel
theorem dX7_energyOf_18 : decode cX7_energyOf 18 = .ok (.getfield 79, 3) := by decide +kernel
theorem dX7_energyOf_21 : decode cX7_energyOf 21 = .ok (.iload 7, 2) := by decide +kernel
theorem dX7_energyOf_23 : decode cX7_energyOf 23 = .ok (.iadd, 1) := by decide +kernel
theorem dX7_energyOf_24 : decode cX7_energyOf 24 = .ok (.invokevirtual 164, 3) := by decide +kernel
theorem dX7_energyOf_27 : decode cX7_energyOf 27 = .ok (.i2l, 1) := by decide +kernel
theorem dX7_energyOf_28 : decode cX7_energyOf 28 = .ok (.lstore 8, 2) := by decide +kernel
theorem dX7_energyOf_30 : decode cX7_energyOf 30 = .ok (.lload 5, 2) := by decide +kernel
theorem dX7_energyOf_32 : decode cX7_energyOf 32 = .ok (.lload 8, 2) := by decide +kernel
theorem dX7_energyOf_34 : decode cX7_energyOf 34 = .ok (.lload 8, 2) := by decide +kernel
theorem dX7_energyOf_36 : decode cX7_energyOf 36 = .ok (.lmul, 1) := by decide +kernel
theorem dX7_energyOf_37 : decode cX7_energyOf 37 = .ok (.ladd, 1) := by decide +kernel
theorem dX7_energyOf_38 : decode cX7_energyOf 38 = .ok (.lstore 5, 2) := by decide +kernel
theorem dX7_energyOf_40 : decode cX7_energyOf 40 = .ok (.iinc 7 1, 3) := by decide +kernel
theorem dX7_energyOf_43 : decode cX7_energyOf 43 = .ok (.goto (-37), 3) := by decide +kernel
theorem dX7_energyOf_46 : decode cX7_energyOf 46 = .ok (.lload 5, 2) := by decide +kernel
theorem dX7_energyOf_48 : decode cX7_energyOf 48 = .ok (.lreturn, 1) := by decide +kernel
theorem dX8_init_0 : decode cX8_init 0 = .ok (.aload_n 0, 1) := by decide +kernel
theorem dX8_init_1 : decode cX8_init 1 = .ok (.invokespecial 3, 3) := by decide +kernel
theorem dX8_init_4 : decode cX8_init 4 = .ok (.aload_n 0, 1) := by decide +kernel
theorem dX8_init_5 : decode cX8_init 5 = .ok (.bipush 50, 2) := by decide +kernel
theorem dX8_init_7 : decode cX8_init 7 = .ok (.putfield 9, 3) := by decide +kernel
theorem dX8_init_10 : decode cX8_init 10 = .ok (.aload_n 0, 1) := by decide +kernel
theorem dX8_init_11 : decode cX8_init 11 = .ok (.iconst 2, 1) := by decide +kernel
theorem dX8_init_12 : decode cX8_init 12 = .ok (.putfield 15, 3) := by decide +kernel
theorem dX8_init_15 : decode cX8_init 15 = .ok (.aload_n 0, 1) := by decide +kernel
theorem dX8_init_16 : decode cX8_init 16 = .ok (.bipush 6, 2) := by decide +kernel
theorem dX8_init_18 : decode cX8_init 18 = .ok (.newarray .int, 2) := by decide +kernel
theorem dX8_init_20 : decode cX8_init 20 = .ok (.putfield 18, 3) := by decide +kernel
theorem dX8_init_23 : decode cX8_init 23 = .ok (.aload_n 0, 1) := by decide +kernel
theorem dX8_init_24 : decode cX8_init 24 = .ok (.bipush 6, 2) := by decide +kernel
theorem dX8_init_26 : decode cX8_init 26 = .ok (.newarray .int, 2) := by decide +kernel
theorem dX8_init_28 : decode cX8_init 28 = .ok (.putfield 22, 3) := by decide +kernel
theorem dX8_init_31 : decode cX8_init 31 = .ok (.return_, 1) := by decide +kernel
theorem dX8_addCut_0 : decode cX8_addCut 0 = .ok (.aload_n 0, 1) := by decide +kernel
theorem dX8_addCut_1 : decode cX8_addCut 1 = .ok (.getfield 25, 3) := by decide +kernel
theorem dX8_addCut_4 : decode cX8_addCut 4 = .ok (.bipush 6, 2) := by decide +kernel
theorem dX8_addCut_6 : decode cX8_addCut 6 = .ok (.if_icmp .ge 33, 3) := by decide +kernel
theorem dX8_addCut_9 : decode cX8_addCut 9 = .ok (.aload_n 0, 1) := by decide +kernel
theorem dX8_addCut_10 : decode cX8_addCut 10 = .ok (.getfield 18, 3) := by decide +kernel
theorem dX8_addCut_13 : decode cX8_addCut 13 = .ok (.aload_n 0, 1) := by decide +kernel
theorem dX8_addCut_14 : decode cX8_addCut 14 = .ok (.getfield 25, 3) := by decide +kernel
theorem dX8_addCut_17 : decode cX8_addCut 17 = .ok (.iload_n 1, 1) := by decide +kernel
theorem dX8_addCut_18 : decode cX8_addCut 18 = .ok (.iastore, 1) := by decide +kernel
theorem dX8_addCut_19 : decode cX8_addCut 19 = .ok (.aload_n 0, 1) := by decide +kernel
theorem dX8_addCut_20 : decode cX8_addCut 20 = .ok (.getfield 22, 3) := by decide +kernel
theorem dX8_addCut_23 : decode cX8_addCut 23 = .ok (.aload_n 0, 1) := by decide +kernel
theorem dX8_addCut_24 : decode cX8_addCut 24 = .ok (.getfield 25, 3) := by decide +kernel
theorem dX8_addCut_27 : decode cX8_addCut 27 = .ok (.iload_n 2, 1) := by decide +kernel
theorem dX8_addCut_28 : decode cX8_addCut 28 = .ok (.iastore, 1) := by decide +kernel
theorem dX8_addCut_29 : decode cX8_addCut 29 = .ok (.aload_n 0, 1) := by decide +kernel
theorem dX8_addCut_30 : decode cX8_addCut 30 = .ok (.dup, 1) := by decide +kernel
theorem dX8_addCut_31 : decode cX8_addCut 31 = .ok (.getfield 25, 3) := by decide +kernel
theorem dX8_addCut_34 : decode cX8_addCut 34 = .ok (.iconst 1, 1) := by decide +kernel
theorem dX8_addCut_35 : decode cX8_addCut 35 = .ok (.iadd, 1) := by decide +kernel
theorem dX8_addCut_36 : decode cX8_addCut 36 = .ok (.putfield 25, 3) := by decide +kernel
theorem dX8_addCut_39 : decode cX8_addCut 39 = .ok (.return_, 1) := by decide +kernel
theorem dX8_emitted_0 : decode cX8_emitted 0 = .ok (.iload_n 2, 1) := by decide +kernel
theorem dX8_emitted_1 : decode cX8_emitted 1 = .ok (.aload_n 0, 1) := by decide +kernel
theorem dX8_emitted_2 : decode cX8_emitted 2 = .ok (.getfield 28, 3) := by decide +kernel
theorem dX8_emitted_5 : decode cX8_emitted 5 = .ok (.if_icmp .lt 11, 3) := by decide +kernel
theorem dX8_emitted_8 : decode cX8_emitted 8 = .ok (.iload_n 2, 1) := by decide +kernel
theorem dX8_emitted_9 : decode cX8_emitted 9 = .ok (.aload_n 0, 1) := by decide +kernel
theorem dX8_emitted_10 : decode cX8_emitted 10 = .ok (.getfield 31, 3) := by decide +kernel
theorem dX8_emitted_13 : decode cX8_emitted 13 = .ok (.if_icmp .le 5, 3) := by decide +kernel
theorem dX8_emitted_16 : decode cX8_emitted 16 = .ok (.iconst 0, 1) := by decide +kernel
theorem dX8_emitted_17 : decode cX8_emitted 17 = .ok (.ireturn, 1) := by decide +kernel
theorem dX8_emitted_18 : decode cX8_emitted 18 = .ok (.iconst 0, 1) := by decide +kernel
theorem dX8_emitted_19 : decode cX8_emitted 19 = .ok (.istore_n 3, 1) := by decide +kernel
theorem dX8_emitted_20 : decode cX8_emitted 20 = .ok (.iload_n 3, 1) := by decide +kernel
theorem dX8_emitted_21 : decode cX8_emitted 21 = .ok (.aload_n 0, 1) := by decide +kernel
theorem dX8_emitted_22 : decode cX8_emitted 22 = .ok (.getfield 25, 3) := by decide +kernel
theorem dX8_emitted_25 : decode cX8_emitted 25 = .ok (.if_icmp .ge 31, 3) := by decide +kernel
theorem dX8_emitted_28 : decode cX8_emitted 28 = .ok (.iload_n 2, 1) := by decide +kernel
theorem dX8_emitted_29 : decode cX8_emitted 29 = .ok (.aload_n 0, 1) := by decide +kernel
theorem dX8_emitted_30 : decode cX8_emitted 30 = .ok (.getfield 18, 3) := by decide +kernel
theorem dX8_emitted_33 : decode cX8_emitted 33 = .ok (.iload_n 3, 1) := by decide +kernel
theorem dX8_emitted_34 : decode cX8_emitted 34 = .ok (.iaload, 1) := by decide +kernel
theorem dX8_emitted_35 : decode cX8_emitted 35 = .ok (.if_icmp .lt 15, 3) := by decide +kernel
theorem dX8_emitted_38 : decode cX8_emitted 38 = .ok (.iload_n 2, 1) := by decide +kernel
theorem dX8_emitted_39 : decode cX8_emitted 39 = .ok (.aload_n 0, 1) := by decide +kernel
theorem dX8_emitted_40 : decode cX8_emitted 40 = .ok (.getfield 22, 3) := by decide +kernel
theorem dX8_emitted_43 : decode cX8_emitted 43 = .ok (.iload_n 3, 1) := by decide +kernel
theorem dX8_emitted_44 : decode cX8_emitted 44 = .ok (.iaload, 1) := by decide +kernel
theorem dX8_emitted_45 : decode cX8_emitted 45 = .ok (.if_icmp .gt 5, 3) := by decide +kernel
theorem dX8_emitted_48 : decode cX8_emitted 48 = .ok (.iconst 0, 1) := by decide +kernel
theorem dX8_emitted_49 : decode cX8_emitted 49 = .ok (.ireturn, 1) := by decide +kernel
theorem dX8_emitted_50 : decode cX8_emitted 50 = .ok (.iinc 3 1, 3) := by decide +kernel
theorem dX8_emitted_53 : decode cX8_emitted 53 = .ok (.goto (-33), 3) := by decide +kernel
theorem dX8_emitted_56 : decode cX8_emitted 56 = .ok (.aload_n 0, 1) := by decide +kernel
theorem dX8_emitted_57 : decode cX8_emitted 57 = .ok (.getfield 34, 3) := by decide +kernel
theorem dX8_emitted_60 : decode cX8_emitted 60 = .ok (.ifCond .le 32, 3) := by decide +kernel
theorem dX8_emitted_63 : decode cX8_emitted 63 = .ok (.iload_n 2, 1) := by decide +kernel
theorem dX8_emitted_64 : decode cX8_emitted 64 = .ok (.aload_n 0, 1) := by decide +kernel
theorem dX8_emitted_65 : decode cX8_emitted 65 = .ok (.getfield 28, 3) := by decide +kernel
theorem dX8_emitted_68 : decode cX8_emitted 68 = .ok (.isub, 1) := by decide +kernel
theorem dX8_emitted_69 : decode cX8_emitted 69 = .ok (.aload_n 0, 1) := by decide +kernel
theorem dX8_emitted_70 : decode cX8_emitted 70 = .ok (.getfield 34, 3) := by decide +kernel
theorem dX8_emitted_73 : decode cX8_emitted 73 = .ok (.aload_n 0, 1) := by decide +kernel
theorem dX8_emitted_74 : decode cX8_emitted 74 = .ok (.getfield 37, 3) := by decide +kernel
theorem dX8_emitted_77 : decode cX8_emitted 77 = .ok (.iadd, 1) := by decide +kernel
theorem dX8_emitted_78 : decode cX8_emitted 78 = .ok (.irem, 1) := by decide +kernel
theorem dX8_emitted_79 : decode cX8_emitted 79 = .ok (.aload_n 0, 1) := by decide +kernel
theorem dX8_emitted_80 : decode cX8_emitted 80 = .ok (.getfield 34, 3) := by decide +kernel
theorem dX8_emitted_83 : decode cX8_emitted 83 = .ok (.if_icmp .ge 7, 3) := by decide +kernel
theorem dX8_emitted_86 : decode cX8_emitted 86 = .ok (.iload_n 1, 1) := by decide +kernel
theorem dX8_emitted_87 : decode cX8_emitted 87 = .ok (.goto 4, 3) := by decide +kernel
theorem dX8_emitted_90 : decode cX8_emitted 90 = .ok (.iconst 0, 1) := by decide +kernel
theorem dX8_emitted_91 : decode cX8_emitted 91 = .ok (.ireturn, 1) := by decide +kernel
theorem dX8_emitted_92 : decode cX8_emitted 92 = .ok (.aload_n 0, 1) := by decide +kernel
theorem dX8_emitted_93 : decode cX8_emitted 93 = .ok (.getfield 40, 3) := by decide +kernel
theorem dX8_emitted_96 : decode cX8_emitted 96 = .ok (.ifCond .le 26, 3) := by decide +kernel
theorem dX8_emitted_99 : decode cX8_emitted 99 = .ok (.iload_n 1, 1) := by decide +kernel
theorem dX8_emitted_100 : decode cX8_emitted 100 = .ok (.iload_n 2, 1) := by decide +kernel
theorem dX8_emitted_101 : decode cX8_emitted 101 = .ok (.aload_n 0, 1) := by decide +kernel
theorem dX8_emitted_102 : decode cX8_emitted 102 = .ok (.getfield 28, 3) := by decide +kernel
theorem dX8_emitted_105 : decode cX8_emitted 105 = .ok (.isub, 1) := by decide +kernel
theorem dX8_emitted_106 : decode cX8_emitted 106 = .ok (.iconst 1, 1) := by decide +kernel
theorem dX8_emitted_107 : decode cX8_emitted 107 = .ok (.iadd, 1) := by decide +kernel
theorem dX8_emitted_108 : decode cX8_emitted 108 = .ok (.aload_n 0, 1) := by decide +kernel
theorem dX8_emitted_109 : decode cX8_emitted 109 = .ok (.getfield 40, 3) := by decide +kernel
theorem dX8_emitted_112 : decode cX8_emitted 112 = .ok (.invokestatic 43, 3) := by decide +kernel
theorem dX8_emitted_115 : decode cX8_emitted 115 = .ok (.imul, 1) := by decide +kernel
theorem dX8_emitted_116 : decode cX8_emitted 116 = .ok (.aload_n 0, 1) := by decide +kernel
theorem dX8_emitted_117 : decode cX8_emitted 117 = .ok (.getfield 40, 3) := by decide +kernel
theorem dX8_emitted_120 : decode cX8_emitted 120 = .ok (.idiv, 1) := by decide +kernel
theorem dX8_emitted_121 : decode cX8_emitted 121 = .ok (.ireturn, 1) := by decide +kernel
theorem dX8_emitted_122 : decode cX8_emitted 122 = .ok (.iload_n 1, 1) := by decide +kernel
theorem dX8_emitted_123 : decode cX8_emitted 123 = .ok (.ireturn, 1) := by decide +kernel
theorem dX8_delayOf_0 : decode cX8_delayOf 0 = .ok (.iload_n 1, 1) := by decide +kernel
theorem dX8_delayOf_1 : decode cX8_delayOf 1 = .ok (.aload_n 0, 1) := by decide +kernel
theorem dX8_delayOf_2 : decode cX8_delayOf 2 = .ok (.getfield 15, 3) := by decide +kernel
theorem dX8_delayOf_5 : decode cX8_delayOf 5 = .ok (.imul, 1) := by decide +kernel
theorem dX8_delayOf_6 : decode cX8_delayOf 6 = .ok (.aload_n 0, 1) := by decide +kernel
theorem dX8_delayOf_7 : decode cX8_delayOf 7 = .ok (.getfield 9, 3) := by decide +kernel
theorem dX8_delayOf_10 : decode cX8_delayOf 10 = .ok (.idiv, 1) := by decide +kernel
theorem dX8_delayOf_11 : decode cX8_delayOf 11 = .ok (.ireturn, 1) := by decide +kernel
theorem dX8_angleOf_0 : decode cX8_angleOf 0 = .ok (.iload_n 1, 1) := by decide +kernel
theorem dX8_angleOf_1 : decode cX8_angleOf 1 = .ok (.sipush 360, 3) := by decide +kernel
theorem dX8_angleOf_4 : decode cX8_angleOf 4 = .ok (.iload_n 3, 1) := by decide +kernel
theorem dX8_angleOf_5 : decode cX8_angleOf 5 = .ok (.imul, 1) := by decide +kernel
theorem dX8_angleOf_6 : decode cX8_angleOf 6 = .ok (.aload_n 0, 1) := by decide +kernel
theorem dX8_angleOf_7 : decode cX8_angleOf 7 = .ok (.getfield 15, 3) := by decide +kernel
theorem dX8_angleOf_10 : decode cX8_angleOf 10 = .ok (.idiv, 1) := by decide +kernel
theorem dX8_angleOf_11 : decode cX8_angleOf 11 = .ok (.iadd, 1) := by decide +kernel
theorem dX8_angleOf_12 : decode cX8_angleOf 12 = .ok (.sipush 360, 3) := by decide +kernel
theorem dX8_angleOf_15 : decode cX8_angleOf 15 = .ok (.iload_n 2, 1) := by decide +kernel
theorem dX8_angleOf_16 : decode cX8_angleOf 16 = .ok (.imul, 1) := by decide +kernel
theorem dX8_angleOf_17 : decode cX8_angleOf 17 = .ok (.aload_n 0, 1) := by decide +kernel
theorem dX8_angleOf_18 : decode cX8_angleOf 18 = .ok (.getfield 9, 3) := by decide +kernel
theorem dX8_angleOf_21 : decode cX8_angleOf 21 = .ok (.idiv, 1) := by decide +kernel
theorem dX8_angleOf_22 : decode cX8_angleOf 22 = .ok (.isub, 1) := by decide +kernel
theorem dX8_angleOf_23 : decode cX8_angleOf 23 = .ok (.istore 4, 2) := by decide +kernel
theorem dX8_angleOf_25 : decode cX8_angleOf 25 = .ok (.iload 4, 2) := by decide +kernel
theorem dX8_angleOf_27 : decode cX8_angleOf 27 = .ok (.sipush 360, 3) := by decide +kernel
theorem dX8_angleOf_30 : decode cX8_angleOf 30 = .ok (.invokestatic 49, 3) := by decide +kernel
theorem dX8_angleOf_33 : decode cX8_angleOf 33 = .ok (.ireturn, 1) := by decide +kernel
theorem dX8_valueOf_0 : decode cX8_valueOf 0 = .ok (.aload_n 0, 1) := by decide +kernel
theorem dX8_valueOf_1 : decode cX8_valueOf 1 = .ok (.getfield 52, 3) := by decide +kernel
theorem dX8_valueOf_4 : decode cX8_valueOf 4 = .ok (.iconst 1, 1) := by decide +kernel
theorem dX8_valueOf_5 : decode cX8_valueOf 5 = .ok (.if_icmp .ne 20, 3) := by decide +kernel
theorem dX8_valueOf_8 : decode cX8_valueOf 8 = .ok (.iload_n 1, 1) := by decide +kernel
theorem dX8_valueOf_9 : decode cX8_valueOf 9 = .ok (.sipush 180, 3) := by decide +kernel
theorem dX8_valueOf_12 : decode cX8_valueOf 12 = .ok (.if_icmp .ge 9, 3) := by decide +kernel
theorem dX8_valueOf_15 : decode cX8_valueOf 15 = .ok (.sipush 1000, 3) := by decide +kernel
theorem dX8_valueOf_18 : decode cX8_valueOf 18 = .ok (.goto 6, 3) := by decide +kernel
theorem dX8_valueOf_21 : decode cX8_valueOf 21 = .ok (.sipush (-1000), 3) := by decide +kernel
theorem dX8_valueOf_24 : decode cX8_valueOf 24 = .ok (.ireturn, 1) := by decide +kernel
theorem dX8_valueOf_25 : decode cX8_valueOf 25 = .ok (.aload_n 0, 1) := by decide +kernel
theorem dX8_valueOf_26 : decode cX8_valueOf 26 = .ok (.getfield 52, 3) := by decide +kernel
theorem dX8_valueOf_29 : decode cX8_valueOf 29 = .ok (.iconst 2, 1) := by decide +kernel
theorem dX8_valueOf_30 : decode cX8_valueOf 30 = .ok (.if_icmp .ne 17, 3) := by decide +kernel
theorem dX8_valueOf_33 : decode cX8_valueOf 33 = .ok (.iload_n 1, 1) := by decide +kernel
theorem dX8_valueOf_34 : decode cX8_valueOf 34 = .ok (.sipush 1000, 3) := by decide +kernel
theorem dX8_valueOf_37 : decode cX8_valueOf 37 = .ok (.imul, 1) := by decide +kernel
theorem dX8_valueOf_38 : decode cX8_valueOf 38 = .ok (.sipush 180, 3) := by decide +kernel
theorem dX8_valueOf_41 : decode cX8_valueOf 41 = .ok (.idiv, 1) := by decide +kernel
theorem dX8_valueOf_42 : decode cX8_valueOf 42 = .ok (.sipush 1000, 3) := by decide +kernel
theorem dX8_valueOf_45 : decode cX8_valueOf 45 = .ok (.isub, 1) := by decide +kernel
theorem dX8_valueOf_46 : decode cX8_valueOf 46 = .ok (.ireturn, 1) := by decide +kernel
theorem dX8_valueOf_47 : decode cX8_valueOf 47 = .ok (.iload_n 1, 1) := by decide +kernel
theorem dX8_valueOf_48 : decode cX8_valueOf 48 = .ok (.invokestatic 55, 3) := by decide +kernel
theorem dX8_valueOf_51 : decode cX8_valueOf 51 = .ok (.ireturn, 1) := by decide +kernel
theorem dX8_brings_0 : decode cX8_brings 0 = .ok (.aload_n 0, 1) := by decide +kernel
theorem dX8_brings_1 : decode cX8_brings 1 = .ok (.iload_n 1, 1) := by decide +kernel
theorem dX8_brings_2 : decode cX8_brings 2 = .ok (.iload 4, 2) := by decide +kernel
theorem dX8_brings_4 : decode cX8_brings 4 = .ok (.aload_n 0, 1) := by decide +kernel
theorem dX8_brings_5 : decode cX8_brings 5 = .ok (.iload_n 3, 1) := by decide +kernel
theorem dX8_brings_6 : decode cX8_brings 6 = .ok (.invokevirtual 59, 3) := by decide +kernel
theorem dX8_brings_9 : decode cX8_brings 9 = .ok (.isub, 1) := by decide +kernel
theorem dX8_brings_10 : decode cX8_brings 10 = .ok (.invokevirtual 62, 3) := by decide +kernel
theorem dX8_brings_13 : decode cX8_brings 13 = .ok (.istore 6, 2) := by decide +kernel
theorem dX8_brings_15 : decode cX8_brings 15 = .ok (.iload 6, 2) := by decide +kernel
theorem dX8_brings_17 : decode cX8_brings 17 = .ok (.ifCond .ne 5, 3) := by decide +kernel
theorem dX8_brings_20 : decode cX8_brings 20 = .ok (.iconst 0, 1) := by decide +kernel
theorem dX8_brings_21 : decode cX8_brings 21 = .ok (.ireturn, 1) := by decide +kernel
theorem dX8_brings_22 : decode cX8_brings 22 = .ok (.iload 5, 2) := by decide +kernel
theorem dX8_brings_24 : decode cX8_brings 24 = .ok (.ifCond .le 15, 3) := by decide +kernel
theorem dX8_brings_27 : decode cX8_brings 27 = .ok (.iload 6, 2) := by decide +kernel
theorem dX8_brings_29 : decode cX8_brings 29 = .ok (.iload 5, 2) := by decide +kernel
theorem dX8_brings_31 : decode cX8_brings 31 = .ok (.imul, 1) := by decide +kernel
theorem dX8_brings_32 : decode cX8_brings 32 = .ok (.iload 5, 2) := by decide +kernel
theorem dX8_brings_34 : decode cX8_brings 34 = .ok (.iload_n 3, 1) := by decide +kernel
theorem dX8_brings_35 : decode cX8_brings 35 = .ok (.iadd, 1) := by decide +kernel
theorem dX8_brings_36 : decode cX8_brings 36 = .ok (.idiv, 1) := by decide +kernel
theorem dX8_brings_37 : decode cX8_brings 37 = .ok (.istore 6, 2) := by decide +kernel
theorem dX8_brings_39 : decode cX8_brings 39 = .ok (.iload 6, 2) := by decide +kernel
theorem dX8_brings_41 : decode cX8_brings 41 = .ok (.aload_n 0, 1) := by decide +kernel
theorem dX8_brings_42 : decode cX8_brings 42 = .ok (.aload_n 0, 1) := by decide +kernel
theorem dX8_brings_43 : decode cX8_brings 43 = .ok (.iload_n 2, 1) := by decide +kernel
theorem dX8_brings_44 : decode cX8_brings 44 = .ok (.iload_n 3, 1) := by decide +kernel
theorem dX8_brings_45 : decode cX8_brings 45 = .ok (.iload 4, 2) := by decide +kernel
theorem dX8_brings_47 : decode cX8_brings 47 = .ok (.invokevirtual 65, 3) := by decide +kernel
theorem dX8_brings_50 : decode cX8_brings 50 = .ok (.invokevirtual 69, 3) := by decide +kernel
theorem dX8_brings_53 : decode cX8_brings 53 = .ok (.imul, 1) := by decide +kernel
theorem dX8_brings_54 : decode cX8_brings 54 = .ok (.sipush 1000, 3) := by decide +kernel
theorem dX8_brings_57 : decode cX8_brings 57 = .ok (.idiv, 1) := by decide +kernel
theorem dX8_brings_58 : decode cX8_brings 58 = .ok (.ireturn, 1) := by decide +kernel
theorem dX8_sineOf_0 : decode cX8_sineOf 0 = .ok (.iload_n 0, 1) := by decide +kernel
theorem dX8_sineOf_1 : decode cX8_sineOf 1 = .ok (.sipush 180, 3) := by decide +kernel
theorem dX8_sineOf_4 : decode cX8_sineOf 4 = .ok (.if_icmp .ge 7, 3) := by decide +kernel
theorem dX8_sineOf_7 : decode cX8_sineOf 7 = .ok (.iload_n 0, 1) := by decide +kernel
theorem dX8_sineOf_8 : decode cX8_sineOf 8 = .ok (.goto 8, 3) := by decide +kernel
theorem dX8_sineOf_11 : decode cX8_sineOf 11 = .ok (.iload_n 0, 1) := by decide +kernel
theorem dX8_sineOf_12 : decode cX8_sineOf 12 = .ok (.sipush 180, 3) := by decide +kernel
theorem dX8_sineOf_15 : decode cX8_sineOf 15 = .ok (.isub, 1) := by decide +kernel
theorem dX8_sineOf_16 : decode cX8_sineOf 16 = .ok (.istore_n 1, 1) := by decide +kernel
theorem dX8_sineOf_17 : decode cX8_sineOf 17 = .ok (.iload_n 1, 1) := by decide +kernel
theorem dX8_sineOf_18 : decode cX8_sineOf 18 = .ok (.sipush 180, 3) := by decide +kernel
theorem dX8_sineOf_21 : decode cX8_sineOf 21 = .ok (.iload_n 1, 1) := by decide +kernel
theorem dX8_sineOf_22 : decode cX8_sineOf 22 = .ok (.isub, 1) := by decide +kernel
theorem dX8_sineOf_23 : decode cX8_sineOf 23 = .ok (.imul, 1) := by decide +kernel
theorem dX8_sineOf_24 : decode cX8_sineOf 24 = .ok (.istore_n 2, 1) := by decide +kernel
theorem dX8_sineOf_25 : decode cX8_sineOf 25 = .ok (.sipush 4000, 3) := by decide +kernel
theorem dX8_sineOf_28 : decode cX8_sineOf 28 = .ok (.iload_n 2, 1) := by decide +kernel
theorem dX8_sineOf_29 : decode cX8_sineOf 29 = .ok (.imul, 1) := by decide +kernel
theorem dX8_sineOf_30 : decode cX8_sineOf 30 = .ok (.ldc 72, 2) := by decide +kernel
theorem dX8_sineOf_32 : decode cX8_sineOf 32 = .ok (.iload_n 2, 1) := by decide +kernel
theorem dX8_sineOf_33 : decode cX8_sineOf 33 = .ok (.isub, 1) := by decide +kernel
theorem dX8_sineOf_34 : decode cX8_sineOf 34 = .ok (.idiv, 1) := by decide +kernel
theorem dX8_sineOf_35 : decode cX8_sineOf 35 = .ok (.istore_n 3, 1) := by decide +kernel
theorem dX8_sineOf_36 : decode cX8_sineOf 36 = .ok (.iload_n 0, 1) := by decide +kernel
theorem dX8_sineOf_37 : decode cX8_sineOf 37 = .ok (.sipush 180, 3) := by decide +kernel
theorem dX8_sineOf_40 : decode cX8_sineOf 40 = .ok (.if_icmp .ge 7, 3) := by decide +kernel
theorem dX8_sineOf_43 : decode cX8_sineOf 43 = .ok (.iload_n 3, 1) := by decide +kernel
theorem dX8_sineOf_44 : decode cX8_sineOf 44 = .ok (.goto 5, 3) := by decide +kernel
theorem dX8_sineOf_47 : decode cX8_sineOf 47 = .ok (.iload_n 3, 1) := by decide +kernel
theorem dX8_sineOf_48 : decode cX8_sineOf 48 = .ok (.ineg, 1) := by decide +kernel
theorem dX8_sineOf_49 : decode cX8_sineOf 49 = .ok (.ireturn, 1) := by decide +kernel
theorem dX9_init_0 : decode cX9_init 0 = .ok (.aload_n 0, 1) := by decide +kernel
theorem dX9_init_1 : decode cX9_init 1 = .ok (.invokespecial 1, 3) := by decide +kernel
theorem dX9_init_4 : decode cX9_init 4 = .ok (.aload_n 0, 1) := by decide +kernel
theorem dX9_init_5 : decode cX9_init 5 = .ok (.sipush 900, 3) := by decide +kernel
theorem dX9_init_8 : decode cX9_init 8 = .ok (.newarray .byte, 2) := by decide +kernel
theorem dX9_init_10 : decode cX9_init 10 = .ok (.putfield 9, 3) := by decide +kernel
theorem dX9_init_13 : decode cX9_init 13 = .ok (.aload_n 0, 1) := by decide +kernel
theorem dX9_init_14 : decode cX9_init 14 = .ok (.iconst (-1), 1) := by decide +kernel
theorem dX9_init_15 : decode cX9_init 15 = .ok (.putfield 13, 3) := by decide +kernel
theorem dX9_init_18 : decode cX9_init 18 = .ok (.aload_n 0, 1) := by decide +kernel
theorem dX9_init_19 : decode cX9_init 19 = .ok (.new 17, 3) := by decide +kernel
theorem dX9_init_22 : decode cX9_init 22 = .ok (.dup, 1) := by decide +kernel
theorem dX9_init_23 : decode cX9_init 23 = .ok (.invokespecial 19, 3) := by decide +kernel
theorem dX9_init_26 : decode cX9_init 26 = .ok (.putfield 20, 3) := by decide +kernel
theorem dX9_init_29 : decode cX9_init 29 = .ok (.aload_n 0, 1) := by decide +kernel
theorem dX9_init_30 : decode cX9_init 30 = .ok (.new 17, 3) := by decide +kernel
theorem dX9_init_33 : decode cX9_init 33 = .ok (.dup, 1) := by decide +kernel
theorem dX9_init_34 : decode cX9_init 34 = .ok (.invokespecial 19, 3) := by decide +kernel
theorem dX9_init_37 : decode cX9_init 37 = .ok (.putfield 24, 3) := by decide +kernel
theorem dX9_init_40 : decode cX9_init 40 = .ok (.aload_n 0, 1) := by decide +kernel
theorem dX9_init_41 : decode cX9_init 41 = .ok (.new 27, 3) := by decide +kernel
theorem dX9_init_44 : decode cX9_init 44 = .ok (.dup, 1) := by decide +kernel
theorem dX9_init_45 : decode cX9_init 45 = .ok (.invokespecial 29, 3) := by decide +kernel
theorem dX9_init_48 : decode cX9_init 48 = .ok (.putfield 30, 3) := by decide +kernel
theorem dX9_init_51 : decode cX9_init 51 = .ok (.aload_n 0, 1) := by decide +kernel
theorem dX9_init_52 : decode cX9_init 52 = .ok (.iconst 2, 1) := by decide +kernel
theorem dX9_init_53 : decode cX9_init 53 = .ok (.anewarray 17, 3) := by decide +kernel
theorem dX9_init_56 : decode cX9_init 56 = .ok (.putfield 34, 3) := by decide +kernel
theorem dX9_init_59 : decode cX9_init 59 = .ok (.aload_n 0, 1) := by decide +kernel
theorem dX9_init_60 : decode cX9_init 60 = .ok (.iconst 2, 1) := by decide +kernel
theorem dX9_init_61 : decode cX9_init 61 = .ok (.newarray .boolean, 2) := by decide +kernel
theorem dX9_init_63 : decode cX9_init 63 = .ok (.putfield 38, 3) := by decide +kernel
theorem dX9_init_66 : decode cX9_init 66 = .ok (.aload_n 0, 1) := by decide +kernel
theorem dX9_init_67 : decode cX9_init 67 = .ok (.new 42, 3) := by decide +kernel
theorem dX9_init_70 : decode cX9_init 70 = .ok (.dup, 1) := by decide +kernel
theorem dX9_init_71 : decode cX9_init 71 = .ok (.invokespecial 44, 3) := by decide +kernel
theorem dX9_init_74 : decode cX9_init 74 = .ok (.putfield 45, 3) := by decide +kernel
theorem dX9_init_77 : decode cX9_init 77 = .ok (.aload_n 0, 1) := by decide +kernel
theorem dX9_init_78 : decode cX9_init 78 = .ok (.new 49, 3) := by decide +kernel
theorem dX9_init_81 : decode cX9_init 81 = .ok (.dup, 1) := by decide +kernel
theorem dX9_init_82 : decode cX9_init 82 = .ok (.invokespecial 51, 3) := by decide +kernel
theorem dX9_init_85 : decode cX9_init 85 = .ok (.putfield 52, 3) := by decide +kernel
theorem dX9_init_88 : decode cX9_init 88 = .ok (.aload_n 0, 1) := by decide +kernel
theorem dX9_init_89 : decode cX9_init 89 = .ok (.sipush 160, 3) := by decide +kernel
theorem dX9_init_92 : decode cX9_init 92 = .ok (.newarray .long, 2) := by decide +kernel
theorem dX9_init_94 : decode cX9_init 94 = .ok (.putfield 56, 3) := by decide +kernel
theorem dX9_init_97 : decode cX9_init 97 = .ok (.aload_n 0, 1) := by decide +kernel
theorem dX9_init_98 : decode cX9_init 98 = .ok (.bipush 60, 2) := by decide +kernel
theorem dX9_init_100 : decode cX9_init 100 = .ok (.newarray .int, 2) := by decide +kernel
theorem dX9_init_102 : decode cX9_init 102 = .ok (.putfield 60, 3) := by decide +kernel
theorem dX9_init_105 : decode cX9_init 105 = .ok (.new 64, 3) := by decide +kernel
theorem dX9_init_108 : decode cX9_init 108 = .ok (.dup, 1) := by decide +kernel
theorem dX9_init_109 : decode cX9_init 109 = .ok (.invokespecial 66, 3) := by decide +kernel
theorem dX9_init_112 : decode cX9_init 112 = .ok (.astore_n 1, 1) := by decide +kernel
theorem dX9_init_113 : decode cX9_init 113 = .ok (.aload_n 0, 1) := by decide +kernel
theorem dX9_init_114 : decode cX9_init 114 = .ok (.new 67, 3) := by decide +kernel
theorem dX9_init_117 : decode cX9_init 117 = .ok (.dup, 1) := by decide +kernel
theorem dX9_init_118 : decode cX9_init 118 = .ok (.aload_n 1, 1) := by decide +kernel
theorem dX9_init_119 : decode cX9_init 119 = .ok (.invokespecial 69, 3) := by decide +kernel
theorem dX9_init_122 : decode cX9_init 122 = .ok (.putfield 72, 3) := by decide +kernel
theorem dX9_init_125 : decode cX9_init 125 = .ok (.aload_n 0, 1) := by decide +kernel
theorem dX9_init_126 : decode cX9_init 126 = .ok (.new 67, 3) := by decide +kernel
theorem dX9_init_129 : decode cX9_init 129 = .ok (.dup, 1) := by decide +kernel
theorem dX9_init_130 : decode cX9_init 130 = .ok (.aload_n 1, 1) := by decide +kernel
theorem dX9_init_131 : decode cX9_init 131 = .ok (.invokespecial 69, 3) := by decide +kernel
theorem dX9_init_134 : decode cX9_init 134 = .ok (.putfield 76, 3) := by decide +kernel
theorem dX9_init_137 : decode cX9_init 137 = .ok (.iconst 0, 1) := by decide +kernel
theorem dX9_init_138 : decode cX9_init 138 = .ok (.istore_n 2, 1) := by decide +kernel
theorem dX9_init_139 : decode cX9_init 139 = .ok (.iload_n 2, 1) := by decide +kernel
theorem dX9_init_140 : decode cX9_init 140 = .ok (.iconst 2, 1) := by decide +kernel
theorem dX9_init_141 : decode cX9_init 141 = .ok (.if_icmp .ge 22, 3) := by decide +kernel
theorem dX9_init_144 : decode cX9_init 144 = .ok (.aload_n 0, 1) := by decide +kernel
theorem dX9_init_145 : decode cX9_init 145 = .ok (.getfield 34, 3) := by decide +kernel
theorem dX9_init_148 : decode cX9_init 148 = .ok (.iload_n 2, 1) := by decide +kernel
theorem dX9_init_149 : decode cX9_init 149 = .ok (.new 17, 3) := by decide +kernel
theorem dX9_init_152 : decode cX9_init 152 = .ok (.dup, 1) := by decide +kernel
theorem dX9_init_153 : decode cX9_init 153 = .ok (.invokespecial 19, 3) := by decide +kernel
theorem dX9_init_156 : decode cX9_init 156 = .ok (.aastore, 1) := by decide +kernel
theorem dX9_init_157 : decode cX9_init 157 = .ok (.iinc 2 1, 3) := by decide +kernel
theorem dX9_init_160 : decode cX9_init 160 = .ok (.goto (-21), 3) := by decide +kernel
theorem dX9_init_163 : decode cX9_init 163 = .ok (.return_, 1) := by decide +kernel
theorem dX9_append_0 : decode cX9_append 0 = .ok (.aload_n 0, 1) := by decide +kernel
theorem dX9_append_1 : decode cX9_append 1 = .ok (.getfield 79, 3) := by decide +kernel
theorem dX9_append_4 : decode cX9_append 4 = .ok (.sipush 880, 3) := by decide +kernel
theorem dX9_append_7 : decode cX9_append 7 = .ok (.if_icmp .le 5, 3) := by decide +kernel
theorem dX9_append_10 : decode cX9_append 10 = .ok (.iconst (-1), 1) := by decide +kernel
theorem dX9_append_11 : decode cX9_append 11 = .ok (.ireturn, 1) := by decide +kernel
theorem dX9_append_12 : decode cX9_append 12 = .ok (.aload_n 0, 1) := by decide +kernel
theorem dX9_append_13 : decode cX9_append 13 = .ok (.iload_n 1, 1) := by decide +kernel
theorem dX9_append_14 : decode cX9_append 14 = .ok (.invokevirtual 82, 3) := by decide +kernel
theorem dX9_append_17 : decode cX9_append 17 = .ok (.aload_n 0, 1) := by decide +kernel
theorem dX9_append_18 : decode cX9_append 18 = .ok (.iload_n 2, 1) := by decide +kernel
theorem dX9_append_19 : decode cX9_append 19 = .ok (.invokevirtual 82, 3) := by decide +kernel
theorem dX9_append_22 : decode cX9_append 22 = .ok (.aload_n 0, 1) := by decide +kernel
theorem dX9_append_23 : decode cX9_append 23 = .ok (.iload_n 3, 1) := by decide +kernel
theorem dX9_append_24 : decode cX9_append 24 = .ok (.invokevirtual 82, 3) := by decide +kernel
theorem dX9_append_27 : decode cX9_append 27 = .ok (.aload_n 0, 1) := by decide +kernel
theorem dX9_append_28 : decode cX9_append 28 = .ok (.iload 4, 2) := by decide +kernel
theorem dX9_append_30 : decode cX9_append 30 = .ok (.invokevirtual 82, 3) := by decide +kernel
theorem dX9_append_33 : decode cX9_append 33 = .ok (.aload_n 0, 1) := by decide +kernel
theorem dX9_append_34 : decode cX9_append 34 = .ok (.iload 5, 2) := by decide +kernel
theorem dX9_append_36 : decode cX9_append 36 = .ok (.invokevirtual 82, 3) := by decide +kernel
theorem dX9_append_39 : decode cX9_append 39 = .ok (.aload_n 0, 1) := by decide +kernel
theorem dX9_append_40 : decode cX9_append 40 = .ok (.getfield 79, 3) := by decide +kernel
theorem dX9_append_43 : decode cX9_append 43 = .ok (.ireturn, 1) := by decide +kernel
theorem dX9_load_0 : decode cX9_load 0 = .ok (.iload_n 1, 1) := by decide +kernel
theorem dX9_load_1 : decode cX9_load 1 = .ok (.ifCond .lt 11, 3) := by decide +kernel
theorem dX9_load_4 : decode cX9_load 4 = .ok (.iload_n 1, 1) := by decide +kernel
theorem dX9_load_5 : decode cX9_load 5 = .ok (.aload_n 0, 1) := by decide +kernel
theorem dX9_load_6 : decode cX9_load 6 = .ok (.getfield 79, 3) := by decide +kernel
theorem dX9_load_9 : decode cX9_load 9 = .ok (.if_icmp .le 13, 3) := by decide +kernel
theorem dX9_load_12 : decode cX9_load 12 = .ok (.new 86, 3) := by decide +kernel
theorem dX9_load_15 : decode cX9_load 15 = .ok (.dup, 1) := by decide +kernel
theorem dX9_load_16 : decode cX9_load 16 = .ok (.ldc 88, 2) := by decide +kernel
theorem dX9_load_18 : decode cX9_load 18 = .ok (.invokespecial 90, 3) := by decide +kernel
theorem dX9_load_21 : decode cX9_load 21 = .ok (.athrow, 1) := by decide +kernel
theorem dX9_load_22 : decode cX9_load 22 = .ok (.aload_n 0, 1) := by decide +kernel
theorem dX9_load_23 : decode cX9_load 23 = .ok (.iconst 0, 1) := by decide +kernel
theorem dX9_load_24 : decode cX9_load 24 = .ok (.putfield 79, 3) := by decide +kernel
theorem dX9_load_27 : decode cX9_load 27 = .ok (.new 93, 3) := by decide +kernel
theorem dX9_load_30 : decode cX9_load 30 = .ok (.dup, 1) := by decide +kernel
theorem dX9_load_31 : decode cX9_load 31 = .ok (.aload_n 0, 1) := by decide +kernel
theorem dX9_load_32 : decode cX9_load 32 = .ok (.getfield 9, 3) := by decide +kernel
theorem dX9_load_35 : decode cX9_load 35 = .ok (.iload_n 1, 1) := by decide +kernel
theorem dX9_load_36 : decode cX9_load 36 = .ok (.aload_n 0, 1) := by decide +kernel
theorem dX9_load_37 : decode cX9_load 37 = .ok (.getfield 76, 3) := by decide +kernel
theorem dX9_load_40 : decode cX9_load 40 = .ok (.aload_n 0, 1) := by decide +kernel
theorem dX9_load_41 : decode cX9_load 41 = .ok (.getfield 24, 3) := by decide +kernel
theorem dX9_load_44 : decode cX9_load 44 = .ok (.invokespecial 95, 3) := by decide +kernel
theorem dX9_load_47 : decode cX9_load 47 = .ok (.astore_n 2, 1) := by decide +kernel
theorem dX9_load_48 : decode cX9_load 48 = .ok (.aload_n 2, 1) := by decide +kernel
theorem dX9_load_49 : decode cX9_load 49 = .ok (.invokevirtual 98, 3) := by decide +kernel
theorem dX9_load_52 : decode cX9_load 52 = .ok (.aload_n 0, 1) := by decide +kernel
theorem dX9_load_53 : decode cX9_load 53 = .ok (.aload_n 2, 1) := by decide +kernel
theorem dX9_load_54 : decode cX9_load 54 = .ok (.getfield 101, 3) := by decide +kernel
theorem dX9_load_57 : decode cX9_load 57 = .ok (.putfield 104, 3) := by decide +kernel
theorem dX9_load_60 : decode cX9_load 60 = .ok (.aload_n 0, 1) := by decide +kernel
theorem dX9_load_61 : decode cX9_load 61 = .ok (.aload_n 2, 1) := by decide +kernel
theorem dX9_load_62 : decode cX9_load 62 = .ok (.getfield 105, 3) := by decide +kernel
theorem dX9_load_65 : decode cX9_load 65 = .ok (.putfield 13, 3) := by decide +kernel
theorem dX9_load_68 : decode cX9_load 68 = .ok (.aload_n 0, 1) := by decide +kernel
theorem dX9_load_69 : decode cX9_load 69 = .ok (.getfield 104, 3) := by decide +kernel
theorem dX9_load_72 : decode cX9_load 72 = .ok (.ifCond .eq 13, 3) := by decide +kernel
theorem dX9_load_75 : decode cX9_load 75 = .ok (.new 106, 3) := by decide +kernel
theorem dX9_load_78 : decode cX9_load 78 = .ok (.dup, 1) := by decide +kernel
theorem dX9_load_79 : decode cX9_load 79 = .ok (.ldc 108, 2) := by decide +kernel
theorem dX9_load_81 : decode cX9_load 81 = .ok (.invokespecial 110, 3) := by decide +kernel
theorem dX9_load_84 : decode cX9_load 84 = .ok (.athrow, 1) := by decide +kernel
theorem dX9_load_85 : decode cX9_load 85 = .ok (.aload_n 0, 1) := by decide +kernel
theorem dX9_load_86 : decode cX9_load 86 = .ok (.getfield 72, 3) := by decide +kernel
theorem dX9_load_89 : decode cX9_load 89 = .ok (.astore_n 3, 1) := by decide +kernel
theorem dX9_load_90 : decode cX9_load 90 = .ok (.aload_n 0, 1) := by decide +kernel
theorem dX9_load_91 : decode cX9_load 91 = .ok (.aload_n 0, 1) := by decide +kernel
theorem dX9_load_92 : decode cX9_load 92 = .ok (.getfield 76, 3) := by decide +kernel
theorem dX9_load_95 : decode cX9_load 95 = .ok (.putfield 72, 3) := by decide +kernel
theorem dX9_load_98 : decode cX9_load 98 = .ok (.aload_n 0, 1) := by decide +kernel
theorem dX9_load_99 : decode cX9_load 99 = .ok (.aload_n 3, 1) := by decide +kernel
theorem dX9_load_100 : decode cX9_load 100 = .ok (.putfield 76, 3) := by decide +kernel
theorem dX9_load_103 : decode cX9_load 103 = .ok (.aload_n 0, 1) := by decide +kernel
theorem dX9_load_104 : decode cX9_load 104 = .ok (.getfield 20, 3) := by decide +kernel
theorem dX9_load_107 : decode cX9_load 107 = .ok (.aload_n 0, 1) := by decide +kernel
theorem dX9_load_108 : decode cX9_load 108 = .ok (.getfield 24, 3) := by decide +kernel
theorem dX9_load_111 : decode cX9_load 111 = .ok (.invokevirtual 111, 3) := by decide +kernel
theorem dX9_load_114 : decode cX9_load 114 = .ok (.aload_n 0, 1) := by decide +kernel
theorem dX9_load_115 : decode cX9_load 115 = .ok (.getfield 30, 3) := by decide +kernel
theorem dX9_load_118 : decode cX9_load 118 = .ok (.invokevirtual 115, 3) := by decide +kernel
theorem dX9_load_121 : decode cX9_load 121 = .ok (.iconst 0, 1) := by decide +kernel
theorem dX9_load_122 : decode cX9_load 122 = .ok (.istore 4, 2) := by decide +kernel
theorem dX9_load_124 : decode cX9_load 124 = .ok (.iload 4, 2) := by decide +kernel
theorem dX9_load_126 : decode cX9_load 126 = .ok (.iconst 2, 1) := by decide +kernel
theorem dX9_load_127 : decode cX9_load 127 = .ok (.if_icmp .ge 17, 3) := by decide +kernel
theorem dX9_load_130 : decode cX9_load 130 = .ok (.aload_n 0, 1) := by decide +kernel
theorem dX9_load_131 : decode cX9_load 131 = .ok (.getfield 38, 3) := by decide +kernel
theorem dX9_load_134 : decode cX9_load 134 = .ok (.iload 4, 2) := by decide +kernel
theorem dX9_load_136 : decode cX9_load 136 = .ok (.iconst 0, 1) := by decide +kernel
theorem dX9_load_137 : decode cX9_load 137 = .ok (.bastore, 1) := by decide +kernel
theorem dX9_load_138 : decode cX9_load 138 = .ok (.iinc 4 1, 3) := by decide +kernel
theorem dX9_load_141 : decode cX9_load 141 = .ok (.goto (-17), 3) := by decide +kernel
theorem dX9_load_144 : decode cX9_load 144 = .ok (.aload_n 0, 1) := by decide +kernel
theorem dX9_load_145 : decode cX9_load 145 = .ok (.iconst 1, 1) := by decide +kernel
theorem dX9_load_146 : decode cX9_load 146 = .ok (.putfield 118, 3) := by decide +kernel
theorem dX9_load_149 : decode cX9_load 149 = .ok (.aload_n 0, 1) := by decide +kernel
theorem dX9_load_150 : decode cX9_load 150 = .ok (.getfield 72, 3) := by decide +kernel
theorem dX9_load_153 : decode cX9_load 153 = .ok (.getfield 122, 3) := by decide +kernel
theorem dX9_load_156 : decode cX9_load 156 = .ok (.ireturn, 1) := by decide +kernel
theorem dX9_parseError_0 : decode cX9_parseError 0 = .ok (.aload_n 0, 1) := by decide +kernel
theorem dX9_parseError_1 : decode cX9_parseError 1 = .ok (.getfield 104, 3) := by decide +kernel
theorem dX9_parseError_4 : decode cX9_parseError 4 = .ok (.ireturn, 1) := by decide +kernel
theorem dX9_errorPosition_0 : decode cX9_errorPosition 0 = .ok (.aload_n 0, 1) := by decide +kernel
theorem dX9_errorPosition_1 : decode cX9_errorPosition 1 = .ok (.getfield 13, 3) := by decide +kernel
theorem dX9_errorPosition_4 : decode cX9_errorPosition 4 = .ok (.ireturn, 1) := by decide +kernel
theorem dX9_buffered_0 : decode cX9_buffered 0 = .ok (.aload_n 0, 1) := by decide +kernel
theorem dX9_buffered_1 : decode cX9_buffered 1 = .ok (.getfield 79, 3) := by decide +kernel
theorem dX9_buffered_4 : decode cX9_buffered 4 = .ok (.ireturn, 1) := by decide +kernel
theorem dX9_time_0 : decode cX9_time 0 = .ok (.aload_n 0, 1) := by decide +kernel
theorem dX9_time_1 : decode cX9_time 1 = .ok (.getfield 118, 3) := by decide +kernel
theorem dX9_time_4 : decode cX9_time 4 = .ok (.ifCond .eq 13, 3) := by decide +kernel
theorem dX9_time_7 : decode cX9_time 7 = .ok (.aload_n 0, 1) := by decide +kernel
theorem dX9_time_8 : decode cX9_time 8 = .ok (.getfield 20, 3) := by decide +kernel
theorem dX9_time_11 : decode cX9_time 11 = .ok (.getfield 125, 3) := by decide +kernel
theorem dX9_time_14 : decode cX9_time 14 = .ok (.goto 4, 3) := by decide +kernel
theorem dX9_time_17 : decode cX9_time 17 = .ok (.iconst 0, 1) := by decide +kernel
theorem dX9_time_18 : decode cX9_time 18 = .ok (.ireturn, 1) := by decide +kernel
theorem dX9_width_0 : decode cX9_width 0 = .ok (.aload_n 0, 1) := by decide +kernel
theorem dX9_width_1 : decode cX9_width 1 = .ok (.getfield 118, 3) := by decide +kernel
theorem dX9_width_4 : decode cX9_width 4 = .ok (.ifCond .eq 13, 3) := by decide +kernel
theorem dX9_width_7 : decode cX9_width 7 = .ok (.aload_n 0, 1) := by decide +kernel
theorem dX9_width_8 : decode cX9_width 8 = .ok (.getfield 72, 3) := by decide +kernel
theorem dX9_width_11 : decode cX9_width 11 = .ok (.getfield 128, 3) := by decide +kernel
theorem dX9_width_14 : decode cX9_width 14 = .ok (.goto 4, 3) := by decide +kernel
theorem dX9_width_17 : decode cX9_width 17 = .ok (.iconst 0, 1) := by decide +kernel
theorem dX9_width_18 : decode cX9_width 18 = .ok (.ireturn, 1) := by decide +kernel
theorem dX9_height_0 : decode cX9_height 0 = .ok (.aload_n 0, 1) := by decide +kernel
theorem dX9_height_1 : decode cX9_height 1 = .ok (.getfield 118, 3) := by decide +kernel
theorem dX9_height_4 : decode cX9_height 4 = .ok (.ifCond .eq 13, 3) := by decide +kernel
theorem dX9_height_7 : decode cX9_height 7 = .ok (.aload_n 0, 1) := by decide +kernel
theorem dX9_height_8 : decode cX9_height 8 = .ok (.getfield 72, 3) := by decide +kernel
theorem dX9_height_11 : decode cX9_height 11 = .ok (.getfield 131, 3) := by decide +kernel
theorem dX9_height_14 : decode cX9_height 14 = .ok (.goto 4, 3) := by decide +kernel
theorem dX9_height_17 : decode cX9_height 17 = .ok (.iconst 0, 1) := by decide +kernel
theorem dX9_height_18 : decode cX9_height 18 = .ok (.ireturn, 1) := by decide +kernel
theorem dX9_wall_0 : decode cX9_wall 0 = .ok (.aload_n 0, 1) := by decide +kernel
theorem dX9_wall_1 : decode cX9_wall 1 = .ok (.invokevirtual 134, 3) := by decide +kernel
theorem dX9_wall_4 : decode cX9_wall 4 = .ok (.aload_n 0, 1) := by decide +kernel
theorem dX9_wall_5 : decode cX9_wall 5 = .ok (.getfield 72, 3) := by decide +kernel
theorem dX9_wall_8 : decode cX9_wall 8 = .ok (.getfield 137, 3) := by decide +kernel
theorem dX9_wall_11 : decode cX9_wall 11 = .ok (.ireturn, 1) := by decide +kernel
theorem dX9_openRows_0 : decode cX9_openRows 0 = .ok (.aload_n 0, 1) := by decide +kernel
theorem dX9_openRows_1 : decode cX9_openRows 1 = .ok (.invokevirtual 134, 3) := by decide +kernel
theorem dX9_openRows_4 : decode cX9_openRows 4 = .ok (.aload_n 0, 1) := by decide +kernel
theorem dX9_openRows_5 : decode cX9_openRows 5 = .ok (.getfield 20, 3) := by decide +kernel
theorem dX9_openRows_8 : decode cX9_openRows 8 = .ok (.getfield 140, 3) := by decide +kernel
theorem dX9_openRows_11 : decode cX9_openRows 11 = .ok (.ireturn, 1) := by decide +kernel
theorem dX9_isOpen_0 : decode cX9_isOpen 0 = .ok (.aload_n 0, 1) := by decide +kernel
theorem dX9_isOpen_1 : decode cX9_isOpen 1 = .ok (.invokevirtual 134, 3) := by decide +kernel
theorem dX9_isOpen_4 : decode cX9_isOpen 4 = .ok (.aload_n 0, 1) := by decide +kernel
theorem dX9_isOpen_5 : decode cX9_isOpen 5 = .ok (.iload_n 1, 1) := by decide +kernel
theorem dX9_isOpen_6 : decode cX9_isOpen 6 = .ok (.invokevirtual 143, 3) := by decide +kernel
theorem dX9_isOpen_9 : decode cX9_isOpen 9 = .ok (.aload_n 0, 1) := by decide +kernel
theorem dX9_isOpen_10 : decode cX9_isOpen 10 = .ok (.getfield 20, 3) := by decide +kernel
theorem dX9_isOpen_13 : decode cX9_isOpen 13 = .ok (.iload_n 1, 1) := by decide +kernel
theorem dX9_isOpen_14 : decode cX9_isOpen 14 = .ok (.invokevirtual 146, 3) := by decide +kernel
theorem dX9_isOpen_17 : decode cX9_isOpen 17 = .ok (.ireturn, 1) := by decide +kernel
theorem dX9_sources_0 : decode cX9_sources 0 = .ok (.aload_n 0, 1) := by decide +kernel
theorem dX9_sources_1 : decode cX9_sources 1 = .ok (.getfield 118, 3) := by decide +kernel
theorem dX9_sources_4 : decode cX9_sources 4 = .ok (.ifCond .eq 13, 3) := by decide +kernel
theorem dX9_sources_7 : decode cX9_sources 7 = .ok (.aload_n 0, 1) := by decide +kernel
theorem dX9_sources_8 : decode cX9_sources 8 = .ok (.getfield 72, 3) := by decide +kernel
theorem dX9_sources_11 : decode cX9_sources 11 = .ok (.getfield 122, 3) := by decide +kernel
theorem dX9_sources_14 : decode cX9_sources 14 = .ok (.goto 4, 3) := by decide +kernel
theorem dX9_sources_17 : decode cX9_sources 17 = .ok (.iconst 0, 1) := by decide +kernel
theorem dX9_sources_18 : decode cX9_sources 18 = .ok (.ireturn, 1) := by decide +kernel
theorem dX9_sourceAt_0 : decode cX9_sourceAt 0 = .ok (.aload_n 0, 1) := by decide +kernel
theorem dX9_sourceAt_1 : decode cX9_sourceAt 1 = .ok (.invokevirtual 134, 3) := by decide +kernel
theorem dX9_sourceAt_4 : decode cX9_sourceAt 4 = .ok (.aload_n 0, 1) := by decide +kernel
theorem dX9_sourceAt_5 : decode cX9_sourceAt 5 = .ok (.iload_n 1, 1) := by decide +kernel
theorem dX9_sourceAt_6 : decode cX9_sourceAt 6 = .ok (.invokevirtual 150, 3) := by decide +kernel
