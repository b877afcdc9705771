theorem dX10_readOnce_6 : decode cX10_readOnce 6 = .ok (.iconst 4, 1) := by decide +kernel
theorem dX10_readOnce_7 : decode cX10_readOnce 7 = .ok (.iaload, 1) := by decide +kernel
theorem dX10_readOnce_8 : decode cX10_readOnce 8 = .ok (.iconst 1, 1) := by decide +kernel
theorem dX10_readOnce_9 : decode cX10_readOnce 9 = .ok (.isub, 1) := by decide +kernel
theorem dX10_readOnce_10 : decode cX10_readOnce 10 = .ok (.invokevirtual 127, 3) := by decide +kernel
theorem dX10_readOnce_13 : decode cX10_readOnce 13 = .ok (.istore_n 2, 1) := by decide +kernel
theorem dX10_readOnce_14 : decode cX10_readOnce 14 = .ok (.aload_n 0, 1) := by decide +kernel
theorem dX10_readOnce_15 : decode cX10_readOnce 15 = .ok (.getfield 74, 3) := by decide +kernel
theorem dX10_readOnce_18 : decode cX10_readOnce 18 = .ok (.ifCond .ne 17, 3) := by decide +kernel
theorem dX10_readOnce_21 : decode cX10_readOnce 21 = .ok (.iload_n 1, 1) := by decide +kernel
theorem dX10_readOnce_22 : decode cX10_readOnce 22 = .ok (.iload_n 2, 1) := by decide +kernel
theorem dX10_readOnce_23 : decode cX10_readOnce 23 = .ok (.ishr, 1) := by decide +kernel
theorem dX10_readOnce_24 : decode cX10_readOnce 24 = .ok (.iconst 1, 1) := by decide +kernel
theorem dX10_readOnce_25 : decode cX10_readOnce 25 = .ok (.iand, 1) := by decide +kernel
theorem dX10_readOnce_26 : decode cX10_readOnce 26 = .ok (.iconst 1, 1) := by decide +kernel
theorem dX10_readOnce_27 : decode cX10_readOnce 27 = .ok (.if_icmp .ne 8, 3) := by decide +kernel
theorem dX10_readOnce_30 : decode cX10_readOnce 30 = .ok (.aload_n 0, 1) := by decide +kernel
theorem dX10_readOnce_31 : decode cX10_readOnce 31 = .ok (.iconst 3, 1) := by decide +kernel
theorem dX10_readOnce_32 : decode cX10_readOnce 32 = .ok (.invokevirtual 124, 3) := by decide +kernel
theorem dX10_readOnce_35 : decode cX10_readOnce 35 = .ok (.aload_n 0, 1) := by decide +kernel
theorem dX10_readOnce_36 : decode cX10_readOnce 36 = .ok (.invokevirtual 118, 3) := by decide +kernel
theorem dX10_readOnce_39 : decode cX10_readOnce 39 = .ok (.iload_n 2, 1) := by decide +kernel
theorem dX10_readOnce_40 : decode cX10_readOnce 40 = .ok (.ireturn, 1) := by decide +kernel
theorem dX10_readDrift_0 : decode cX10_readDrift 0 = .ok (.aload_n 0, 1) := by decide +kernel
theorem dX10_readDrift_1 : decode cX10_readDrift 1 = .ok (.invokevirtual 118, 3) := by decide +kernel
theorem dX10_readDrift_4 : decode cX10_readDrift 4 = .ok (.aload_n 0, 1) := by decide +kernel
theorem dX10_readDrift_5 : decode cX10_readDrift 5 = .ok (.aload_n 0, 1) := by decide +kernel
theorem dX10_readDrift_6 : decode cX10_readDrift 6 = .ok (.getfield 162, 3) := by decide +kernel
theorem dX10_readDrift_9 : decode cX10_readDrift 9 = .ok (.invokevirtual 165, 3) := by decide +kernel
theorem dX10_readDrift_12 : decode cX10_readDrift 12 = .ok (.istore_n 1, 1) := by decide +kernel
theorem dX10_readDrift_13 : decode cX10_readDrift 13 = .ok (.aload_n 0, 1) := by decide +kernel
theorem dX10_readDrift_14 : decode cX10_readDrift 14 = .ok (.bipush (-99), 2) := by decide +kernel
theorem dX10_readDrift_16 : decode cX10_readDrift 16 = .ok (.bipush 99, 2) := by decide +kernel
theorem dX10_readDrift_18 : decode cX10_readDrift 18 = .ok (.invokevirtual 168, 3) := by decide +kernel
theorem dX10_readDrift_21 : decode cX10_readDrift 21 = .ok (.istore_n 2, 1) := by decide +kernel
theorem dX10_readDrift_22 : decode cX10_readDrift 22 = .ok (.aload_n 0, 1) := by decide +kernel
theorem dX10_readDrift_23 : decode cX10_readDrift 23 = .ok (.bipush (-99), 2) := by decide +kernel
theorem dX10_readDrift_25 : decode cX10_readDrift 25 = .ok (.bipush 99, 2) := by decide +kernel
theorem dX10_readDrift_27 : decode cX10_readDrift 27 = .ok (.invokevirtual 168, 3) := by decide +kernel
theorem dX10_readDrift_30 : decode cX10_readDrift 30 = .ok (.istore_n 3, 1) := by decide +kernel
theorem dX10_readDrift_31 : decode cX10_readDrift 31 = .ok (.aload_n 0, 1) := by decide +kernel
theorem dX10_readDrift_32 : decode cX10_readDrift 32 = .ok (.getfield 74, 3) := by decide +kernel
theorem dX10_readDrift_35 : decode cX10_readDrift 35 = .ok (.ifCond .le 4, 3) := by decide +kernel
theorem dX10_readDrift_38 : decode cX10_readDrift 38 = .ok (.return_, 1) := by decide +kernel
theorem dX10_readDrift_39 : decode cX10_readDrift 39 = .ok (.aload_n 0, 1) := by decide +kernel
theorem dX10_readDrift_40 : decode cX10_readDrift 40 = .ok (.dup, 1) := by decide +kernel
theorem dX10_readDrift_41 : decode cX10_readDrift 41 = .ok (.getfield 162, 3) := by decide +kernel
theorem dX10_readDrift_44 : decode cX10_readDrift 44 = .ok (.iconst 1, 1) := by decide +kernel
theorem dX10_readDrift_45 : decode cX10_readDrift 45 = .ok (.iload_n 1, 1) := by decide +kernel
theorem dX10_readDrift_46 : decode cX10_readDrift 46 = .ok (.ishl, 1) := by decide +kernel
theorem dX10_readDrift_47 : decode cX10_readDrift 47 = .ok (.ior, 1) := by decide +kernel
theorem dX10_readDrift_48 : decode cX10_readDrift 48 = .ok (.putfield 162, 3) := by decide +kernel
theorem dX10_readDrift_51 : decode cX10_readDrift 51 = .ok (.aload_n 0, 1) := by decide +kernel
theorem dX10_readDrift_52 : decode cX10_readDrift 52 = .ok (.getfield 26, 3) := by decide +kernel
theorem dX10_readDrift_55 : decode cX10_readDrift 55 = .ok (.bipush 22, 2) := by decide +kernel
theorem dX10_readDrift_57 : decode cX10_readDrift 57 = .ok (.iload_n 1, 1) := by decide +kernel
theorem dX10_readDrift_58 : decode cX10_readDrift 58 = .ok (.iadd, 1) := by decide +kernel
theorem dX10_readDrift_59 : decode cX10_readDrift 59 = .ok (.iload_n 2, 1) := by decide +kernel
theorem dX10_readDrift_60 : decode cX10_readDrift 60 = .ok (.iastore, 1) := by decide +kernel
theorem dX10_readDrift_61 : decode cX10_readDrift 61 = .ok (.aload_n 0, 1) := by decide +kernel
theorem dX10_readDrift_62 : decode cX10_readDrift 62 = .ok (.getfield 26, 3) := by decide +kernel
theorem dX10_readDrift_65 : decode cX10_readDrift 65 = .ok (.bipush 26, 2) := by decide +kernel
theorem dX10_readDrift_67 : decode cX10_readDrift 67 = .ok (.iload_n 1, 1) := by decide +kernel
theorem dX10_readDrift_68 : decode cX10_readDrift 68 = .ok (.iadd, 1) := by decide +kernel
theorem dX10_readDrift_69 : decode cX10_readDrift 69 = .ok (.iload_n 3, 1) := by decide +kernel
theorem dX10_readDrift_70 : decode cX10_readDrift 70 = .ok (.iastore, 1) := by decide +kernel
theorem dX10_readDrift_71 : decode cX10_readDrift 71 = .ok (.return_, 1) := by decide +kernel
theorem dX10_readOff_0 : decode cX10_readOff 0 = .ok (.aload_n 0, 1) := by decide +kernel
theorem dX10_readOff_1 : decode cX10_readOff 1 = .ok (.invokevirtual 118, 3) := by decide +kernel
theorem dX10_readOff_4 : decode cX10_readOff 4 = .ok (.aload_n 0, 1) := by decide +kernel
theorem dX10_readOff_5 : decode cX10_readOff 5 = .ok (.aload_n 0, 1) := by decide +kernel
theorem dX10_readOff_6 : decode cX10_readOff 6 = .ok (.getfield 171, 3) := by decide +kernel
theorem dX10_readOff_9 : decode cX10_readOff 9 = .ok (.invokevirtual 165, 3) := by decide +kernel
theorem dX10_readOff_12 : decode cX10_readOff 12 = .ok (.istore_n 1, 1) := by decide +kernel
theorem dX10_readOff_13 : decode cX10_readOff 13 = .ok (.aload_n 0, 1) := by decide +kernel
theorem dX10_readOff_14 : decode cX10_readOff 14 = .ok (.getfield 74, 3) := by decide +kernel
theorem dX10_readOff_17 : decode cX10_readOff 17 = .ok (.ifCond .le 4, 3) := by decide +kernel
theorem dX10_readOff_20 : decode cX10_readOff 20 = .ok (.return_, 1) := by decide +kernel
theorem dX10_readOff_21 : decode cX10_readOff 21 = .ok (.aload_n 0, 1) := by decide +kernel
theorem dX10_readOff_22 : decode cX10_readOff 22 = .ok (.dup, 1) := by decide +kernel
theorem dX10_readOff_23 : decode cX10_readOff 23 = .ok (.getfield 171, 3) := by decide +kernel
theorem dX10_readOff_26 : decode cX10_readOff 26 = .ok (.iconst 1, 1) := by decide +kernel
theorem dX10_readOff_27 : decode cX10_readOff 27 = .ok (.iload_n 1, 1) := by decide +kernel
theorem dX10_readOff_28 : decode cX10_readOff 28 = .ok (.ishl, 1) := by decide +kernel
theorem dX10_readOff_29 : decode cX10_readOff 29 = .ok (.ior, 1) := by decide +kernel
theorem dX10_readOff_30 : decode cX10_readOff 30 = .ok (.putfield 171, 3) := by decide +kernel
theorem dX10_readOff_33 : decode cX10_readOff 33 = .ok (.aload_n 0, 1) := by decide +kernel
theorem dX10_readOff_34 : decode cX10_readOff 34 = .ok (.getfield 26, 3) := by decide +kernel
theorem dX10_readOff_37 : decode cX10_readOff 37 = .ok (.iconst 2, 1) := by decide +kernel
theorem dX10_readOff_38 : decode cX10_readOff 38 = .ok (.iload_n 1, 1) := by decide +kernel
theorem dX10_readOff_39 : decode cX10_readOff 39 = .ok (.iadd, 1) := by decide +kernel
theorem dX10_readOff_40 : decode cX10_readOff 40 = .ok (.iconst 0, 1) := by decide +kernel
theorem dX10_readOff_41 : decode cX10_readOff 41 = .ok (.iastore, 1) := by decide +kernel
theorem dX10_readOff_42 : decode cX10_readOff 42 = .ok (.return_, 1) := by decide +kernel
theorem dX10_readMirror_0 : decode cX10_readMirror 0 = .ok (.aload_n 0, 1) := by decide +kernel
theorem dX10_readMirror_1 : decode cX10_readMirror 1 = .ok (.invokevirtual 118, 3) := by decide +kernel
theorem dX10_readMirror_4 : decode cX10_readMirror 4 = .ok (.aload_n 0, 1) := by decide +kernel
theorem dX10_readMirror_5 : decode cX10_readMirror 5 = .ok (.ldc 174, 2) := by decide +kernel
theorem dX10_readMirror_7 : decode cX10_readMirror 7 = .ok (.invokevirtual 114, 3) := by decide +kernel
theorem dX10_readMirror_10 : decode cX10_readMirror 10 = .ok (.ifCond .eq 7, 3) := by decide +kernel
theorem dX10_readMirror_13 : decode cX10_readMirror 13 = .ok (.iconst 0, 1) := by decide +kernel
theorem dX10_readMirror_14 : decode cX10_readMirror 14 = .ok (.goto 43, 3) := by decide +kernel
theorem dX10_readMirror_17 : decode cX10_readMirror 17 = .ok (.aload_n 0, 1) := by decide +kernel
theorem dX10_readMirror_18 : decode cX10_readMirror 18 = .ok (.ldc 176, 2) := by decide +kernel
theorem dX10_readMirror_20 : decode cX10_readMirror 20 = .ok (.invokevirtual 114, 3) := by decide +kernel
theorem dX10_readMirror_23 : decode cX10_readMirror 23 = .ok (.ifCond .eq 7, 3) := by decide +kernel
theorem dX10_readMirror_26 : decode cX10_readMirror 26 = .ok (.iconst 1, 1) := by decide +kernel
theorem dX10_readMirror_27 : decode cX10_readMirror 27 = .ok (.goto 30, 3) := by decide +kernel
theorem dX10_readMirror_30 : decode cX10_readMirror 30 = .ok (.aload_n 0, 1) := by decide +kernel
theorem dX10_readMirror_31 : decode cX10_readMirror 31 = .ok (.ldc 178, 2) := by decide +kernel
theorem dX10_readMirror_33 : decode cX10_readMirror 33 = .ok (.invokevirtual 114, 3) := by decide +kernel
theorem dX10_readMirror_36 : decode cX10_readMirror 36 = .ok (.ifCond .eq 7, 3) := by decide +kernel
theorem dX10_readMirror_39 : decode cX10_readMirror 39 = .ok (.iconst 2, 1) := by decide +kernel
theorem dX10_readMirror_40 : decode cX10_readMirror 40 = .ok (.goto 17, 3) := by decide +kernel
theorem dX10_readMirror_43 : decode cX10_readMirror 43 = .ok (.aload_n 0, 1) := by decide +kernel
theorem dX10_readMirror_44 : decode cX10_readMirror 44 = .ok (.ldc 180, 2) := by decide +kernel
theorem dX10_readMirror_46 : decode cX10_readMirror 46 = .ok (.invokevirtual 114, 3) := by decide +kernel
theorem dX10_readMirror_49 : decode cX10_readMirror 49 = .ok (.ifCond .eq 7, 3) := by decide +kernel
theorem dX10_readMirror_52 : decode cX10_readMirror 52 = .ok (.iconst 3, 1) := by decide +kernel
theorem dX10_readMirror_53 : decode cX10_readMirror 53 = .ok (.goto 4, 3) := by decide +kernel
theorem dX10_readMirror_56 : decode cX10_readMirror 56 = .ok (.iconst (-1), 1) := by decide +kernel
theorem dX10_readMirror_57 : decode cX10_readMirror 57 = .ok (.istore_n 1, 1) := by decide +kernel
theorem dX10_readMirror_58 : decode cX10_readMirror 58 = .ok (.iload_n 1, 1) := by decide +kernel
theorem dX10_readMirror_59 : decode cX10_readMirror 59 = .ok (.iconst (-1), 1) := by decide +kernel
theorem dX10_readMirror_60 : decode cX10_readMirror 60 = .ok (.if_icmp .ne 11, 3) := by decide +kernel
theorem dX10_readMirror_63 : decode cX10_readMirror 63 = .ok (.aload_n 0, 1) := by decide +kernel
theorem dX10_readMirror_64 : decode cX10_readMirror 64 = .ok (.iconst 1, 1) := by decide +kernel
theorem dX10_readMirror_65 : decode cX10_readMirror 65 = .ok (.invokevirtual 124, 3) := by decide +kernel
theorem dX10_readMirror_68 : decode cX10_readMirror 68 = .ok (.goto 20, 3) := by decide +kernel
theorem dX10_readMirror_71 : decode cX10_readMirror 71 = .ok (.aload_n 0, 1) := by decide +kernel
theorem dX10_readMirror_72 : decode cX10_readMirror 72 = .ok (.getfield 20, 3) := by decide +kernel
theorem dX10_readMirror_75 : decode cX10_readMirror 75 = .ok (.bipush 33, 2) := by decide +kernel
theorem dX10_readMirror_77 : decode cX10_readMirror 77 = .ok (.iload_n 1, 1) := by decide +kernel
theorem dX10_readMirror_78 : decode cX10_readMirror 78 = .ok (.iadd, 1) := by decide +kernel
theorem dX10_readMirror_79 : decode cX10_readMirror 79 = .ok (.iaload, 1) := by decide +kernel
theorem dX10_readMirror_80 : decode cX10_readMirror 80 = .ok (.ifCond .le 8, 3) := by decide +kernel
theorem dX10_readMirror_83 : decode cX10_readMirror 83 = .ok (.aload_n 0, 1) := by decide +kernel
theorem dX10_readMirror_84 : decode cX10_readMirror 84 = .ok (.iconst 3, 1) := by decide +kernel
theorem dX10_readMirror_85 : decode cX10_readMirror 85 = .ok (.invokevirtual 124, 3) := by decide +kernel
theorem dX10_readMirror_88 : decode cX10_readMirror 88 = .ok (.aload_n 0, 1) := by decide +kernel
theorem dX10_readMirror_89 : decode cX10_readMirror 89 = .ok (.invokevirtual 118, 3) := by decide +kernel
theorem dX10_readMirror_92 : decode cX10_readMirror 92 = .ok (.aload_n 0, 1) := by decide +kernel
theorem dX10_readMirror_93 : decode cX10_readMirror 93 = .ok (.iconst 1, 1) := by decide +kernel
theorem dX10_readMirror_94 : decode cX10_readMirror 94 = .ok (.bipush 100, 2) := by decide +kernel
theorem dX10_readMirror_96 : decode cX10_readMirror 96 = .ok (.invokevirtual 135, 3) := by decide +kernel
theorem dX10_readMirror_99 : decode cX10_readMirror 99 = .ok (.istore_n 2, 1) := by decide +kernel
theorem dX10_readMirror_100 : decode cX10_readMirror 100 = .ok (.aload_n 0, 1) := by decide +kernel
theorem dX10_readMirror_101 : decode cX10_readMirror 101 = .ok (.getfield 74, 3) := by decide +kernel
theorem dX10_readMirror_104 : decode cX10_readMirror 104 = .ok (.ifCond .ne 13, 3) := by decide +kernel
theorem dX10_readMirror_107 : decode cX10_readMirror 107 = .ok (.aload_n 0, 1) := by decide +kernel
theorem dX10_readMirror_108 : decode cX10_readMirror 108 = .ok (.getfield 20, 3) := by decide +kernel
theorem dX10_readMirror_111 : decode cX10_readMirror 111 = .ok (.bipush 33, 2) := by decide +kernel
theorem dX10_readMirror_113 : decode cX10_readMirror 113 = .ok (.iload_n 1, 1) := by decide +kernel
theorem dX10_readMirror_114 : decode cX10_readMirror 114 = .ok (.iadd, 1) := by decide +kernel
theorem dX10_readMirror_115 : decode cX10_readMirror 115 = .ok (.iload_n 2, 1) := by decide +kernel
theorem dX10_readMirror_116 : decode cX10_readMirror 116 = .ok (.iastore, 1) := by decide +kernel
theorem dX10_readMirror_117 : decode cX10_readMirror 117 = .ok (.return_, 1) := by decide +kernel
theorem dX10_readCut_0 : decode cX10_readCut 0 = .ok (.bipush 42, 2) := by decide +kernel
theorem dX10_readCut_2 : decode cX10_readCut 2 = .ok (.iconst 3, 1) := by decide +kernel
theorem dX10_readCut_3 : decode cX10_readCut 3 = .ok (.aload_n 0, 1) := by decide +kernel
theorem dX10_readCut_4 : decode cX10_readCut 4 = .ok (.getfield 20, 3) := by decide +kernel
theorem dX10_readCut_7 : decode cX10_readCut 7 = .ok (.bipush 41, 2) := by decide +kernel
theorem dX10_readCut_9 : decode cX10_readCut 9 = .ok (.iaload, 1) := by decide +kernel
theorem dX10_readCut_10 : decode cX10_readCut 10 = .ok (.imul, 1) := by decide +kernel
theorem dX10_readCut_11 : decode cX10_readCut 11 = .ok (.iadd, 1) := by decide +kernel
theorem dX10_readCut_12 : decode cX10_readCut 12 = .ok (.istore_n 1, 1) := by decide +kernel
theorem dX10_readCut_13 : decode cX10_readCut 13 = .ok (.aload_n 0, 1) := by decide +kernel
theorem dX10_readCut_14 : decode cX10_readCut 14 = .ok (.getfield 20, 3) := by decide +kernel
theorem dX10_readCut_17 : decode cX10_readCut 17 = .ok (.bipush 41, 2) := by decide +kernel
theorem dX10_readCut_19 : decode cX10_readCut 19 = .ok (.iaload, 1) := by decide +kernel
theorem dX10_readCut_20 : decode cX10_readCut 20 = .ok (.bipush 6, 2) := by decide +kernel
theorem dX10_readCut_22 : decode cX10_readCut 22 = .ok (.if_icmp .ne 8, 3) := by decide +kernel
theorem dX10_readCut_25 : decode cX10_readCut 25 = .ok (.aload_n 0, 1) := by decide +kernel
theorem dX10_readCut_26 : decode cX10_readCut 26 = .ok (.iconst 4, 1) := by decide +kernel
theorem dX10_readCut_27 : decode cX10_readCut 27 = .ok (.invokevirtual 124, 3) := by decide +kernel
theorem dX10_readCut_30 : decode cX10_readCut 30 = .ok (.aload_n 0, 1) := by decide +kernel
theorem dX10_readCut_31 : decode cX10_readCut 31 = .ok (.invokevirtual 118, 3) := by decide +kernel
theorem dX10_readCut_34 : decode cX10_readCut 34 = .ok (.aload_n 0, 1) := by decide +kernel
theorem dX10_readCut_35 : decode cX10_readCut 35 = .ok (.getfield 74, 3) := by decide +kernel
theorem dX10_readCut_38 : decode cX10_readCut 38 = .ok (.ifCond .le 4, 3) := by decide +kernel
theorem dX10_readCut_41 : decode cX10_readCut 41 = .ok (.return_, 1) := by decide +kernel
theorem dX10_readCut_42 : decode cX10_readCut 42 = .ok (.aload_n 0, 1) := by decide +kernel
theorem dX10_readCut_43 : decode cX10_readCut 43 = .ok (.getfield 20, 3) := by decide +kernel
theorem dX10_readCut_46 : decode cX10_readCut 46 = .ok (.iload_n 1, 1) := by decide +kernel
theorem dX10_readCut_47 : decode cX10_readCut 47 = .ok (.aload_n 0, 1) := by decide +kernel
theorem dX10_readCut_48 : decode cX10_readCut 48 = .ok (.iconst 0, 1) := by decide +kernel
theorem dX10_readCut_49 : decode cX10_readCut 49 = .ok (.aload_n 0, 1) := by decide +kernel
theorem dX10_readCut_50 : decode cX10_readCut 50 = .ok (.getfield 20, 3) := by decide +kernel
theorem dX10_readCut_53 : decode cX10_readCut 53 = .ok (.iconst 4, 1) := by decide +kernel
theorem dX10_readCut_54 : decode cX10_readCut 54 = .ok (.iaload, 1) := by decide +kernel
theorem dX10_readCut_55 : decode cX10_readCut 55 = .ok (.iconst 1, 1) := by decide +kernel
theorem dX10_readCut_56 : decode cX10_readCut 56 = .ok (.isub, 1) := by decide +kernel
theorem dX10_readCut_57 : decode cX10_readCut 57 = .ok (.invokevirtual 135, 3) := by decide +kernel
theorem dX10_readCut_60 : decode cX10_readCut 60 = .ok (.iastore, 1) := by decide +kernel
theorem dX10_readCut_61 : decode cX10_readCut 61 = .ok (.aload_n 0, 1) := by decide +kernel
theorem dX10_readCut_62 : decode cX10_readCut 62 = .ok (.getfield 20, 3) := by decide +kernel
theorem dX10_readCut_65 : decode cX10_readCut 65 = .ok (.iload_n 1, 1) := by decide +kernel
theorem dX10_readCut_66 : decode cX10_readCut 66 = .ok (.iconst 1, 1) := by decide +kernel
theorem dX10_readCut_67 : decode cX10_readCut 67 = .ok (.iadd, 1) := by decide +kernel
theorem dX10_readCut_68 : decode cX10_readCut 68 = .ok (.aload_n 0, 1) := by decide +kernel
theorem dX10_readCut_69 : decode cX10_readCut 69 = .ok (.iconst 0, 1) := by decide +kernel
theorem dX10_readCut_70 : decode cX10_readCut 70 = .ok (.sipush 9999, 3) := by decide +kernel
theorem dX10_readCut_73 : decode cX10_readCut 73 = .ok (.invokevirtual 135, 3) := by decide +kernel
theorem dX10_readCut_76 : decode cX10_readCut 76 = .ok (.iastore, 1) := by decide +kernel
theorem dX10_readCut_77 : decode cX10_readCut 77 = .ok (.aload_n 0, 1) := by decide +kernel
theorem dX10_readCut_78 : decode cX10_readCut 78 = .ok (.getfield 20, 3) := by decide +kernel
theorem dX10_readCut_81 : decode cX10_readCut 81 = .ok (.iload_n 1, 1) := by decide +kernel
theorem dX10_readCut_82 : decode cX10_readCut 82 = .ok (.iconst 2, 1) := by decide +kernel
theorem dX10_readCut_83 : decode cX10_readCut 83 = .ok (.iadd, 1) := by decide +kernel
theorem dX10_readCut_84 : decode cX10_readCut 84 = .ok (.aload_n 0, 1) := by decide +kernel
theorem dX10_readCut_85 : decode cX10_readCut 85 = .ok (.aload_n 0, 1) := by decide +kernel
theorem dX10_readCut_86 : decode cX10_readCut 86 = .ok (.getfield 20, 3) := by decide +kernel
theorem dX10_readCut_89 : decode cX10_readCut 89 = .ok (.iload_n 1, 1) := by decide +kernel
theorem dX10_readCut_90 : decode cX10_readCut 90 = .ok (.iconst 1, 1) := by decide +kernel
theorem dX10_readCut_91 : decode cX10_readCut 91 = .ok (.iadd, 1) := by decide +kernel
theorem dX10_readCut_92 : decode cX10_readCut 92 = .ok (.iaload, 1) := by decide +kernel
theorem dX10_readCut_93 : decode cX10_readCut 93 = .ok (.sipush 9999, 3) := by decide +kernel
theorem dX10_readCut_96 : decode cX10_readCut 96 = .ok (.invokevirtual 135, 3) := by decide +kernel
theorem dX10_readCut_99 : decode cX10_readCut 99 = .ok (.iastore, 1) := by decide +kernel
theorem dX10_readCut_100 : decode cX10_readCut 100 = .ok (.aload_n 0, 1) := by decide +kernel
theorem dX10_readCut_101 : decode cX10_readCut 101 = .ok (.getfield 20, 3) := by decide +kernel
theorem dX10_readCut_104 : decode cX10_readCut 104 = .ok (.bipush 41, 2) := by decide +kernel
theorem dX10_readCut_106 : decode cX10_readCut 106 = .ok (.dup2, 1) := by decide +kernel
theorem dX10_readCut_107 : decode cX10_readCut 107 = .ok (.iaload, 1) := by decide +kernel
theorem dX10_readCut_108 : decode cX10_readCut 108 = .ok (.iconst 1, 1) := by decide +kernel
theorem dX10_readCut_109 : decode cX10_readCut 109 = .ok (.iadd, 1) := by decide +kernel
theorem dX10_readCut_110 : decode cX10_readCut 110 = .ok (.iastore, 1) := by decide +kernel
theorem dX10_readCut_111 : decode cX10_readCut 111 = .ok (.return_, 1) := by decide +kernel
theorem dX10_readShape_0 : decode cX10_readShape 0 = .ok (.aload_n 0, 1) := by decide +kernel
theorem dX10_readShape_1 : decode cX10_readShape 1 = .ok (.invokevirtual 118, 3) := by decide +kernel
theorem dX10_readShape_4 : decode cX10_readShape 4 = .ok (.aload_n 0, 1) := by decide +kernel
theorem dX10_readShape_5 : decode cX10_readShape 5 = .ok (.aload_n 0, 1) := by decide +kernel
theorem dX10_readShape_6 : decode cX10_readShape 6 = .ok (.getfield 182, 3) := by decide +kernel
theorem dX10_readShape_9 : decode cX10_readShape 9 = .ok (.invokevirtual 165, 3) := by decide +kernel
theorem dX10_readShape_12 : decode cX10_readShape 12 = .ok (.istore_n 1, 1) := by decide +kernel
theorem dX10_readShape_13 : decode cX10_readShape 13 = .ok (.aload_n 0, 1) := by decide +kernel
theorem dX10_readShape_14 : decode cX10_readShape 14 = .ok (.ldc 185, 2) := by decide +kernel
theorem dX10_readShape_16 : decode cX10_readShape 16 = .ok (.invokevirtual 121, 3) := by decide +kernel
theorem dX10_readShape_19 : decode cX10_readShape 19 = .ok (.ifCond .eq 7, 3) := by decide +kernel
theorem dX10_readShape_22 : decode cX10_readShape 22 = .ok (.iconst 1, 1) := by decide +kernel
theorem dX10_readShape_23 : decode cX10_readShape 23 = .ok (.goto 17, 3) := by decide +kernel
theorem dX10_readShape_26 : decode cX10_readShape 26 = .ok (.aload_n 0, 1) := by decide +kernel
theorem dX10_readShape_27 : decode cX10_readShape 27 = .ok (.ldc 187, 2) := by decide +kernel
theorem dX10_readShape_29 : decode cX10_readShape 29 = .ok (.invokevirtual 121, 3) := by decide +kernel
theorem dX10_readShape_32 : decode cX10_readShape 32 = .ok (.ifCond .eq 7, 3) := by decide +kernel
theorem dX10_readShape_35 : decode cX10_readShape 35 = .ok (.iconst 2, 1) := by decide +kernel
theorem dX10_readShape_36 : decode cX10_readShape 36 = .ok (.goto 4, 3) := by decide +kernel
theorem dX10_readShape_39 : decode cX10_readShape 39 = .ok (.iconst (-1), 1) := by decide +kernel
theorem dX10_readShape_40 : decode cX10_readShape 40 = .ok (.istore_n 2, 1) := by decide +kernel
theorem dX10_readShape_41 : decode cX10_readShape 41 = .ok (.iload_n 2, 1) := by decide +kernel
theorem dX10_readShape_42 : decode cX10_readShape 42 = .ok (.iconst (-1), 1) := by decide +kernel
theorem dX10_readShape_43 : decode cX10_readShape 43 = .ok (.if_icmp .ne 8, 3) := by decide +kernel
theorem dX10_readShape_46 : decode cX10_readShape 46 = .ok (.aload_n 0, 1) := by decide +kernel
theorem dX10_readShape_47 : decode cX10_readShape 47 = .ok (.iconst 1, 1) := by decide +kernel
theorem dX10_readShape_48 : decode cX10_readShape 48 = .ok (.invokevirtual 124, 3) := by decide +kernel
theorem dX10_readShape_51 : decode cX10_readShape 51 = .ok (.aload_n 0, 1) := by decide +kernel
theorem dX10_readShape_52 : decode cX10_readShape 52 = .ok (.getfield 74, 3) := by decide +kernel
theorem dX10_readShape_55 : decode cX10_readShape 55 = .ok (.ifCond .le 4, 3) := by decide +kernel
theorem dX10_readShape_58 : decode cX10_readShape 58 = .ok (.return_, 1) := by decide +kernel
theorem dX10_readShape_59 : decode cX10_readShape 59 = .ok (.aload_n 0, 1) := by decide +kernel
theorem dX10_readShape_60 : decode cX10_readShape 60 = .ok (.dup, 1) := by decide +kernel
theorem dX10_readShape_61 : decode cX10_readShape 61 = .ok (.getfield 182, 3) := by decide +kernel
theorem dX10_readShape_64 : decode cX10_readShape 64 = .ok (.iconst 1, 1) := by decide +kernel
theorem dX10_readShape_65 : decode cX10_readShape 65 = .ok (.iload_n 1, 1) := by decide +kernel
theorem dX10_readShape_66 : decode cX10_readShape 66 = .ok (.ishl, 1) := by decide +kernel
theorem dX10_readShape_67 : decode cX10_readShape 67 = .ok (.ior, 1) := by decide +kernel
theorem dX10_readShape_68 : decode cX10_readShape 68 = .ok (.putfield 182, 3) := by decide +kernel
theorem dX10_readShape_71 : decode cX10_readShape 71 = .ok (.aload_n 0, 1) := by decide +kernel
theorem dX10_readShape_72 : decode cX10_readShape 72 = .ok (.getfield 20, 3) := by decide +kernel
theorem dX10_readShape_75 : decode cX10_readShape 75 = .ok (.bipush 37, 2) := by decide +kernel
theorem dX10_readShape_77 : decode cX10_readShape 77 = .ok (.iload_n 1, 1) := by decide +kernel
theorem dX10_readShape_78 : decode cX10_readShape 78 = .ok (.iadd, 1) := by decide +kernel
theorem dX10_readShape_79 : decode cX10_readShape 79 = .ok (.iload_n 2, 1) := by decide +kernel
theorem dX10_readShape_80 : decode cX10_readShape 80 = .ok (.iastore, 1) := by decide +kernel
theorem dX10_readShape_81 : decode cX10_readShape 81 = .ok (.return_, 1) := by decide +kernel
theorem dX10_readShoal_0 : decode cX10_readShoal 0 = .ok (.bipush 61, 2) := by decide +kernel
theorem dX10_readShoal_2 : decode cX10_readShoal 2 = .ok (.iconst 5, 1) := by decide +kernel
theorem dX10_readShoal_3 : decode cX10_readShoal 3 = .ok (.aload_n 0, 1) := by decide +kernel
theorem dX10_readShoal_4 : decode cX10_readShoal 4 = .ok (.getfield 20, 3) := by decide +kernel
theorem dX10_readShoal_7 : decode cX10_readShoal 7 = .ok (.bipush 60, 2) := by decide +kernel
theorem dX10_readShoal_9 : decode cX10_readShoal 9 = .ok (.iaload, 1) := by decide +kernel
theorem dX10_readShoal_10 : decode cX10_readShoal 10 = .ok (.imul, 1) := by decide +kernel
theorem dX10_readShoal_11 : decode cX10_readShoal 11 = .ok (.iadd, 1) := by decide +kernel
theorem dX10_readShoal_12 : decode cX10_readShoal 12 = .ok (.istore_n 1, 1) := by decide +kernel
theorem dX10_readShoal_13 : decode cX10_readShoal 13 = .ok (.aload_n 0, 1) := by decide +kernel
theorem dX10_readShoal_14 : decode cX10_readShoal 14 = .ok (.getfield 20, 3) := by decide +kernel
theorem dX10_readShoal_17 : decode cX10_readShoal 17 = .ok (.bipush 60, 2) := by decide +kernel
theorem dX10_readShoal_19 : decode cX10_readShoal 19 = .ok (.iaload, 1) := by decide +kernel
theorem dX10_readShoal_20 : decode cX10_readShoal 20 = .ok (.iconst 3, 1) := by decide +kernel
theorem dX10_readShoal_21 : decode cX10_readShoal 21 = .ok (.if_icmp .ne 8, 3) := by decide +kernel
theorem dX10_readShoal_24 : decode cX10_readShoal 24 = .ok (.aload_n 0, 1) := by decide +kernel
theorem dX10_readShoal_25 : decode cX10_readShoal 25 = .ok (.iconst 4, 1) := by decide +kernel
theorem dX10_readShoal_26 : decode cX10_readShoal 26 = .ok (.invokevirtual 124, 3) := by decide +kernel
theorem dX10_readShoal_29 : decode cX10_readShoal 29 = .ok (.aload_n 0, 1) := by decide +kernel
theorem dX10_readShoal_30 : decode cX10_readShoal 30 = .ok (.invokevirtual 118, 3) := by decide +kernel
theorem dX10_readShoal_33 : decode cX10_readShoal 33 = .ok (.aload_n 0, 1) := by decide +kernel
theorem dX10_readShoal_34 : decode cX10_readShoal 34 = .ok (.getfield 74, 3) := by decide +kernel
theorem dX10_readShoal_37 : decode cX10_readShoal 37 = .ok (.ifCond .le 4, 3) := by decide +kernel
theorem dX10_readShoal_40 : decode cX10_readShoal 40 = .ok (.return_, 1) := by decide +kernel
theorem dX10_readShoal_41 : decode cX10_readShoal 41 = .ok (.aload_n 0, 1) := by decide +kernel
theorem dX10_readShoal_42 : decode cX10_readShoal 42 = .ok (.getfield 20, 3) := by decide +kernel
theorem dX10_readShoal_45 : decode cX10_readShoal 45 = .ok (.iload_n 1, 1) := by decide +kernel
theorem dX10_readShoal_46 : decode cX10_readShoal 46 = .ok (.aload_n 0, 1) := by decide +kernel
theorem dX10_readShoal_47 : decode cX10_readShoal 47 = .ok (.iconst 0, 1) := by decide +kernel
theorem dX10_readShoal_48 : decode cX10_readShoal 48 = .ok (.aload_n 0, 1) := by decide +kernel
theorem dX10_readShoal_49 : decode cX10_readShoal 49 = .ok (.getfield 20, 3) := by decide +kernel
theorem dX10_readShoal_52 : decode cX10_readShoal 52 = .ok (.iconst 0, 1) := by decide +kernel
theorem dX10_readShoal_53 : decode cX10_readShoal 53 = .ok (.iaload, 1) := by decide +kernel
theorem dX10_readShoal_54 : decode cX10_readShoal 54 = .ok (.iconst 1, 1) := by decide +kernel
theorem dX10_readShoal_55 : decode cX10_readShoal 55 = .ok (.isub, 1) := by decide +kernel
theorem dX10_readShoal_56 : decode cX10_readShoal 56 = .ok (.invokevirtual 135, 3) := by decide +kernel
theorem dX10_readShoal_59 : decode cX10_readShoal 59 = .ok (.iastore, 1) := by decide +kernel
theorem dX10_readShoal_60 : decode cX10_readShoal 60 = .ok (.aload_n 0, 1) := by decide +kernel
theorem dX10_readShoal_61 : decode cX10_readShoal 61 = .ok (.getfield 20, 3) := by decide +kernel
theorem dX10_readShoal_64 : decode cX10_readShoal 64 = .ok (.iload_n 1, 1) := by decide +kernel
theorem dX10_readShoal_65 : decode cX10_readShoal 65 = .ok (.iconst 1, 1) := by decide +kernel
theorem dX10_readShoal_66 : decode cX10_readShoal 66 = .ok (.iadd, 1) := by decide +kernel
theorem dX10_readShoal_67 : decode cX10_readShoal 67 = .ok (.aload_n 0, 1) := by decide +kernel
theorem dX10_readShoal_68 : decode cX10_readShoal 68 = .ok (.iconst 0, 1) := by decide +kernel
theorem dX10_readShoal_69 : decode cX10_readShoal 69 = .ok (.aload_n 0, 1) := by decide +kernel
theorem dX10_readShoal_70 : decode cX10_readShoal 70 = .ok (.getfield 20, 3) := by decide +kernel
theorem dX10_readShoal_73 : decode cX10_readShoal 73 = .ok (.iconst 1, 1) := by decide +kernel
theorem dX10_readShoal_74 : decode cX10_readShoal 74 = .ok (.iaload, 1) := by decide +kernel
theorem dX10_readShoal_75 : decode cX10_readShoal 75 = .ok (.iconst 1, 1) := by decide +kernel
theorem dX10_readShoal_76 : decode cX10_readShoal 76 = .ok (.isub, 1) := by decide +kernel
theorem dX10_readShoal_77 : decode cX10_readShoal 77 = .ok (.invokevirtual 135, 3) := by decide +kernel
theorem dX10_readShoal_80 : decode cX10_readShoal 80 = .ok (.iastore, 1) := by decide +kernel
theorem dX10_readShoal_81 : decode cX10_readShoal 81 = .ok (.aload_n 0, 1) := by decide +kernel
theorem dX10_readShoal_82 : decode cX10_readShoal 82 = .ok (.getfield 20, 3) := by decide +kernel
theorem dX10_readShoal_85 : decode cX10_readShoal 85 = .ok (.iload_n 1, 1) := by decide +kernel
theorem dX10_readShoal_86 : decode cX10_readShoal 86 = .ok (.iconst 2, 1) := by decide +kernel
theorem dX10_readShoal_87 : decode cX10_readShoal 87 = .ok (.iadd, 1) := by decide +kernel
theorem dX10_readShoal_88 : decode cX10_readShoal 88 = .ok (.aload_n 0, 1) := by decide +kernel
theorem dX10_readShoal_89 : decode cX10_readShoal 89 = .ok (.aload_n 0, 1) := by decide +kernel
theorem dX10_readShoal_90 : decode cX10_readShoal 90 = .ok (.getfield 20, 3) := by decide +kernel
theorem dX10_readShoal_93 : decode cX10_readShoal 93 = .ok (.iload_n 1, 1) := by decide +kernel
theorem dX10_readShoal_94 : decode cX10_readShoal 94 = .ok (.iaload, 1) := by decide +kernel
theorem dX10_readShoal_95 : decode cX10_readShoal 95 = .ok (.aload_n 0, 1) := by decide +kernel
theorem dX10_readShoal_96 : decode cX10_readShoal 96 = .ok (.getfield 20, 3) := by decide +kernel
theorem dX10_readShoal_99 : decode cX10_readShoal 99 = .ok (.iconst 0, 1) := by decide +kernel
theorem dX10_readShoal_100 : decode cX10_readShoal 100 = .ok (.iaload, 1) := by decide +kernel
theorem dX10_readShoal_101 : decode cX10_readShoal 101 = .ok (.iconst 1, 1) := by decide +kernel
theorem dX10_readShoal_102 : decode cX10_readShoal 102 = .ok (.isub, 1) := by decide +kernel
theorem dX10_readShoal_103 : decode cX10_readShoal 103 = .ok (.invokevirtual 135, 3) := by decide +kernel
theorem dX10_readShoal_106 : decode cX10_readShoal 106 = .ok (.iastore, 1) := by decide +kernel
theorem dX10_readShoal_107 : decode cX10_readShoal 107 = .ok (.aload_n 0, 1) := by decide +kernel
theorem dX10_readShoal_108 : decode cX10_readShoal 108 = .ok (.getfield 20, 3) := by decide +kernel
theorem dX10_readShoal_111 : decode cX10_readShoal 111 = .ok (.iload_n 1, 1) := by decide +kernel
theorem dX10_readShoal_112 : decode cX10_readShoal 112 = .ok (.iconst 3, 1) := by decide +kernel
theorem dX10_readShoal_113 : decode cX10_readShoal 113 = .ok (.iadd, 1) := by decide +kernel
theorem dX10_readShoal_114 : decode cX10_readShoal 114 = .ok (.aload_n 0, 1) := by decide +kernel
theorem dX10_readShoal_115 : decode cX10_readShoal 115 = .ok (.aload_n 0, 1) := by decide +kernel
theorem dX10_readShoal_116 : decode cX10_readShoal 116 = .ok (.getfield 20, 3) := by decide +kernel
theorem dX10_readShoal_119 : decode cX10_readShoal 119 = .ok (.iload_n 1, 1) := by decide +kernel
theorem dX10_readShoal_120 : decode cX10_readShoal 120 = .ok (.iconst 1, 1) := by decide +kernel
theorem dX10_readShoal_121 : decode cX10_readShoal 121 = .ok (.iadd, 1) := by decide +kernel
theorem dX10_readShoal_122 : decode cX10_readShoal 122 = .ok (.iaload, 1) := by decide +kernel
theorem dX10_readShoal_123 : decode cX10_readShoal 123 = .ok (.aload_n 0, 1) := by decide +kernel
theorem dX10_readShoal_124 : decode cX10_readShoal 124 = .ok (.getfield 20, 3) := by decide +kernel
theorem dX10_readShoal_127 : decode cX10_readShoal 127 = .ok (.iconst 1, 1) := by decide +kernel
theorem dX10_readShoal_128 : decode cX10_readShoal 128 = .ok (.iaload, 1) := by decide +kernel
theorem dX10_readShoal_129 : decode cX10_readShoal 129 = .ok (.iconst 1, 1) := by decide +kernel
theorem dX10_readShoal_130 : decode cX10_readShoal 130 = .ok (.isub, 1) := by decide +kernel
theorem dX10_readShoal_131 : decode cX10_readShoal 131 = .ok (.invokevirtual 135, 3) := by decide +kernel
theorem dX10_readShoal_134 : decode cX10_readShoal 134 = .ok (.iastore, 1) := by decide +kernel
theorem dX10_readShoal_135 : decode cX10_readShoal 135 = .ok (.aload_n 0, 1) := by decide +kernel
theorem dX10_readShoal_136 : decode cX10_readShoal 136 = .ok (.getfield 20, 3) := by decide +kernel
theorem dX10_readShoal_139 : decode cX10_readShoal 139 = .ok (.iload_n 1, 1) := by decide +kernel
theorem dX10_readShoal_140 : decode cX10_readShoal 140 = .ok (.iconst 4, 1) := by decide +kernel
theorem dX10_readShoal_141 : decode cX10_readShoal 141 = .ok (.iadd, 1) := by decide +kernel
theorem dX10_readShoal_142 : decode cX10_readShoal 142 = .ok (.aload_n 0, 1) := by decide +kernel
theorem dX10_readShoal_143 : decode cX10_readShoal 143 = .ok (.iconst 0, 1) := by decide +kernel
theorem dX10_readShoal_144 : decode cX10_readShoal 144 = .ok (.sipush 200, 3) := by decide +kernel
theorem dX10_readShoal_147 : decode cX10_readShoal 147 = .ok (.invokevirtual 135, 3) := by decide +kernel
theorem dX10_readShoal_150 : decode cX10_readShoal 150 = .ok (.iastore, 1) := by decide +kernel
theorem dX10_readShoal_151 : decode cX10_readShoal 151 = .ok (.aload_n 0, 1) := by decide +kernel
theorem dX10_readShoal_152 : decode cX10_readShoal 152 = .ok (.getfield 20, 3) := by decide +kernel
theorem dX10_readShoal_155 : decode cX10_readShoal 155 = .ok (.bipush 60, 2) := by decide +kernel
theorem dX10_readShoal_157 : decode cX10_readShoal 157 = .ok (.dup2, 1) := by decide +kernel
theorem dX10_readShoal_158 : decode cX10_readShoal 158 = .ok (.iaload, 1) := by decide +kernel
theorem dX10_readShoal_159 : decode cX10_readShoal 159 = .ok (.iconst 1, 1) := by decide +kernel
theorem dX10_readShoal_160 : decode cX10_readShoal 160 = .ok (.iadd, 1) := by decide +kernel
theorem dX10_readShoal_161 : decode cX10_readShoal 161 = .ok (.iastore, 1) := by decide +kernel
theorem dX10_readShoal_162 : decode cX10_readShoal 162 = .ok (.return_, 1) := by decide +kernel
theorem dX10_readGauge_0 : decode cX10_readGauge 0 = .ok (.bipush 77, 2) := by decide +kernel
theorem dX10_readGauge_2 : decode cX10_readGauge 2 = .ok (.iconst 2, 1) := by decide +kernel
theorem dX10_readGauge_3 : decode cX10_readGauge 3 = .ok (.aload_n 0, 1) := by decide +kernel
theorem dX10_readGauge_4 : decode cX10_readGauge 4 = .ok (.getfield 20, 3) := by decide +kernel
theorem dX10_readGauge_7 : decode cX10_readGauge 7 = .ok (.bipush 76, 2) := by decide +kernel
theorem dX10_readGauge_9 : decode cX10_readGauge 9 = .ok (.iaload, 1) := by decide +kernel
theorem dX10_readGauge_10 : decode cX10_readGauge 10 = .ok (.imul, 1) := by decide +kernel
theorem dX10_readGauge_11 : decode cX10_readGauge 11 = .ok (.iadd, 1) := by decide +kernel
theorem dX10_readGauge_12 : decode cX10_readGauge 12 = .ok (.istore_n 1, 1) := by decide +kernel
theorem dX10_readGauge_13 : decode cX10_readGauge 13 = .ok (.aload_n 0, 1) := by decide +kernel
theorem dX10_readGauge_14 : decode cX10_readGauge 14 = .ok (.getfield 20, 3) := by decide +kernel
theorem dX10_readGauge_17 : decode cX10_readGauge 17 = .ok (.bipush 76, 2) := by decide +kernel
theorem dX10_readGauge_19 : decode cX10_readGauge 19 = .ok (.iaload, 1) := by decide +kernel
theorem dX10_readGauge_20 : decode cX10_readGauge 20 = .ok (.iconst 4, 1) := by decide +kernel
theorem dX10_readGauge_21 : decode cX10_readGauge 21 = .ok (.if_icmp .ne 8, 3) := by decide +kernel
theorem dX10_readGauge_24 : decode cX10_readGauge 24 = .ok (.aload_n 0, 1) := by decide +kernel
theorem dX10_readGauge_25 : decode cX10_readGauge 25 = .ok (.iconst 4, 1) := by decide +kernel
theorem dX10_readGauge_26 : decode cX10_readGauge 26 = .ok (.invokevirtual 124, 3) := by decide +kernel
theorem dX10_readGauge_29 : decode cX10_readGauge 29 = .ok (.aload_n 0, 1) := by decide +kernel
theorem dX10_readGauge_30 : decode cX10_readGauge 30 = .ok (.invokevirtual 118, 3) := by decide +kernel
theorem dX10_readGauge_33 : decode cX10_readGauge 33 = .ok (.aload_n 0, 1) := by decide +kernel
theorem dX10_readGauge_34 : decode cX10_readGauge 34 = .ok (.getfield 74, 3) := by decide +kernel
theorem dX10_readGauge_37 : decode cX10_readGauge 37 = .ok (.ifCond .le 4, 3) := by decide +kernel
theorem dX10_readGauge_40 : decode cX10_readGauge 40 = .ok (.return_, 1) := by decide +kernel
theorem dX10_readGauge_41 : decode cX10_readGauge 41 = .ok (.aload_n 0, 1) := by decide +kernel
theorem dX10_readGauge_42 : decode cX10_readGauge 42 = .ok (.getfield 20, 3) := by decide +kernel
theorem dX10_readGauge_45 : decode cX10_readGauge 45 = .ok (.iload_n 1, 1) := by decide +kernel
theorem dX10_readGauge_46 : decode cX10_readGauge 46 = .ok (.aload_n 0, 1) := by decide +kernel
theorem dX10_readGauge_47 : decode cX10_readGauge 47 = .ok (.iconst 0, 1) := by decide +kernel
theorem dX10_readGauge_48 : decode cX10_readGauge 48 = .ok (.aload_n 0, 1) := by decide +kernel
theorem dX10_readGauge_49 : decode cX10_readGauge 49 = .ok (.getfield 20, 3) := by decide +kernel
theorem dX10_readGauge_52 : decode cX10_readGauge 52 = .ok (.iconst 0, 1) := by decide +kernel
theorem dX10_readGauge_53 : decode cX10_readGauge 53 = .ok (.iaload, 1) := by decide +kernel
theorem dX10_readGauge_54 : decode cX10_readGauge 54 = .ok (.iconst 1, 1) := by decide +kernel
theorem dX10_readGauge_55 : decode cX10_readGauge 55 = .ok (.isub, 1) := by decide +kernel
theorem dX10_readGauge_56 : decode cX10_readGauge 56 = .ok (.invokevirtual 135, 3) := by decide +kernel
theorem dX10_readGauge_59 : decode cX10_readGauge 59 = .ok (.iastore, 1) := by decide +kernel
theorem dX10_readGauge_60 : decode cX10_readGauge 60 = .ok (.aload_n 0, 1) := by decide +kernel
theorem dX10_readGauge_61 : decode cX10_readGauge 61 = .ok (.getfield 20, 3) := by decide +kernel
theorem dX10_readGauge_64 : decode cX10_readGauge 64 = .ok (.iload_n 1, 1) := by decide +kernel
theorem dX10_readGauge_65 : decode cX10_readGauge 65 = .ok (.iconst 1, 1) := by decide +kernel
theorem dX10_readGauge_66 : decode cX10_readGauge 66 = .ok (.iadd, 1) := by decide +kernel
theorem dX10_readGauge_67 : decode cX10_readGauge 67 = .ok (.aload_n 0, 1) := by decide +kernel
theorem dX10_readGauge_68 : decode cX10_readGauge 68 = .ok (.iconst 0, 1) := by decide +kernel
theorem dX10_readGauge_69 : decode cX10_readGauge 69 = .ok (.aload_n 0, 1) := by decide +kernel
theorem dX10_readGauge_70 : decode cX10_readGauge 70 = .ok (.getfield 20, 3) := by decide +kernel
theorem dX10_readGauge_73 : decode cX10_readGauge 73 = .ok (.iconst 1, 1) := by decide +kernel
theorem dX10_readGauge_74 : decode cX10_readGauge 74 = .ok (.iaload, 1) := by decide +kernel
theorem dX10_readGauge_75 : decode cX10_readGauge 75 = .ok (.iconst 1, 1) := by decide +kernel
theorem dX10_readGauge_76 : decode cX10_readGauge 76 = .ok (.isub, 1) := by decide +kernel
theorem dX10_readGauge_77 : decode cX10_readGauge 77 = .ok (.invokevirtual 135, 3) := by decide +kernel
theorem dX10_readGauge_80 : decode cX10_readGauge 80 = .ok (.iastore, 1) := by decide +kernel
theorem dX10_readGauge_81 : decode cX10_readGauge 81 = .ok (.aload_n 0, 1) := by decide +kernel
theorem dX10_readGauge_82 : decode cX10_readGauge 82 = .ok (.getfield 20, 3) := by decide +kernel
theorem dX10_readGauge_85 : decode cX10_readGauge 85 = .ok (.bipush 76, 2) := by decide +kernel
theorem dX10_readGauge_87 : decode cX10_readGauge 87 = .ok (.dup2, 1) := by decide +kernel
theorem dX10_readGauge_88 : decode cX10_readGauge 88 = .ok (.iaload, 1) := by decide +kernel
theorem dX10_readGauge_89 : decode cX10_readGauge 89 = .ok (.iconst 1, 1) := by decide +kernel
theorem dX10_readGauge_90 : decode cX10_readGauge 90 = .ok (.iadd, 1) := by decide +kernel
theorem dX10_readGauge_91 : decode cX10_readGauge 91 = .ok (.iastore, 1) := by decide +kernel
theorem dX10_readGauge_92 : decode cX10_readGauge 92 = .ok (.return_, 1) := by decide +kernel
theorem dX10_readSlit_0 : decode cX10_readSlit 0 = .ok (.aload_n 0, 1) := by decide +kernel
theorem dX10_readSlit_1 : decode cX10_readSlit 1 = .ok (.invokevirtual 118, 3) := by decide +kernel
theorem dX10_readSlit_4 : decode cX10_readSlit 4 = .ok (.aload_n 0, 1) := by decide +kernel
theorem dX10_readSlit_5 : decode cX10_readSlit 5 = .ok (.getfield 20, 3) := by decide +kernel
theorem dX10_readSlit_8 : decode cX10_readSlit 8 = .ok (.iconst 3, 1) := by decide +kernel
theorem dX10_readSlit_9 : decode cX10_readSlit 9 = .ok (.iaload, 1) := by decide +kernel
theorem dX10_readSlit_10 : decode cX10_readSlit 10 = .ok (.iconst (-1), 1) := by decide +kernel
theorem dX10_readSlit_11 : decode cX10_readSlit 11 = .ok (.if_icmp .ne 7, 3) := by decide +kernel
theorem dX10_readSlit_14 : decode cX10_readSlit 14 = .ok (.iconst (-1), 1) := by decide +kernel
theorem dX10_readSlit_15 : decode cX10_readSlit 15 = .ok (.goto 11, 3) := by decide +kernel
theorem dX10_readSlit_18 : decode cX10_readSlit 18 = .ok (.aload_n 0, 1) := by decide +kernel
theorem dX10_readSlit_19 : decode cX10_readSlit 19 = .ok (.getfield 20, 3) := by decide +kernel
theorem dX10_readSlit_22 : decode cX10_readSlit 22 = .ok (.iconst 1, 1) := by decide +kernel
theorem dX10_readSlit_23 : decode cX10_readSlit 23 = .ok (.iaload, 1) := by decide +kernel
theorem dX10_readSlit_24 : decode cX10_readSlit 24 = .ok (.iconst 1, 1) := by decide +kernel
theorem dX10_readSlit_25 : decode cX10_readSlit 25 = .ok (.isub, 1) := by decide +kernel
theorem dX10_readSlit_26 : decode cX10_readSlit 26 = .ok (.istore_n 1, 1) := by decide +kernel
theorem dX10_readSlit_27 : decode cX10_readSlit 27 = .ok (.aload_n 0, 1) := by decide +kernel
theorem dX10_readSlit_28 : decode cX10_readSlit 28 = .ok (.iconst 0, 1) := by decide +kernel
theorem dX10_readSlit_29 : decode cX10_readSlit 29 = .ok (.iload_n 1, 1) := by decide +kernel
theorem dX10_readSlit_30 : decode cX10_readSlit 30 = .ok (.invokevirtual 135, 3) := by decide +kernel
theorem dX10_readSlit_33 : decode cX10_readSlit 33 = .ok (.istore_n 2, 1) := by decide +kernel
theorem dX10_readSlit_34 : decode cX10_readSlit 34 = .ok (.aload_n 0, 1) := by decide +kernel
theorem dX10_readSlit_35 : decode cX10_readSlit 35 = .ok (.iload_n 2, 1) := by decide +kernel
theorem dX10_readSlit_36 : decode cX10_readSlit 36 = .ok (.iload_n 1, 1) := by decide +kernel
theorem dX10_readSlit_37 : decode cX10_readSlit 37 = .ok (.invokevirtual 135, 3) := by decide +kernel
theorem dX10_readSlit_40 : decode cX10_readSlit 40 = .ok (.istore_n 3, 1) := by decide +kernel
theorem dX10_readSlit_41 : decode cX10_readSlit 41 = .ok (.iload_n 2, 1) := by decide +kernel
theorem dX10_readSlit_42 : decode cX10_readSlit 42 = .ok (.istore 4, 2) := by decide +kernel
theorem dX10_readSlit_44 : decode cX10_readSlit 44 = .ok (.iload 4, 2) := by decide +kernel
theorem dX10_readSlit_46 : decode cX10_readSlit 46 = .ok (.iload_n 3, 1) := by decide +kernel
theorem dX10_readSlit_47 : decode cX10_readSlit 47 = .ok (.if_icmp .gt 29, 3) := by decide +kernel
theorem dX10_readSlit_50 : decode cX10_readSlit 50 = .ok (.aload_n 0, 1) := by decide +kernel
theorem dX10_readSlit_51 : decode cX10_readSlit 51 = .ok (.getfield 74, 3) := by decide +kernel
theorem dX10_readSlit_54 : decode cX10_readSlit 54 = .ok (.ifCond .ne 22, 3) := by decide +kernel
theorem dX10_readSlit_57 : decode cX10_readSlit 57 = .ok (.aload_n 0, 1) := by decide +kernel
theorem dX10_readSlit_58 : decode cX10_readSlit 58 = .ok (.getfield 26, 3) := by decide +kernel
theorem dX10_readSlit_61 : decode cX10_readSlit 61 = .ok (.iconst 1, 1) := by decide +kernel
theorem dX10_readSlit_62 : decode cX10_readSlit 62 = .ok (.dup2, 1) := by decide +kernel
theorem dX10_readSlit_63 : decode cX10_readSlit 63 = .ok (.iaload, 1) := by decide +kernel
theorem dX10_readSlit_64 : decode cX10_readSlit 64 = .ok (.iconst 1, 1) := by decide +kernel
theorem dX10_readSlit_65 : decode cX10_readSlit 65 = .ok (.iload 4, 2) := by decide +kernel
theorem dX10_readSlit_67 : decode cX10_readSlit 67 = .ok (.ishl, 1) := by decide +kernel
theorem dX10_readSlit_68 : decode cX10_readSlit 68 = .ok (.ior, 1) := by decide +kernel
theorem dX10_readSlit_69 : decode cX10_readSlit 69 = .ok (.iastore, 1) := by decide +kernel
theorem dX10_readSlit_70 : decode cX10_readSlit 70 = .ok (.iinc 4 1, 3) := by decide +kernel
theorem dX10_readSlit_73 : decode cX10_readSlit 73 = .ok (.goto (-29), 3) := by decide +kernel
theorem dX10_readSlit_76 : decode cX10_readSlit 76 = .ok (.return_, 1) := by decide +kernel
theorem dX10_readLine_0 : decode cX10_readLine 0 = .ok (.aload_n 0, 1) := by decide +kernel
theorem dX10_readLine_1 : decode cX10_readLine 1 = .ok (.ldc 189, 2) := by decide +kernel
theorem dX10_readLine_3 : decode cX10_readLine 3 = .ok (.invokevirtual 114, 3) := by decide +kernel
theorem dX10_readLine_6 : decode cX10_readLine 6 = .ok (.ifCond .eq 10, 3) := by decide +kernel
theorem dX10_readLine_9 : decode cX10_readLine 9 = .ok (.aload_n 0, 1) := by decide +kernel
theorem dX10_readLine_10 : decode cX10_readLine 10 = .ok (.invokevirtual 191, 3) := by decide +kernel
theorem dX10_readLine_13 : decode cX10_readLine 13 = .ok (.goto 136, 3) := by decide +kernel
theorem dX10_readLine_16 : decode cX10_readLine 16 = .ok (.aload_n 0, 1) := by decide +kernel
theorem dX10_readLine_17 : decode cX10_readLine 17 = .ok (.ldc 194, 2) := by decide +kernel
theorem dX10_readLine_19 : decode cX10_readLine 19 = .ok (.invokevirtual 114, 3) := by decide +kernel
theorem dX10_readLine_22 : decode cX10_readLine 22 = .ok (.ifCond .eq 10, 3) := by decide +kernel
theorem dX10_readLine_25 : decode cX10_readLine 25 = .ok (.aload_n 0, 1) := by decide +kernel
theorem dX10_readLine_26 : decode cX10_readLine 26 = .ok (.invokevirtual 196, 3) := by decide +kernel
theorem dX10_readLine_29 : decode cX10_readLine 29 = .ok (.goto 120, 3) := by decide +kernel
theorem dX10_readLine_32 : decode cX10_readLine 32 = .ok (.aload_n 0, 1) := by decide +kernel
theorem dX10_readLine_33 : decode cX10_readLine 33 = .ok (.ldc 199, 2) := by decide +kernel
theorem dX10_readLine_35 : decode cX10_readLine 35 = .ok (.invokevirtual 114, 3) := by decide +kernel
theorem dX10_readLine_38 : decode cX10_readLine 38 = .ok (.ifCond .eq 10, 3) := by decide +kernel
theorem dX10_readLine_41 : decode cX10_readLine 41 = .ok (.aload_n 0, 1) := by decide +kernel
theorem dX10_readLine_42 : decode cX10_readLine 42 = .ok (.invokevirtual 201, 3) := by decide +kernel
theorem dX10_readLine_45 : decode cX10_readLine 45 = .ok (.goto 104, 3) := by decide +kernel
theorem dX10_readLine_48 : decode cX10_readLine 48 = .ok (.aload_n 0, 1) := by decide +kernel
theorem dX10_readLine_49 : decode cX10_readLine 49 = .ok (.ldc 204, 2) := by decide +kernel
theorem dX10_readLine_51 : decode cX10_readLine 51 = .ok (.invokevirtual 114, 3) := by decide +kernel
theorem dX10_readLine_54 : decode cX10_readLine 54 = .ok (.ifCond .eq 10, 3) := by decide +kernel
theorem dX10_readLine_57 : decode cX10_readLine 57 = .ok (.aload_n 0, 1) := by decide +kernel
theorem dX10_readLine_58 : decode cX10_readLine 58 = .ok (.invokevirtual 206, 3) := by decide +kernel
theorem dX10_readLine_61 : decode cX10_readLine 61 = .ok (.goto 88, 3) := by decide +kernel
theorem dX10_readLine_64 : decode cX10_readLine 64 = .ok (.aload_n 0, 1) := by decide +kernel
theorem dX10_readLine_65 : decode cX10_readLine 65 = .ok (.ldc 209, 2) := by decide +kernel
theorem dX10_readLine_67 : decode cX10_readLine 67 = .ok (.invokevirtual 114, 3) := by decide +kernel
theorem dX10_readLine_70 : decode cX10_readLine 70 = .ok (.ifCond .eq 10, 3) := by decide +kernel
theorem dX10_readLine_73 : decode cX10_readLine 73 = .ok (.aload_n 0, 1) := by decide +kernel
theorem dX10_readLine_74 : decode cX10_readLine 74 = .ok (.invokevirtual 211, 3) := by decide +kernel
theorem dX10_readLine_77 : decode cX10_readLine 77 = .ok (.goto 72, 3) := by decide +kernel
theorem dX10_readLine_80 : decode cX10_readLine 80 = .ok (.aload_n 0, 1) := by decide +kernel
theorem dX10_readLine_81 : decode cX10_readLine 81 = .ok (.ldc 214, 2) := by decide +kernel
theorem dX10_readLine_83 : decode cX10_readLine 83 = .ok (.invokevirtual 114, 3) := by decide +kernel
theorem dX10_readLine_86 : decode cX10_readLine 86 = .ok (.ifCond .eq 10, 3) := by decide +kernel
theorem dX10_readLine_89 : decode cX10_readLine 89 = .ok (.aload_n 0, 1) := by decide +kernel
theorem dX10_readLine_90 : decode cX10_readLine 90 = .ok (.invokevirtual 216, 3) := by decide +kernel
theorem dX10_readLine_93 : decode cX10_readLine 93 = .ok (.goto 56, 3) := by decide +kernel
theorem dX10_readLine_96 : decode cX10_readLine 96 = .ok (.aload_n 0, 1) := by decide +kernel
theorem dX10_readLine_97 : decode cX10_readLine 97 = .ok (.ldc 219, 2) := by decide +kernel
theorem dX10_readLine_99 : decode cX10_readLine 99 = .ok (.invokevirtual 114, 3) := by decide +kernel
theorem dX10_readLine_102 : decode cX10_readLine 102 = .ok (.ifCond .eq 10, 3) := by decide +kernel
theorem dX10_readLine_105 : decode cX10_readLine 105 = .ok (.aload_n 0, 1) := by decide +kernel
theorem dX10_readLine_106 : decode cX10_readLine 106 = .ok (.invokevirtual 221, 3) := by decide +kernel
theorem dX10_readLine_109 : decode cX10_readLine 109 = .ok (.goto 40, 3) := by decide +kernel
theorem dX10_readLine_112 : decode cX10_readLine 112 = .ok (.aload_n 0, 1) := by decide +kernel
theorem dX10_readLine_113 : decode cX10_readLine 113 = .ok (.ldc 224, 2) := by decide +kernel
theorem dX10_readLine_115 : decode cX10_readLine 115 = .ok (.invokevirtual 114, 3) := by decide +kernel
theorem dX10_readLine_118 : decode cX10_readLine 118 = .ok (.ifCond .eq 10, 3) := by decide +kernel
theorem dX10_readLine_121 : decode cX10_readLine 121 = .ok (.aload_n 0, 1) := by decide +kernel
theorem dX10_readLine_122 : decode cX10_readLine 122 = .ok (.invokevirtual 226, 3) := by decide +kernel
theorem dX10_readLine_125 : decode cX10_readLine 125 = .ok (.goto 24, 3) := by decide +kernel
theorem dX10_readLine_128 : decode cX10_readLine 128 = .ok (.aload_n 0, 1) := by decide +kernel
theorem dX10_readLine_129 : decode cX10_readLine 129 = .ok (.ldc 229, 2) := by decide +kernel
theorem dX10_readLine_131 : decode cX10_readLine 131 = .ok (.invokevirtual 114, 3) := by decide +kernel
theorem dX10_readLine_134 : decode cX10_readLine 134 = .ok (.ifCond .eq 10, 3) := by decide +kernel
theorem dX10_readLine_137 : decode cX10_readLine 137 = .ok (.aload_n 0, 1) := by decide +kernel
theorem dX10_readLine_138 : decode cX10_readLine 138 = .ok (.invokevirtual 230, 3) := by decide +kernel
theorem dX10_readLine_141 : decode cX10_readLine 141 = .ok (.goto 8, 3) := by decide +kernel
theorem dX10_readLine_144 : decode cX10_readLine 144 = .ok (.aload_n 0, 1) := by decide +kernel
theorem dX10_readLine_145 : decode cX10_readLine 145 = .ok (.iconst 1, 1) := by decide +kernel
theorem dX10_readLine_146 : decode cX10_readLine 146 = .ok (.invokevirtual 124, 3) := by decide +kernel
theorem dX10_readLine_149 : decode cX10_readLine 149 = .ok (.return_, 1) := by decide +kernel
theorem dX10_readText_0 : decode cX10_readText 0 = .ok (.iconst 0, 1) := by decide +kernel
theorem dX10_readText_1 : decode cX10_readText 1 = .ok (.istore_n 1, 1) := by decide +kernel
theorem dX10_readText_2 : decode cX10_readText 2 = .ok (.iload_n 1, 1) := by decide +kernel
theorem dX10_readText_3 : decode cX10_readText 3 = .ok (.bipush 85, 2) := by decide +kernel
theorem dX10_readText_5 : decode cX10_readText 5 = .ok (.if_icmp .ge 16, 3) := by decide +kernel
theorem dX10_readText_8 : decode cX10_readText 8 = .ok (.aload_n 0, 1) := by decide +kernel
theorem dX10_readText_9 : decode cX10_readText 9 = .ok (.getfield 20, 3) := by decide +kernel
theorem dX10_readText_12 : decode cX10_readText 12 = .ok (.iload_n 1, 1) := by decide +kernel
theorem dX10_readText_13 : decode cX10_readText 13 = .ok (.iconst 0, 1) := by decide +kernel
theorem dX10_readText_14 : decode cX10_readText 14 = .ok (.iastore, 1) := by decide +kernel
theorem dX10_readText_15 : decode cX10_readText 15 = .ok (.iinc 1 1, 3) := by decide +kernel
theorem dX10_readText_18 : decode cX10_readText 18 = .ok (.goto (-16), 3) := by decide +kernel
theorem dX10_readText_21 : decode cX10_readText 21 = .ok (.iconst 0, 1) := by decide +kernel
theorem dX10_readText_22 : decode cX10_readText 22 = .ok (.istore_n 1, 1) := by decide +kernel
theorem dX10_readText_23 : decode cX10_readText 23 = .ok (.iload_n 1, 1) := by decide +kernel
theorem dX10_readText_24 : decode cX10_readText 24 = .ok (.bipush 30, 2) := by decide +kernel
theorem dX10_readText_26 : decode cX10_readText 26 = .ok (.if_icmp .ge 16, 3) := by decide +kernel
theorem dX10_readText_29 : decode cX10_readText 29 = .ok (.aload_n 0, 1) := by decide +kernel
theorem dX10_readText_30 : decode cX10_readText 30 = .ok (.getfield 26, 3) := by decide +kernel
theorem dX10_readText_33 : decode cX10_readText 33 = .ok (.iload_n 1, 1) := by decide +kernel
theorem dX10_readText_34 : decode cX10_readText 34 = .ok (.iconst 0, 1) := by decide +kernel
theorem dX10_readText_35 : decode cX10_readText 35 = .ok (.iastore, 1) := by decide +kernel
theorem dX10_readText_36 : decode cX10_readText 36 = .ok (.iinc 1 1, 3) := by decide +kernel
theorem dX10_readText_39 : decode cX10_readText 39 = .ok (.goto (-16), 3) := by decide +kernel
theorem dX10_readText_42 : decode cX10_readText 42 = .ok (.aload_n 0, 1) := by decide +kernel
theorem dX10_readText_43 : decode cX10_readText 43 = .ok (.iconst 0, 1) := by decide +kernel
theorem dX10_readText_44 : decode cX10_readText 44 = .ok (.putfield 162, 3) := by decide +kernel
theorem dX10_readText_47 : decode cX10_readText 47 = .ok (.aload_n 0, 1) := by decide +kernel
theorem dX10_readText_48 : decode cX10_readText 48 = .ok (.iconst 0, 1) := by decide +kernel
theorem dX10_readText_49 : decode cX10_readText 49 = .ok (.putfield 171, 3) := by decide +kernel
theorem dX10_readText_52 : decode cX10_readText 52 = .ok (.aload_n 0, 1) := by decide +kernel
theorem dX10_readText_53 : decode cX10_readText 53 = .ok (.iconst 0, 1) := by decide +kernel
theorem dX10_readText_54 : decode cX10_readText 54 = .ok (.putfield 182, 3) := by decide +kernel
theorem dX10_readText_57 : decode cX10_readText 57 = .ok (.aload_n 0, 1) := by decide +kernel
theorem dX10_readText_58 : decode cX10_readText 58 = .ok (.invokevirtual 118, 3) := by decide +kernel
theorem dX10_readText_61 : decode cX10_readText 61 = .ok (.aload_n 0, 1) := by decide +kernel
theorem dX10_readText_62 : decode cX10_readText 62 = .ok (.invokevirtual 233, 3) := by decide +kernel
theorem dX10_readText_65 : decode cX10_readText 65 = .ok (.aload_n 0, 1) := by decide +kernel
theorem dX10_readText_66 : decode cX10_readText 66 = .ok (.bipush 59, 2) := by decide +kernel
theorem dX10_readText_68 : decode cX10_readText 68 = .ok (.invokevirtual 138, 3) := by decide +kernel
theorem dX10_readText_71 : decode cX10_readText 71 = .ok (.ifCond .eq 14, 3) := by decide +kernel
theorem dX10_readText_74 : decode cX10_readText 74 = .ok (.aload_n 0, 1) := by decide +kernel
theorem dX10_readText_75 : decode cX10_readText 75 = .ok (.invokevirtual 118, 3) := by decide +kernel
theorem dX10_readText_78 : decode cX10_readText 78 = .ok (.aload_n 0, 1) := by decide +kernel
theorem dX10_readText_79 : decode cX10_readText 79 = .ok (.invokevirtual 236, 3) := by decide +kernel
theorem dX10_readText_82 : decode cX10_readText 82 = .ok (.goto (-17), 3) := by decide +kernel
theorem dX10_readText_85 : decode cX10_readText 85 = .ok (.aload_n 0, 1) := by decide +kernel
theorem dX10_readText_86 : decode cX10_readText 86 = .ok (.getfield 74, 3) := by decide +kernel
theorem dX10_readText_89 : decode cX10_readText 89 = .ok (.ifCond .ne 16, 3) := by decide +kernel
theorem dX10_readText_92 : decode cX10_readText 92 = .ok (.aload_n 0, 1) := by decide +kernel
theorem dX10_readText_93 : decode cX10_readText 93 = .ok (.getfield 90, 3) := by decide +kernel
theorem dX10_readText_96 : decode cX10_readText 96 = .ok (.iconst 1, 1) := by decide +kernel
theorem dX10_readText_97 : decode cX10_readText 97 = .ok (.if_icmp .eq 8, 3) := by decide +kernel
theorem dX10_readText_100 : decode cX10_readText 100 = .ok (.aload_n 0, 1) := by decide +kernel
theorem dX10_readText_101 : decode cX10_readText 101 = .ok (.iconst 1, 1) := by decide +kernel
theorem dX10_readText_102 : decode cX10_readText 102 = .ok (.invokevirtual 124, 3) := by decide +kernel
theorem dX10_readText_105 : decode cX10_readText 105 = .ok (.aload_n 0, 1) := by decide +kernel
theorem dX10_readText_106 : decode cX10_readText 106 = .ok (.getfield 20, 3) := by decide +kernel
theorem dX10_readText_109 : decode cX10_readText 109 = .ok (.iconst 4, 1) := by decide +kernel
theorem dX10_readText_110 : decode cX10_readText 110 = .ok (.iaload, 1) := by decide +kernel
theorem dX10_readText_111 : decode cX10_readText 111 = .ok (.ifCond .ne 8, 3) := by decide +kernel
theorem dX10_readText_114 : decode cX10_readText 114 = .ok (.aload_n 0, 1) := by decide +kernel
theorem dX10_readText_115 : decode cX10_readText 115 = .ok (.iconst 5, 1) := by decide +kernel
theorem dX10_readText_116 : decode cX10_readText 116 = .ok (.invokevirtual 124, 3) := by decide +kernel
theorem dX10_readText_119 : decode cX10_readText 119 = .ok (.return_, 1) := by decide +kernel
theorem dX10_load_0 : decode cX10_load 0 = .ok (.aload_n 0, 1) := by decide +kernel
theorem dX10_load_1 : decode cX10_load 1 = .ok (.iconst 0, 1) := by decide +kernel
theorem dX10_load_2 : decode cX10_load 2 = .ok (.putfield 64, 3) := by decide +kernel
theorem dX10_load_5 : decode cX10_load 5 = .ok (.iload_n 1, 1) := by decide +kernel
theorem dX10_load_6 : decode cX10_load 6 = .ok (.iconst 0, 1) := by decide +kernel
theorem dX10_load_7 : decode cX10_load 7 = .ok (.aload_n 0, 1) := by decide +kernel
theorem dX10_load_8 : decode cX10_load 8 = .ok (.getfield 67, 3) := by decide +kernel
theorem dX10_load_11 : decode cX10_load 11 = .ok (.invokestatic 93, 3) := by decide +kernel
theorem dX10_load_14 : decode cX10_load 14 = .ok (.ifCond .ne 9, 3) := by decide +kernel
theorem dX10_load_17 : decode cX10_load 17 = .ok (.aload_n 0, 1) := by decide +kernel
theorem dX10_load_18 : decode cX10_load 18 = .ok (.iconst 1, 1) := by decide +kernel
theorem dX10_load_19 : decode cX10_load 19 = .ok (.invokevirtual 239, 3) := by decide +kernel
theorem dX10_load_22 : decode cX10_load 22 = .ok (.ireturn, 1) := by decide +kernel
theorem dX10_load_23 : decode cX10_load 23 = .ok (.aload_n 0, 1) := by decide +kernel
theorem dX10_load_24 : decode cX10_load 24 = .ok (.iload_n 1, 1) := by decide +kernel
theorem dX10_load_25 : decode cX10_load 25 = .ok (.putfield 77, 3) := by decide +kernel
theorem dX10_load_28 : decode cX10_load 28 = .ok (.aload_n 0, 1) := by decide +kernel
theorem dX10_load_29 : decode cX10_load 29 = .ok (.iconst 0, 1) := by decide +kernel
theorem dX10_load_30 : decode cX10_load 30 = .ok (.putfield 67, 3) := by decide +kernel
theorem dX10_load_33 : decode cX10_load 33 = .ok (.aload_n 0, 1) := by decide +kernel
theorem dX10_load_34 : decode cX10_load 34 = .ok (.iconst 0, 1) := by decide +kernel
theorem dX10_load_35 : decode cX10_load 35 = .ok (.putfield 83, 3) := by decide +kernel
theorem dX10_load_38 : decode cX10_load 38 = .ok (.aload_n 0, 1) := by decide +kernel
theorem dX10_load_39 : decode cX10_load 39 = .ok (.iconst 0, 1) := by decide +kernel
theorem dX10_load_40 : decode cX10_load 40 = .ok (.putfield 74, 3) := by decide +kernel
theorem dX10_load_43 : decode cX10_load 43 = .ok (.aload_n 0, 1) := by decide +kernel
theorem dX10_load_44 : decode cX10_load 44 = .ok (.iconst (-1), 1) := by decide +kernel
theorem dX10_load_45 : decode cX10_load 45 = .ok (.putfield 13, 3) := by decide +kernel
theorem dX10_load_48 : decode cX10_load 48 = .ok (.aload_n 0, 1) := by decide +kernel
theorem dX10_load_49 : decode cX10_load 49 = .ok (.invokevirtual 242, 3) := by decide +kernel
theorem dX10_load_52 : decode cX10_load 52 = .ok (.aload_n 0, 1) := by decide +kernel
theorem dX10_load_53 : decode cX10_load 53 = .ok (.getfield 74, 3) := by decide +kernel
theorem dX10_load_56 : decode cX10_load 56 = .ok (.ifCond .le 9, 3) := by decide +kernel
theorem dX10_load_59 : decode cX10_load 59 = .ok (.aload_n 0, 1) := by decide +kernel
theorem dX10_load_60 : decode cX10_load 60 = .ok (.iconst 2, 1) := by decide +kernel
theorem dX10_load_61 : decode cX10_load 61 = .ok (.invokevirtual 239, 3) := by decide +kernel
theorem dX10_load_64 : decode cX10_load 64 = .ok (.ireturn, 1) := by decide +kernel
theorem dX10_load_65 : decode cX10_load 65 = .ok (.iconst 0, 1) := by decide +kernel
theorem dX10_load_66 : decode cX10_load 66 = .ok (.istore_n 2, 1) := by decide +kernel
theorem dX10_load_67 : decode cX10_load 67 = .ok (.iload_n 2, 1) := by decide +kernel
theorem dX10_load_68 : decode cX10_load 68 = .ok (.bipush 85, 2) := by decide +kernel
theorem dX10_load_70 : decode cX10_load 70 = .ok (.if_icmp .ge 21, 3) := by decide +kernel
theorem dX10_load_73 : decode cX10_load 73 = .ok (.aload_n 0, 1) := by decide +kernel
theorem dX10_load_74 : decode cX10_load 74 = .ok (.getfield 17, 3) := by decide +kernel
theorem dX10_load_77 : decode cX10_load 77 = .ok (.iload_n 2, 1) := by decide +kernel
theorem dX10_load_78 : decode cX10_load 78 = .ok (.aload_n 0, 1) := by decide +kernel
theorem dX10_load_79 : decode cX10_load 79 = .ok (.getfield 20, 3) := by decide +kernel
theorem dX10_load_82 : decode cX10_load 82 = .ok (.iload_n 2, 1) := by decide +kernel
theorem dX10_load_83 : decode cX10_load 83 = .ok (.iaload, 1) := by decide +kernel
theorem dX10_load_84 : decode cX10_load 84 = .ok (.iastore, 1) := by decide +kernel
theorem dX10_load_85 : decode cX10_load 85 = .ok (.iinc 2 1, 3) := by decide +kernel
theorem dX10_load_88 : decode cX10_load 88 = .ok (.goto (-21), 3) := by decide +kernel
theorem dX10_load_91 : decode cX10_load 91 = .ok (.aload_n 0, 1) := by decide +kernel
theorem dX10_load_92 : decode cX10_load 92 = .ok (.getfield 26, 3) := by decide +kernel
theorem dX10_load_95 : decode cX10_load 95 = .ok (.iconst 0, 1) := by decide +kernel
theorem dX10_load_96 : decode cX10_load 96 = .ok (.aload_n 0, 1) := by decide +kernel
theorem dX10_load_97 : decode cX10_load 97 = .ok (.getfield 23, 3) := by decide +kernel
theorem dX10_load_100 : decode cX10_load 100 = .ok (.iconst 0, 1) := by decide +kernel
theorem dX10_load_101 : decode cX10_load 101 = .ok (.invokestatic 245, 3) := by decide +kernel
theorem dX10_load_104 : decode cX10_load 104 = .ok (.aload_n 0, 1) := by decide +kernel
theorem dX10_load_105 : decode cX10_load 105 = .ok (.iconst 1, 1) := by decide +kernel
theorem dX10_load_106 : decode cX10_load 106 = .ok (.putfield 249, 3) := by decide +kernel
theorem dX10_load_109 : decode cX10_load 109 = .ok (.aload_n 0, 1) := by decide +kernel
theorem dX10_load_110 : decode cX10_load 110 = .ok (.getfield 41, 3) := by decide +kernel
theorem dX10_load_113 : decode cX10_load 113 = .ok (.iconst 0, 1) := by decide +kernel
theorem dX10_load_114 : decode cX10_load 114 = .ok (.iconst 0, 1) := by decide +kernel
theorem dX10_load_115 : decode cX10_load 115 = .ok (.bastore, 1) := by decide +kernel
theorem dX10_load_116 : decode cX10_load 116 = .ok (.aload_n 0, 1) := by decide +kernel
theorem dX10_load_117 : decode cX10_load 117 = .ok (.getfield 41, 3) := by decide +kernel
theorem dX10_load_120 : decode cX10_load 120 = .ok (.iconst 1, 1) := by decide +kernel
theorem dX10_load_121 : decode cX10_load 121 = .ok (.iconst 0, 1) := by decide +kernel
theorem dX10_load_122 : decode cX10_load 122 = .ok (.bastore, 1) := by decide +kernel
theorem dX10_load_123 : decode cX10_load 123 = .ok (.aload_n 0, 1) := by decide +kernel
theorem dX10_load_124 : decode cX10_load 124 = .ok (.iconst 0, 1) := by decide +kernel
theorem dX10_load_125 : decode cX10_load 125 = .ok (.putfield 253, 3) := by decide +kernel
theorem dX10_load_128 : decode cX10_load 128 = .ok (.aload_n 0, 1) := by decide +kernel
theorem dX10_load_129 : decode cX10_load 129 = .ok (.getfield 17, 3) := by decide +kernel
theorem dX10_load_132 : decode cX10_load 132 = .ok (.iconst 4, 1) := by decide +kernel
theorem dX10_load_133 : decode cX10_load 133 = .ok (.iaload, 1) := by decide +kernel
theorem dX10_load_134 : decode cX10_load 134 = .ok (.ireturn, 1) := by decide +kernel
theorem dX10_copy_0 : decode cX10_copy 0 = .ok (.iconst 0, 1) := by decide +kernel
theorem dX10_copy_1 : decode cX10_copy 1 = .ok (.istore 4, 2) := by decide +kernel
theorem dX10_copy_3 : decode cX10_copy 3 = .ok (.iload 4, 2) := by decide +kernel
theorem dX10_copy_5 : decode cX10_copy 5 = .ok (.bipush 30, 2) := by decide +kernel
theorem dX10_copy_7 : decode cX10_copy 7 = .ok (.if_icmp .ge 21, 3) := by decide +kernel
theorem dX10_copy_10 : decode cX10_copy 10 = .ok (.aload_n 2, 1) := by decide +kernel
theorem dX10_copy_11 : decode cX10_copy 11 = .ok (.iload_n 3, 1) := by decide +kernel
theorem dX10_copy_12 : decode cX10_copy 12 = .ok (.iload 4, 2) := by decide +kernel
theorem dX10_copy_14 : decode cX10_copy 14 = .ok (.iadd, 1) := by decide +kernel
theorem dX10_copy_15 : decode cX10_copy 15 = .ok (.aload_n 0, 1) := by decide +kernel
theorem dX10_copy_16 : decode cX10_copy 16 = .ok (.iload_n 1, 1) := by decide +kernel
theorem dX10_copy_17 : decode cX10_copy 17 = .ok (.iload 4, 2) := by decide +kernel
theorem dX10_copy_19 : decode cX10_copy 19 = .ok (.iadd, 1) := by decide +kernel
theorem dX10_copy_20 : decode cX10_copy 20 = .ok (.iaload, 1) := by decide +kernel
theorem dX10_copy_21 : decode cX10_copy 21 = .ok (.iastore, 1) := by decide +kernel
theorem dX10_copy_22 : decode cX10_copy 22 = .ok (.iinc 4 1, 3) := by decide +kernel
theorem dX10_copy_25 : decode cX10_copy 25 = .ok (.goto (-22), 3) := by decide +kernel
theorem dX10_copy_28 : decode cX10_copy 28 = .ok (.return_, 1) := by decide +kernel
theorem dX10_remember_0 : decode cX10_remember 0 = .ok (.aload_n 0, 1) := by decide +kernel
theorem dX10_remember_1 : decode cX10_remember 1 = .ok (.getfield 253, 3) := by decide +kernel
theorem dX10_remember_4 : decode cX10_remember 4 = .ok (.bipush 8, 2) := by decide +kernel
theorem dX10_remember_6 : decode cX10_remember 6 = .ok (.if_icmp .ne 46, 3) := by decide +kernel
theorem dX10_remember_9 : decode cX10_remember 9 = .ok (.bipush 30, 2) := by decide +kernel
theorem dX10_remember_11 : decode cX10_remember 11 = .ok (.istore_n 1, 1) := by decide +kernel
theorem dX10_remember_12 : decode cX10_remember 12 = .ok (.iload_n 1, 1) := by decide +kernel
theorem dX10_remember_13 : decode cX10_remember 13 = .ok (.aload_n 0, 1) := by decide +kernel
theorem dX10_remember_14 : decode cX10_remember 14 = .ok (.getfield 32, 3) := by decide +kernel
theorem dX10_remember_17 : decode cX10_remember 17 = .ok (.arraylength, 1) := by decide +kernel
theorem dX10_remember_18 : decode cX10_remember 18 = .ok (.if_icmp .ge 24, 3) := by decide +kernel
theorem dX10_remember_21 : decode cX10_remember 21 = .ok (.aload_n 0, 1) := by decide +kernel
theorem dX10_remember_22 : decode cX10_remember 22 = .ok (.getfield 32, 3) := by decide +kernel
theorem dX10_remember_25 : decode cX10_remember 25 = .ok (.iload_n 1, 1) := by decide +kernel
theorem dX10_remember_26 : decode cX10_remember 26 = .ok (.bipush 30, 2) := by decide +kernel
theorem dX10_remember_28 : decode cX10_remember 28 = .ok (.isub, 1) := by decide +kernel
theorem dX10_remember_29 : decode cX10_remember 29 = .ok (.aload_n 0, 1) := by decide +kernel
theorem dX10_remember_30 : decode cX10_remember 30 = .ok (.getfield 32, 3) := by decide +kernel
theorem dX10_remember_33 : decode cX10_remember 33 = .ok (.iload_n 1, 1) := by decide +kernel
theorem dX10_remember_34 : decode cX10_remember 34 = .ok (.iaload, 1) := by decide +kernel
theorem dX10_remember_35 : decode cX10_remember 35 = .ok (.iastore, 1) := by decide +kernel
theorem dX10_remember_36 : decode cX10_remember 36 = .ok (.iinc 1 1, 3) := by decide +kernel
theorem dX10_remember_39 : decode cX10_remember 39 = .ok (.goto (-27), 3) := by decide +kernel
theorem dX10_remember_42 : decode cX10_remember 42 = .ok (.aload_n 0, 1) := by decide +kernel
theorem dX10_remember_43 : decode cX10_remember 43 = .ok (.dup, 1) := by decide +kernel
theorem dX10_remember_44 : decode cX10_remember 44 = .ok (.getfield 253, 3) := by decide +kernel
theorem dX10_remember_47 : decode cX10_remember 47 = .ok (.iconst 1, 1) := by decide +kernel
theorem dX10_remember_48 : decode cX10_remember 48 = .ok (.isub, 1) := by decide +kernel
theorem dX10_remember_49 : decode cX10_remember 49 = .ok (.putfield 253, 3) := by decide +kernel
theorem dX10_remember_52 : decode cX10_remember 52 = .ok (.aload_n 0, 1) := by decide +kernel
theorem dX10_remember_53 : decode cX10_remember 53 = .ok (.getfield 23, 3) := by decide +kernel
theorem dX10_remember_56 : decode cX10_remember 56 = .ok (.iconst 0, 1) := by decide +kernel
theorem dX10_remember_57 : decode cX10_remember 57 = .ok (.aload_n 0, 1) := by decide +kernel
theorem dX10_remember_58 : decode cX10_remember 58 = .ok (.getfield 32, 3) := by decide +kernel
theorem dX10_remember_61 : decode cX10_remember 61 = .ok (.bipush 30, 2) := by decide +kernel
theorem dX10_remember_63 : decode cX10_remember 63 = .ok (.aload_n 0, 1) := by decide +kernel
theorem dX10_remember_64 : decode cX10_remember 64 = .ok (.getfield 253, 3) := by decide +kernel
theorem dX10_remember_67 : decode cX10_remember 67 = .ok (.imul, 1) := by decide +kernel
theorem dX10_remember_68 : decode cX10_remember 68 = .ok (.invokestatic 245, 3) := by decide +kernel
theorem dX10_remember_71 : decode cX10_remember 71 = .ok (.aload_n 0, 1) := by decide +kernel
theorem dX10_remember_72 : decode cX10_remember 72 = .ok (.dup, 1) := by decide +kernel
theorem dX10_remember_73 : decode cX10_remember 73 = .ok (.getfield 253, 3) := by decide +kernel
theorem dX10_remember_76 : decode cX10_remember 76 = .ok (.iconst 1, 1) := by decide +kernel
theorem dX10_remember_77 : decode cX10_remember 77 = .ok (.iadd, 1) := by decide +kernel
theorem dX10_remember_78 : decode cX10_remember 78 = .ok (.putfield 253, 3) := by decide +kernel
theorem dX10_remember_81 : decode cX10_remember 81 = .ok (.return_, 1) := by decide +kernel
theorem dX10_root_0 : decode cX10_root 0 = .ok (.iconst 0, 1) := by decide +kernel
theorem dX10_root_1 : decode cX10_root 1 = .ok (.istore_n 1, 1) := by decide +kernel
theorem dX10_root_2 : decode cX10_root 2 = .ok (.sipush 2048, 3) := by decide +kernel
theorem dX10_root_5 : decode cX10_root 5 = .ok (.istore_n 2, 1) := by decide +kernel
theorem dX10_root_6 : decode cX10_root 6 = .ok (.iload_n 2, 1) := by decide +kernel
theorem dX10_root_7 : decode cX10_root 7 = .ok (.ifCond .le 25, 3) := by decide +kernel
theorem dX10_root_10 : decode cX10_root 10 = .ok (.iload_n 1, 1) := by decide +kernel
theorem dX10_root_11 : decode cX10_root 11 = .ok (.iload_n 2, 1) := by decide +kernel
theorem dX10_root_12 : decode cX10_root 12 = .ok (.iadd, 1) := by decide +kernel
theorem dX10_root_13 : decode cX10_root 13 = .ok (.iload_n 1, 1) := by decide +kernel
theorem dX10_root_14 : decode cX10_root 14 = .ok (.iload_n 2, 1) := by decide +kernel
theorem dX10_root_15 : decode cX10_root 15 = .ok (.iadd, 1) := by decide +kernel
theorem dX10_root_16 : decode cX10_root 16 = .ok (.imul, 1) := by decide +kernel
theorem dX10_root_17 : decode cX10_root 17 = .ok (.iload_n 0, 1) := by decide +kernel
theorem dX10_root_18 : decode cX10_root 18 = .ok (.if_icmp .gt 7, 3) := by decide +kernel
theorem dX10_root_21 : decode cX10_root 21 = .ok (.iload_n 1, 1) := by decide +kernel
theorem dX10_root_22 : decode cX10_root 22 = .ok (.iload_n 2, 1) := by decide +kernel
theorem dX10_root_23 : decode cX10_root 23 = .ok (.iadd, 1) := by decide +kernel
theorem dX10_root_24 : decode cX10_root 24 = .ok (.istore_n 1, 1) := by decide +kernel
theorem dX10_root_25 : decode cX10_root 25 = .ok (.iload_n 2, 1) := by decide +kernel
theorem dX10_root_26 : decode cX10_root 26 = .ok (.iconst 2, 1) := by decide +kernel
theorem dX10_root_27 : decode cX10_root 27 = .ok (.idiv, 1) := by decide +kernel
theorem dX10_root_28 : decode cX10_root 28 = .ok (.istore_n 2, 1) := by decide +kernel
theorem dX10_root_29 : decode cX10_root 29 = .ok (.goto (-23), 3) := by decide +kernel
theorem dX10_root_32 : decode cX10_root 32 = .ok (.iload_n 1, 1) := by decide +kernel
theorem dX10_root_33 : decode cX10_root 33 = .ok (.ireturn, 1) := by decide +kernel
theorem dX10_far_0 : decode cX10_far 0 = .ok (.aload_n 0, 1) := by decide +kernel
theorem dX10_far_1 : decode cX10_far 1 = .ok (.getfield 256, 3) := by decide +kernel
theorem dX10_far_4 : decode cX10_far 4 = .ok (.ifCond .ne 50, 3) := by decide +kernel
theorem dX10_far_7 : decode cX10_far 7 = .ok (.iconst 0, 1) := by decide +kernel
theorem dX10_far_8 : decode cX10_far 8 = .ok (.istore_n 3, 1) := by decide +kernel
theorem dX10_far_9 : decode cX10_far 9 = .ok (.iload_n 3, 1) := by decide +kernel
theorem dX10_far_10 : decode cX10_far 10 = .ok (.sipush 640, 3) := by decide +kernel
theorem dX10_far_13 : decode cX10_far 13 = .ok (.if_icmp .ge 41, 3) := by decide +kernel
theorem dX10_far_16 : decode cX10_far 16 = .ok (.aload_n 0, 1) := by decide +kernel
theorem dX10_far_17 : decode cX10_far 17 = .ok (.getfield 38, 3) := by decide +kernel
theorem dX10_far_20 : decode cX10_far 20 = .ok (.iload_n 3, 1) := by decide +kernel
theorem dX10_far_21 : decode cX10_far 21 = .ok (.sipush 10000, 3) := by decide +kernel
theorem dX10_far_24 : decode cX10_far 24 = .ok (.iload_n 3, 1) := by decide +kernel
theorem dX10_far_25 : decode cX10_far 25 = .ok (.bipush 32, 2) := by decide +kernel
theorem dX10_far_27 : decode cX10_far 27 = .ok (.irem, 1) := by decide +kernel
theorem dX10_far_28 : decode cX10_far 28 = .ok (.iload_n 3, 1) := by decide +kernel
theorem dX10_far_29 : decode cX10_far 29 = .ok (.bipush 32, 2) := by decide +kernel
theorem dX10_far_31 : decode cX10_far 31 = .ok (.irem, 1) := by decide +kernel
theorem dX10_far_32 : decode cX10_far 32 = .ok (.imul, 1) := by decide +kernel
theorem dX10_far_33 : decode cX10_far 33 = .ok (.iload_n 3, 1) := by decide +kernel
theorem dX10_far_34 : decode cX10_far 34 = .ok (.bipush 32, 2) := by decide +kernel
theorem dX10_far_36 : decode cX10_far 36 = .ok (.idiv, 1) := by decide +kernel
theorem dX10_far_37 : decode cX10_far 37 = .ok (.iload_n 3, 1) := by decide +kernel
theorem dX10_far_38 : decode cX10_far 38 = .ok (.bipush 32, 2) := by decide +kernel
theorem dX10_far_40 : decode cX10_far 40 = .ok (.idiv, 1) := by decide +kernel
theorem dX10_far_41 : decode cX10_far 41 = .ok (.imul, 1) := by decide +kernel
theorem dX10_far_42 : decode cX10_far 42 = .ok (.iadd, 1) := by decide +kernel
theorem dX10_far_43 : decode cX10_far 43 = .ok (.imul, 1) := by decide +kernel
theorem dX10_far_44 : decode cX10_far 44 = .ok (.invokestatic 259, 3) := by decide +kernel
theorem dX10_far_47 : decode cX10_far 47 = .ok (.iastore, 1) := by decide +kernel
theorem dX10_far_48 : decode cX10_far 48 = .ok (.iinc 3 1, 3) := by decide +kernel
theorem dX10_far_51 : decode cX10_far 51 = .ok (.goto (-42), 3) := by decide +kernel
theorem dX10_far_54 : decode cX10_far 54 = .ok (.aload_n 0, 1) := by decide +kernel
theorem dX10_far_55 : decode cX10_far 55 = .ok (.iconst 1, 1) := by decide +kernel
theorem dX10_far_56 : decode cX10_far 56 = .ok (.putfield 256, 3) := by decide +kernel
theorem dX10_far_59 : decode cX10_far 59 = .ok (.aload_n 0, 1) := by decide +kernel
theorem dX10_far_60 : decode cX10_far 60 = .ok (.getfield 38, 3) := by decide +kernel
theorem dX10_far_63 : decode cX10_far 63 = .ok (.bipush 32, 2) := by decide +kernel
theorem dX10_far_65 : decode cX10_far 65 = .ok (.iload_n 2, 1) := by decide +kernel
theorem dX10_far_66 : decode cX10_far 66 = .ok (.invokestatic 262, 3) := by decide +kernel
theorem dX10_far_69 : decode cX10_far 69 = .ok (.imul, 1) := by decide +kernel
theorem dX10_far_70 : decode cX10_far 70 = .ok (.iload_n 1, 1) := by decide +kernel
theorem dX10_far_71 : decode cX10_far 71 = .ok (.invokestatic 262, 3) := by decide +kernel
theorem dX10_far_74 : decode cX10_far 74 = .ok (.iadd, 1) := by decide +kernel
theorem dX10_far_75 : decode cX10_far 75 = .ok (.iaload, 1) := by decide +kernel
theorem dX10_far_76 : decode cX10_far 76 = .ok (.ireturn, 1) := by decide +kernel
theorem dX10_columnOf_0 : decode cX10_columnOf 0 = .ok (.iconst 0, 1) := by decide +kernel
theorem dX10_columnOf_1 : decode cX10_columnOf 1 = .ok (.aload_n 0, 1) := by decide +kernel
theorem dX10_columnOf_2 : decode cX10_columnOf 2 = .ok (.getfield 17, 3) := by decide +kernel
theorem dX10_columnOf_5 : decode cX10_columnOf 5 = .ok (.iconst 0, 1) := by decide +kernel
theorem dX10_columnOf_6 : decode cX10_columnOf 6 = .ok (.iaload, 1) := by decide +kernel
theorem dX10_columnOf_7 : decode cX10_columnOf 7 = .ok (.iconst 1, 1) := by decide +kernel
theorem dX10_columnOf_8 : decode cX10_columnOf 8 = .ok (.isub, 1) := by decide +kernel
theorem dX10_columnOf_9 : decode cX10_columnOf 9 = .ok (.aload_n 1, 1) := by decide +kernel
theorem dX10_columnOf_10 : decode cX10_columnOf 10 = .ok (.bipush 14, 2) := by decide +kernel
theorem dX10_columnOf_12 : decode cX10_columnOf 12 = .ok (.iload_n 2, 1) := by decide +kernel
theorem dX10_columnOf_13 : decode cX10_columnOf 13 = .ok (.iadd, 1) := by decide +kernel
theorem dX10_columnOf_14 : decode cX10_columnOf 14 = .ok (.iaload, 1) := by decide +kernel
theorem dX10_columnOf_15 : decode cX10_columnOf 15 = .ok (.aload_n 1, 1) := by decide +kernel
theorem dX10_columnOf_16 : decode cX10_columnOf 16 = .ok (.bipush 22, 2) := by decide +kernel
theorem dX10_columnOf_18 : decode cX10_columnOf 18 = .ok (.iload_n 2, 1) := by decide +kernel
theorem dX10_columnOf_19 : decode cX10_columnOf 19 = .ok (.iadd, 1) := by decide +kernel
theorem dX10_columnOf_20 : decode cX10_columnOf 20 = .ok (.iaload, 1) := by decide +kernel
theorem dX10_columnOf_21 : decode cX10_columnOf 21 = .ok (.iload_n 3, 1) := by decide +kernel
theorem dX10_columnOf_22 : decode cX10_columnOf 22 = .ok (.imul, 1) := by decide +kernel
theorem dX10_columnOf_23 : decode cX10_columnOf 23 = .ok (.bipush 100, 2) := by decide +kernel
theorem dX10_columnOf_25 : decode cX10_columnOf 25 = .ok (.idiv, 1) := by decide +kernel
theorem dX10_columnOf_26 : decode cX10_columnOf 26 = .ok (.iadd, 1) := by decide +kernel
theorem dX10_columnOf_27 : decode cX10_columnOf 27 = .ok (.invokestatic 267, 3) := by decide +kernel
theorem dX10_columnOf_30 : decode cX10_columnOf 30 = .ok (.invokestatic 270, 3) := by decide +kernel
theorem dX10_columnOf_33 : decode cX10_columnOf 33 = .ok (.ireturn, 1) := by decide +kernel
theorem dX10_rowOf_0 : decode cX10_rowOf 0 = .ok (.iconst 0, 1) := by decide +kernel
theorem dX10_rowOf_1 : decode cX10_rowOf 1 = .ok (.aload_n 0, 1) := by decide +kernel
theorem dX10_rowOf_2 : decode cX10_rowOf 2 = .ok (.getfield 17, 3) := by decide +kernel
theorem dX10_rowOf_5 : decode cX10_rowOf 5 = .ok (.iconst 1, 1) := by decide +kernel
theorem dX10_rowOf_6 : decode cX10_rowOf 6 = .ok (.iaload, 1) := by decide +kernel
theorem dX10_rowOf_7 : decode cX10_rowOf 7 = .ok (.iconst 1, 1) := by decide +kernel
theorem dX10_rowOf_8 : decode cX10_rowOf 8 = .ok (.isub, 1) := by decide +kernel
theorem dX10_rowOf_9 : decode cX10_rowOf 9 = .ok (.aload_n 1, 1) := by decide +kernel
theorem dX10_rowOf_10 : decode cX10_rowOf 10 = .ok (.bipush 18, 2) := by decide +kernel
theorem dX10_rowOf_12 : decode cX10_rowOf 12 = .ok (.iload_n 2, 1) := by decide +kernel
theorem dX10_rowOf_13 : decode cX10_rowOf 13 = .ok (.iadd, 1) := by decide +kernel
theorem dX10_rowOf_14 : decode cX10_rowOf 14 = .ok (.iaload, 1) := by decide +kernel
theorem dX10_rowOf_15 : decode cX10_rowOf 15 = .ok (.aload_n 1, 1) := by decide +kernel
theorem dX10_rowOf_16 : decode cX10_rowOf 16 = .ok (.bipush 26, 2) := by decide +kernel
theorem dX10_rowOf_18 : decode cX10_rowOf 18 = .ok (.iload_n 2, 1) := by decide +kernel
theorem dX10_rowOf_19 : decode cX10_rowOf 19 = .ok (.iadd, 1) := by decide +kernel
theorem dX10_rowOf_20 : decode cX10_rowOf 20 = .ok (.iaload, 1) := by decide +kernel
theorem dX10_rowOf_21 : decode cX10_rowOf 21 = .ok (.iload_n 3, 1) := by decide +kernel
theorem dX10_rowOf_22 : decode cX10_rowOf 22 = .ok (.imul, 1) := by decide +kernel
theorem dX10_rowOf_23 : decode cX10_rowOf 23 = .ok (.bipush 100, 2) := by decide +kernel
theorem dX10_rowOf_25 : decode cX10_rowOf 25 = .ok (.idiv, 1) := by decide +kernel
theorem dX10_rowOf_26 : decode cX10_rowOf 26 = .ok (.iadd, 1) := by decide +kernel
theorem dX10_rowOf_27 : decode cX10_rowOf 27 = .ok (.invokestatic 267, 3) := by decide +kernel
theorem dX10_rowOf_30 : decode cX10_rowOf 30 = .ok (.invokestatic 270, 3) := by decide +kernel
theorem dX10_rowOf_33 : decode cX10_rowOf 33 = .ok (.ireturn, 1) := by decide +kernel
theorem dX10_hasWall_0 : decode cX10_hasWall 0 = .ok (.aload_n 0, 1) := by decide +kernel
theorem dX10_hasWall_1 : decode cX10_hasWall 1 = .ok (.getfield 17, 3) := by decide +kernel
theorem dX10_hasWall_4 : decode cX10_hasWall 4 = .ok (.iconst 3, 1) := by decide +kernel
theorem dX10_hasWall_5 : decode cX10_hasWall 5 = .ok (.iaload, 1) := by decide +kernel
theorem dX10_hasWall_6 : decode cX10_hasWall 6 = .ok (.iconst (-1), 1) := by decide +kernel
theorem dX10_hasWall_7 : decode cX10_hasWall 7 = .ok (.if_icmp .eq 7, 3) := by decide +kernel
theorem dX10_hasWall_10 : decode cX10_hasWall 10 = .ok (.iconst 1, 1) := by decide +kernel
theorem dX10_hasWall_11 : decode cX10_hasWall 11 = .ok (.goto 4, 3) := by decide +kernel
theorem dX10_hasWall_14 : decode cX10_hasWall 14 = .ok (.iconst 0, 1) := by decide +kernel
theorem dX10_hasWall_15 : decode cX10_hasWall 15 = .ok (.ireturn, 1) := by decide +kernel
theorem dX10_isOpenIn_0 : decode cX10_isOpenIn 0 = .ok (.aload_n 1, 1) := by decide +kernel
theorem dX10_isOpenIn_1 : decode cX10_isOpenIn 1 = .ok (.iconst 1, 1) := by decide +kernel
theorem dX10_isOpenIn_2 : decode cX10_isOpenIn 2 = .ok (.iaload, 1) := by decide +kernel
theorem dX10_isOpenIn_3 : decode cX10_isOpenIn 3 = .ok (.iload_n 2, 1) := by decide +kernel
theorem dX10_isOpenIn_4 : decode cX10_isOpenIn 4 = .ok (.ishr, 1) := by decide +kernel
theorem dX10_isOpenIn_5 : decode cX10_isOpenIn 5 = .ok (.iconst 1, 1) := by decide +kernel
theorem dX10_isOpenIn_6 : decode cX10_isOpenIn 6 = .ok (.iand, 1) := by decide +kernel
theorem dX10_isOpenIn_7 : decode cX10_isOpenIn 7 = .ok (.iconst 1, 1) := by decide +kernel
theorem dX10_isOpenIn_8 : decode cX10_isOpenIn 8 = .ok (.if_icmp .ne 7, 3) := by decide +kernel
theorem dX10_isOpenIn_11 : decode cX10_isOpenIn 11 = .ok (.iconst 1, 1) := by decide +kernel
theorem dX10_isOpenIn_12 : decode cX10_isOpenIn 12 = .ok (.goto 4, 3) := by decide +kernel
theorem dX10_isOpenIn_15 : decode cX10_isOpenIn 15 = .ok (.iconst 0, 1) := by decide +kernel
theorem dX10_isOpenIn_16 : decode cX10_isOpenIn 16 = .ok (.ireturn, 1) := by decide +kernel
theorem dX10_isCut_0 : decode cX10_isCut 0 = .ok (.aload_n 0, 1) := by decide +kernel
theorem dX10_isCut_1 : decode cX10_isCut 1 = .ok (.invokevirtual 273, 3) := by decide +kernel
theorem dX10_isCut_4 : decode cX10_isCut 4 = .ok (.ifCond .eq 47, 3) := by decide +kernel
theorem dX10_isCut_7 : decode cX10_isCut 7 = .ok (.iload_n 1, 1) := by decide +kernel
theorem dX10_isCut_8 : decode cX10_isCut 8 = .ok (.aload_n 0, 1) := by decide +kernel
theorem dX10_isCut_9 : decode cX10_isCut 9 = .ok (.getfield 17, 3) := by decide +kernel
theorem dX10_isCut_12 : decode cX10_isCut 12 = .ok (.iconst 3, 1) := by decide +kernel
theorem dX10_isCut_13 : decode cX10_isCut 13 = .ok (.iaload, 1) := by decide +kernel
theorem dX10_isCut_14 : decode cX10_isCut 14 = .ok (.if_icmp .ge 13, 3) := by decide +kernel
theorem dX10_isCut_17 : decode cX10_isCut 17 = .ok (.iload_n 2, 1) := by decide +kernel
theorem dX10_isCut_18 : decode cX10_isCut 18 = .ok (.aload_n 0, 1) := by decide +kernel
theorem dX10_isCut_19 : decode cX10_isCut 19 = .ok (.getfield 17, 3) := by decide +kernel
theorem dX10_isCut_22 : decode cX10_isCut 22 = .ok (.iconst 3, 1) := by decide +kernel
theorem dX10_isCut_23 : decode cX10_isCut 23 = .ok (.iaload, 1) := by decide +kernel
theorem dX10_isCut_24 : decode cX10_isCut 24 = .ok (.if_icmp .gt 23, 3) := by decide +kernel
theorem dX10_isCut_27 : decode cX10_isCut 27 = .ok (.iload_n 1, 1) := by decide +kernel
theorem dX10_isCut_28 : decode cX10_isCut 28 = .ok (.aload_n 0, 1) := by decide +kernel
theorem dX10_isCut_29 : decode cX10_isCut 29 = .ok (.getfield 17, 3) := by decide +kernel
theorem dX10_isCut_32 : decode cX10_isCut 32 = .ok (.iconst 3, 1) := by decide +kernel
theorem dX10_isCut_33 : decode cX10_isCut 33 = .ok (.iaload, 1) := by decide +kernel
theorem dX10_isCut_34 : decode cX10_isCut 34 = .ok (.if_icmp .le 17, 3) := by decide +kernel
theorem dX10_isCut_37 : decode cX10_isCut 37 = .ok (.iload_n 2, 1) := by decide +kernel
theorem dX10_isCut_38 : decode cX10_isCut 38 = .ok (.aload_n 0, 1) := by decide +kernel
theorem dX10_isCut_39 : decode cX10_isCut 39 = .ok (.getfield 17, 3) := by decide +kernel
theorem dX10_isCut_42 : decode cX10_isCut 42 = .ok (.iconst 3, 1) := by decide +kernel
theorem dX10_isCut_43 : decode cX10_isCut 43 = .ok (.iaload, 1) := by decide +kernel
theorem dX10_isCut_44 : decode cX10_isCut 44 = .ok (.if_icmp .ge 7, 3) := by decide +kernel
theorem dX10_isCut_47 : decode cX10_isCut 47 = .ok (.iconst 1, 1) := by decide +kernel
theorem dX10_isCut_48 : decode cX10_isCut 48 = .ok (.goto 4, 3) := by decide +kernel
theorem dX10_isCut_51 : decode cX10_isCut 51 = .ok (.iconst 0, 1) := by decide +kernel
theorem dX10_isCut_52 : decode cX10_isCut 52 = .ok (.ireturn, 1) := by decide +kernel
theorem dX10_isShut_0 : decode cX10_isShut 0 = .ok (.aload_n 0, 1) := by decide +kernel
theorem dX10_isShut_1 : decode cX10_isShut 1 = .ok (.invokevirtual 273, 3) := by decide +kernel
theorem dX10_isShut_4 : decode cX10_isShut 4 = .ok (.ifCond .eq 26, 3) := by decide +kernel
theorem dX10_isShut_7 : decode cX10_isShut 7 = .ok (.iload_n 2, 1) := by decide +kernel
theorem dX10_isShut_8 : decode cX10_isShut 8 = .ok (.aload_n 0, 1) := by decide +kernel
theorem dX10_isShut_9 : decode cX10_isShut 9 = .ok (.getfield 17, 3) := by decide +kernel
theorem dX10_isShut_12 : decode cX10_isShut 12 = .ok (.iconst 3, 1) := by decide +kernel
theorem dX10_isShut_13 : decode cX10_isShut 13 = .ok (.iaload, 1) := by decide +kernel
theorem dX10_isShut_14 : decode cX10_isShut 14 = .ok (.if_icmp .ne 16, 3) := by decide +kernel
theorem dX10_isShut_17 : decode cX10_isShut 17 = .ok (.aload_n 0, 1) := by decide +kernel
theorem dX10_isShut_18 : decode cX10_isShut 18 = .ok (.aload_n 1, 1) := by decide +kernel
theorem dX10_isShut_19 : decode cX10_isShut 19 = .ok (.iload_n 3, 1) := by decide +kernel
theorem dX10_isShut_20 : decode cX10_isShut 20 = .ok (.invokevirtual 277, 3) := by decide +kernel
theorem dX10_isShut_23 : decode cX10_isShut 23 = .ok (.ifCond .ne 7, 3) := by decide +kernel
theorem dX10_isShut_26 : decode cX10_isShut 26 = .ok (.iconst 1, 1) := by decide +kernel
theorem dX10_isShut_27 : decode cX10_isShut 27 = .ok (.goto 4, 3) := by decide +kernel
theorem dX10_isShut_30 : decode cX10_isShut 30 = .ok (.iconst 0, 1) := by decide +kernel
theorem dX10_isShut_31 : decode cX10_isShut 31 = .ok (.ireturn, 1) := by decide +kernel
theorem dX10_through_0 : decode cX10_through 0 = .ok (.aload_n 0, 1) := by decide +kernel
theorem dX10_through_1 : decode cX10_through 1 = .ok (.aload_n 0, 1) := by decide +kernel
theorem dX10_through_2 : decode cX10_through 2 = .ok (.getfield 17, 3) := by decide +kernel
theorem dX10_through_5 : decode cX10_through 5 = .ok (.iconst 3, 1) := by decide +kernel
theorem dX10_through_6 : decode cX10_through 6 = .ok (.iaload, 1) := by decide +kernel
theorem dX10_through_7 : decode cX10_through 7 = .ok (.iload_n 1, 1) := by decide +kernel
theorem dX10_through_8 : decode cX10_through 8 = .ok (.isub, 1) := by decide +kernel
theorem dX10_through_9 : decode cX10_through 9 = .ok (.iload 5, 2) := by decide +kernel
theorem dX10_through_11 : decode cX10_through 11 = .ok (.iload_n 2, 1) := by decide +kernel
theorem dX10_through_12 : decode cX10_through 12 = .ok (.isub, 1) := by decide +kernel
theorem dX10_through_13 : decode cX10_through 13 = .ok (.invokevirtual 281, 3) := by decide +kernel
theorem dX10_through_16 : decode cX10_through 16 = .ok (.aload_n 0, 1) := by decide +kernel
theorem dX10_through_17 : decode cX10_through 17 = .ok (.iload_n 3, 1) := by decide +kernel
theorem dX10_through_18 : decode cX10_through 18 = .ok (.aload_n 0, 1) := by decide +kernel
theorem dX10_through_19 : decode cX10_through 19 = .ok (.getfield 17, 3) := by decide +kernel
theorem dX10_through_22 : decode cX10_through 22 = .ok (.iconst 3, 1) := by decide +kernel
theorem dX10_through_23 : decode cX10_through 23 = .ok (.iaload, 1) := by decide +kernel
theorem dX10_through_24 : decode cX10_through 24 = .ok (.isub, 1) := by decide +kernel
theorem dX10_through_25 : decode cX10_through 25 = .ok (.iload 4, 2) := by decide +kernel
theorem dX10_through_27 : decode cX10_through 27 = .ok (.iload 5, 2) := by decide +kernel
theorem dX10_through_29 : decode cX10_through 29 = .ok (.isub, 1) := by decide +kernel
theorem dX10_through_30 : decode cX10_through 30 = .ok (.invokevirtual 281, 3) := by decide +kernel
theorem dX10_through_33 : decode cX10_through 33 = .ok (.iadd, 1) := by decide +kernel
theorem dX10_through_34 : decode cX10_through 34 = .ok (.ireturn, 1) := by decide +kernel
theorem dX10_shortestIn_0 : decode cX10_shortestIn 0 = .ok (.aload_n 0, 1) := by decide +kernel
theorem dX10_shortestIn_1 : decode cX10_shortestIn 1 = .ok (.aload_n 1, 1) := by decide +kernel
theorem dX10_shortestIn_2 : decode cX10_shortestIn 2 = .ok (.iload_n 2, 1) := by decide +kernel
theorem dX10_shortestIn_3 : decode cX10_shortestIn 3 = .ok (.iload 5, 2) := by decide +kernel
theorem dX10_shortestIn_5 : decode cX10_shortestIn 5 = .ok (.invokevirtual 284, 3) := by decide +kernel
theorem dX10_shortestIn_8 : decode cX10_shortestIn 8 = .ok (.istore 6, 2) := by decide +kernel
theorem dX10_shortestIn_10 : decode cX10_shortestIn 10 = .ok (.aload_n 0, 1) := by decide +kernel
theorem dX10_shortestIn_11 : decode cX10_shortestIn 11 = .ok (.aload_n 1, 1) := by decide +kernel
theorem dX10_shortestIn_12 : decode cX10_shortestIn 12 = .ok (.iload_n 2, 1) := by decide +kernel
theorem dX10_shortestIn_13 : decode cX10_shortestIn 13 = .ok (.iload 5, 2) := by decide +kernel
theorem dX10_shortestIn_15 : decode cX10_shortestIn 15 = .ok (.invokevirtual 288, 3) := by decide +kernel
theorem dX10_shortestIn_18 : decode cX10_shortestIn 18 = .ok (.istore 7, 2) := by decide +kernel
theorem dX10_shortestIn_20 : decode cX10_shortestIn 20 = .ok (.aload_n 0, 1) := by decide +kernel
theorem dX10_shortestIn_21 : decode cX10_shortestIn 21 = .ok (.aload_n 1, 1) := by decide +kernel
theorem dX10_shortestIn_22 : decode cX10_shortestIn 22 = .ok (.iload_n 3, 1) := by decide +kernel
theorem dX10_shortestIn_23 : decode cX10_shortestIn 23 = .ok (.iload 4, 2) := by decide +kernel
theorem dX10_shortestIn_25 : decode cX10_shortestIn 25 = .ok (.invokevirtual 291, 3) := by decide +kernel
theorem dX10_shortestIn_28 : decode cX10_shortestIn 28 = .ok (.ifCond .eq 5, 3) := by decide +kernel
theorem dX10_shortestIn_31 : decode cX10_shortestIn 31 = .ok (.iconst (-1), 1) := by decide +kernel
theorem dX10_shortestIn_32 : decode cX10_shortestIn 32 = .ok (.ireturn, 1) := by decide +kernel
theorem dX10_shortestIn_33 : decode cX10_shortestIn 33 = .ok (.aload_n 0, 1) := by decide +kernel
theorem dX10_shortestIn_34 : decode cX10_shortestIn 34 = .ok (.iload 6, 2) := by decide +kernel
theorem dX10_shortestIn_36 : decode cX10_shortestIn 36 = .ok (.iload_n 3, 1) := by decide +kernel
theorem dX10_shortestIn_37 : decode cX10_shortestIn 37 = .ok (.invokevirtual 295, 3) := by decide +kernel
theorem dX10_shortestIn_40 : decode cX10_shortestIn 40 = .ok (.ifCond .ne 17, 3) := by decide +kernel
theorem dX10_shortestIn_43 : decode cX10_shortestIn 43 = .ok (.aload_n 0, 1) := by decide +kernel
theorem dX10_shortestIn_44 : decode cX10_shortestIn 44 = .ok (.iload_n 3, 1) := by decide +kernel
theorem dX10_shortestIn_45 : decode cX10_shortestIn 45 = .ok (.iload 6, 2) := by decide +kernel
theorem dX10_shortestIn_47 : decode cX10_shortestIn 47 = .ok (.isub, 1) := by decide +kernel
theorem dX10_shortestIn_48 : decode cX10_shortestIn 48 = .ok (.iload 4, 2) := by decide +kernel
theorem dX10_shortestIn_50 : decode cX10_shortestIn 50 = .ok (.iload 7, 2) := by decide +kernel
theorem dX10_shortestIn_52 : decode cX10_shortestIn 52 = .ok (.isub, 1) := by decide +kernel
theorem dX10_shortestIn_53 : decode cX10_shortestIn 53 = .ok (.invokevirtual 281, 3) := by decide +kernel
theorem dX10_shortestIn_56 : decode cX10_shortestIn 56 = .ok (.ireturn, 1) := by decide +kernel
theorem dX10_shortestIn_57 : decode cX10_shortestIn 57 = .ok (.iconst (-1), 1) := by decide +kernel
theorem dX10_shortestIn_58 : decode cX10_shortestIn 58 = .ok (.istore 8, 2) := by decide +kernel
theorem dX10_shortestIn_60 : decode cX10_shortestIn 60 = .ok (.iconst 0, 1) := by decide +kernel
theorem dX10_shortestIn_61 : decode cX10_shortestIn 61 = .ok (.istore 9, 2) := by decide +kernel
theorem dX10_shortestIn_63 : decode cX10_shortestIn 63 = .ok (.iload 9, 2) := by decide +kernel
theorem dX10_shortestIn_65 : decode cX10_shortestIn 65 = .ok (.aload_n 0, 1) := by decide +kernel
theorem dX10_shortestIn_66 : decode cX10_shortestIn 66 = .ok (.getfield 17, 3) := by decide +kernel
theorem dX10_shortestIn_69 : decode cX10_shortestIn 69 = .ok (.iconst 1, 1) := by decide +kernel
theorem dX10_shortestIn_70 : decode cX10_shortestIn 70 = .ok (.iaload, 1) := by decide +kernel
theorem dX10_shortestIn_71 : decode cX10_shortestIn 71 = .ok (.if_icmp .ge 51, 3) := by decide +kernel
theorem dX10_shortestIn_74 : decode cX10_shortestIn 74 = .ok (.aload_n 0, 1) := by decide +kernel
theorem dX10_shortestIn_75 : decode cX10_shortestIn 75 = .ok (.iload 6, 2) := by decide +kernel
theorem dX10_shortestIn_77 : decode cX10_shortestIn 77 = .ok (.iload 7, 2) := by decide +kernel
theorem dX10_shortestIn_79 : decode cX10_shortestIn 79 = .ok (.iload_n 3, 1) := by decide +kernel
theorem dX10_shortestIn_80 : decode cX10_shortestIn 80 = .ok (.iload 4, 2) := by decide +kernel
theorem dX10_shortestIn_82 : decode cX10_shortestIn 82 = .ok (.iload 9, 2) := by decide +kernel
theorem dX10_shortestIn_84 : decode cX10_shortestIn 84 = .ok (.invokevirtual 299, 3) := by decide +kernel
theorem dX10_shortestIn_87 : decode cX10_shortestIn 87 = .ok (.istore 10, 2) := by decide +kernel
theorem dX10_shortestIn_89 : decode cX10_shortestIn 89 = .ok (.aload_n 0, 1) := by decide +kernel
theorem dX10_shortestIn_90 : decode cX10_shortestIn 90 = .ok (.aload_n 1, 1) := by decide +kernel
theorem dX10_shortestIn_91 : decode cX10_shortestIn 91 = .ok (.iload 9, 2) := by decide +kernel
theorem dX10_shortestIn_93 : decode cX10_shortestIn 93 = .ok (.invokevirtual 277, 3) := by decide +kernel
theorem dX10_shortestIn_96 : decode cX10_shortestIn 96 = .ok (.ifCond .eq 20, 3) := by decide +kernel
theorem dX10_shortestIn_99 : decode cX10_shortestIn 99 = .ok (.iload 8, 2) := by decide +kernel
theorem dX10_shortestIn_101 : decode cX10_shortestIn 101 = .ok (.iconst (-1), 1) := by decide +kernel
theorem dX10_shortestIn_102 : decode cX10_shortestIn 102 = .ok (.if_icmp .eq 10, 3) := by decide +kernel
theorem dX10_shortestIn_105 : decode cX10_shortestIn 105 = .ok (.iload 10, 2) := by decide +kernel
theorem dX10_shortestIn_107 : decode cX10_shortestIn 107 = .ok (.iload 8, 2) := by decide +kernel
theorem dX10_shortestIn_109 : decode cX10_shortestIn 109 = .ok (.if_icmp .ge 7, 3) := by decide +kernel
theorem dX10_shortestIn_112 : decode cX10_shortestIn 112 = .ok (.iload 10, 2) := by decide +kernel
theorem dX10_shortestIn_114 : decode cX10_shortestIn 114 = .ok (.istore 8, 2) := by decide +kernel
theorem dX10_shortestIn_116 : decode cX10_shortestIn 116 = .ok (.iinc 9 1, 3) := by decide +kernel
theorem dX10_shortestIn_119 : decode cX10_shortestIn 119 = .ok (.goto (-56), 3) := by decide +kernel
theorem dX10_shortestIn_122 : decode cX10_shortestIn 122 = .ok (.iload 8, 2) := by decide +kernel
theorem dX10_shortestIn_124 : decode cX10_shortestIn 124 = .ok (.ireturn, 1) := by decide +kernel
theorem dX10_isCutOff_0 : decode cX10_isCutOff 0 = .ok (.iconst 0, 1) := by decide +kernel
theorem dX10_isCutOff_1 : decode cX10_isCutOff 1 = .ok (.istore_n 3, 1) := by decide +kernel
theorem dX10_isCutOff_2 : decode cX10_isCutOff 2 = .ok (.iload_n 3, 1) := by decide +kernel
theorem dX10_isCutOff_3 : decode cX10_isCutOff 3 = .ok (.aload_n 0, 1) := by decide +kernel
theorem dX10_isCutOff_4 : decode cX10_isCutOff 4 = .ok (.getfield 17, 3) := by decide +kernel
theorem dX10_isCutOff_7 : decode cX10_isCutOff 7 = .ok (.bipush 41, 2) := by decide +kernel
theorem dX10_isCutOff_9 : decode cX10_isCutOff 9 = .ok (.iaload, 1) := by decide +kernel
theorem dX10_isCutOff_10 : decode cX10_isCutOff 10 = .ok (.if_icmp .ge 55, 3) := by decide +kernel
theorem dX10_isCutOff_13 : decode cX10_isCutOff 13 = .ok (.bipush 42, 2) := by decide +kernel
theorem dX10_isCutOff_15 : decode cX10_isCutOff 15 = .ok (.iconst 3, 1) := by decide +kernel
theorem dX10_isCutOff_16 : decode cX10_isCutOff 16 = .ok (.iload_n 3, 1) := by decide +kernel
theorem dX10_isCutOff_17 : decode cX10_isCutOff 17 = .ok (.imul, 1) := by decide +kernel
theorem dX10_isCutOff_18 : decode cX10_isCutOff 18 = .ok (.iadd, 1) := by decide +kernel
theorem dX10_isCutOff_19 : decode cX10_isCutOff 19 = .ok (.istore 4, 2) := by decide +kernel
theorem dX10_isCutOff_21 : decode cX10_isCutOff 21 = .ok (.aload_n 0, 1) := by decide +kernel
theorem dX10_isCutOff_22 : decode cX10_isCutOff 22 = .ok (.getfield 17, 3) := by decide +kernel
theorem dX10_isCutOff_25 : decode cX10_isCutOff 25 = .ok (.iload 4, 2) := by decide +kernel
theorem dX10_isCutOff_27 : decode cX10_isCutOff 27 = .ok (.iaload, 1) := by decide +kernel
theorem dX10_isCutOff_28 : decode cX10_isCutOff 28 = .ok (.iload_n 1, 1) := by decide +kernel
theorem dX10_isCutOff_29 : decode cX10_isCutOff 29 = .ok (.if_icmp .ne 30, 3) := by decide +kernel
theorem dX10_isCutOff_32 : decode cX10_isCutOff 32 = .ok (.iload_n 2, 1) := by decide +kernel
theorem dX10_isCutOff_33 : decode cX10_isCutOff 33 = .ok (.aload_n 0, 1) := by decide +kernel
theorem dX10_isCutOff_34 : decode cX10_isCutOff 34 = .ok (.getfield 17, 3) := by decide +kernel
theorem dX10_isCutOff_37 : decode cX10_isCutOff 37 = .ok (.iload 4, 2) := by decide +kernel
theorem dX10_isCutOff_39 : decode cX10_isCutOff 39 = .ok (.iconst 1, 1) := by decide +kernel
theorem dX10_isCutOff_40 : decode cX10_isCutOff 40 = .ok (.iadd, 1) := by decide +kernel
theorem dX10_isCutOff_41 : decode cX10_isCutOff 41 = .ok (.iaload, 1) := by decide +kernel
theorem dX10_isCutOff_42 : decode cX10_isCutOff 42 = .ok (.aload_n 0, 1) := by decide +kernel
theorem dX10_isCutOff_43 : decode cX10_isCutOff 43 = .ok (.getfield 17, 3) := by decide +kernel
theorem dX10_isCutOff_46 : decode cX10_isCutOff 46 = .ok (.iload 4, 2) := by decide +kernel
theorem dX10_isCutOff_48 : decode cX10_isCutOff 48 = .ok (.iconst 2, 1) := by decide +kernel
theorem dX10_isCutOff_49 : decode cX10_isCutOff 49 = .ok (.iadd, 1) := by decide +kernel
theorem dX10_isCutOff_50 : decode cX10_isCutOff 50 = .ok (.iaload, 1) := by decide +kernel
theorem dX10_isCutOff_51 : decode cX10_isCutOff 51 = .ok (.invokestatic 93, 3) := by decide +kernel
theorem dX10_isCutOff_54 : decode cX10_isCutOff 54 = .ok (.ifCond .eq 5, 3) := by decide +kernel
theorem dX10_isCutOff_57 : decode cX10_isCutOff 57 = .ok (.iconst 1, 1) := by decide +kernel
theorem dX10_isCutOff_58 : decode cX10_isCutOff 58 = .ok (.ireturn, 1) := by decide +kernel
theorem dX10_isCutOff_59 : decode cX10_isCutOff 59 = .ok (.iinc 3 1, 3) := by decide +kernel
theorem dX10_isCutOff_62 : decode cX10_isCutOff 62 = .ok (.goto (-60), 3) := by decide +kernel
theorem dX10_isCutOff_65 : decode cX10_isCutOff 65 = .ok (.iconst 0, 1) := by decide +kernel
theorem dX10_isCutOff_66 : decode cX10_isCutOff 66 = .ok (.ireturn, 1) := by decide +kernel
theorem dX10_emits_0 : decode cX10_emits 0 = .ok (.aload_n 0, 1) := by decide +kernel
theorem dX10_emits_1 : decode cX10_emits 1 = .ok (.getfield 17, 3) := by decide +kernel
theorem dX10_emits_4 : decode cX10_emits 4 = .ok (.bipush 13, 2) := by decide +kernel
theorem dX10_emits_6 : decode cX10_emits 6 = .ok (.iload_n 2, 1) := by decide +kernel
theorem dX10_emits_7 : decode cX10_emits 7 = .ok (.iadd, 1) := by decide +kernel
theorem dX10_emits_8 : decode cX10_emits 8 = .ok (.iaload, 1) := by decide +kernel
theorem dX10_emits_9 : decode cX10_emits 9 = .ok (.istore 4, 2) := by decide +kernel
theorem dX10_emits_11 : decode cX10_emits 11 = .ok (.iload_n 3, 1) := by decide +kernel
theorem dX10_emits_12 : decode cX10_emits 12 = .ok (.iload 4, 2) := by decide +kernel
theorem dX10_emits_14 : decode cX10_emits 14 = .ok (.if_icmp .lt 25, 3) := by decide +kernel
theorem dX10_emits_17 : decode cX10_emits 17 = .ok (.iload_n 3, 1) := by decide +kernel
theorem dX10_emits_18 : decode cX10_emits 18 = .ok (.aload_n 0, 1) := by decide +kernel
theorem dX10_emits_19 : decode cX10_emits 19 = .ok (.getfield 17, 3) := by decide +kernel
theorem dX10_emits_22 : decode cX10_emits 22 = .ok (.bipush 17, 2) := by decide +kernel
theorem dX10_emits_24 : decode cX10_emits 24 = .ok (.iload_n 2, 1) := by decide +kernel
theorem dX10_emits_25 : decode cX10_emits 25 = .ok (.iadd, 1) := by decide +kernel
theorem dX10_emits_26 : decode cX10_emits 26 = .ok (.iaload, 1) := by decide +kernel
theorem dX10_emits_27 : decode cX10_emits 27 = .ok (.if_icmp .gt 12, 3) := by decide +kernel
theorem dX10_emits_30 : decode cX10_emits 30 = .ok (.aload_n 0, 1) := by decide +kernel
theorem dX10_emits_31 : decode cX10_emits 31 = .ok (.iload_n 2, 1) := by decide +kernel
theorem dX10_emits_32 : decode cX10_emits 32 = .ok (.iload_n 3, 1) := by decide +kernel
theorem dX10_emits_33 : decode cX10_emits 33 = .ok (.invokevirtual 303, 3) := by decide +kernel
theorem dX10_emits_36 : decode cX10_emits 36 = .ok (.ifCond .eq 5, 3) := by decide +kernel
theorem dX10_emits_39 : decode cX10_emits 39 = .ok (.iconst 0, 1) := by decide +kernel
theorem dX10_emits_40 : decode cX10_emits 40 = .ok (.ireturn, 1) := by decide +kernel
theorem dX10_emits_41 : decode cX10_emits 41 = .ok (.aload_n 1, 1) := by decide +kernel
theorem dX10_emits_42 : decode cX10_emits 42 = .ok (.bipush 6, 2) := by decide +kernel
theorem dX10_emits_44 : decode cX10_emits 44 = .ok (.iload_n 2, 1) := by decide +kernel
theorem dX10_emits_45 : decode cX10_emits 45 = .ok (.iadd, 1) := by decide +kernel
theorem dX10_emits_46 : decode cX10_emits 46 = .ok (.iaload, 1) := by decide +kernel
theorem dX10_emits_47 : decode cX10_emits 47 = .ok (.istore 5, 2) := by decide +kernel
theorem dX10_emits_49 : decode cX10_emits 49 = .ok (.aload_n 0, 1) := by decide +kernel
theorem dX10_emits_50 : decode cX10_emits 50 = .ok (.getfield 17, 3) := by decide +kernel
theorem dX10_emits_53 : decode cX10_emits 53 = .ok (.bipush 21, 2) := by decide +kernel
theorem dX10_emits_55 : decode cX10_emits 55 = .ok (.iload_n 2, 1) := by decide +kernel
theorem dX10_emits_56 : decode cX10_emits 56 = .ok (.iadd, 1) := by decide +kernel
theorem dX10_emits_57 : decode cX10_emits 57 = .ok (.iaload, 1) := by decide +kernel
theorem dX10_emits_58 : decode cX10_emits 58 = .ok (.lookupswitch 101 #[(1, 26), (2, 69)], 26) := by decide +kernel
theorem dX10_emits_84 : decode cX10_emits 84 = .ok (.iload_n 3, 1) := by decide +kernel
theorem dX10_emits_85 : decode cX10_emits 85 = .ok (.iload 4, 2) := by decide +kernel
theorem dX10_emits_87 : decode cX10_emits 87 = .ok (.isub, 1) := by decide +kernel
theorem dX10_emits_88 : decode cX10_emits 88 = .ok (.aload_n 0, 1) := by decide +kernel
theorem dX10_emits_89 : decode cX10_emits 89 = .ok (.getfield 17, 3) := by decide +kernel
theorem dX10_emits_92 : decode cX10_emits 92 = .ok (.bipush 25, 2) := by decide +kernel
theorem dX10_emits_94 : decode cX10_emits 94 = .ok (.iload_n 2, 1) := by decide +kernel
theorem dX10_emits_95 : decode cX10_emits 95 = .ok (.iadd, 1) := by decide +kernel
theorem dX10_emits_96 : decode cX10_emits 96 = .ok (.iaload, 1) := by decide +kernel
theorem dX10_emits_97 : decode cX10_emits 97 = .ok (.aload_n 0, 1) := by decide +kernel
theorem dX10_emits_98 : decode cX10_emits 98 = .ok (.getfield 17, 3) := by decide +kernel
theorem dX10_emits_101 : decode cX10_emits 101 = .ok (.bipush 29, 2) := by decide +kernel
theorem dX10_emits_103 : decode cX10_emits 103 = .ok (.iload_n 2, 1) := by decide +kernel
theorem dX10_emits_104 : decode cX10_emits 104 = .ok (.iadd, 1) := by decide +kernel
theorem dX10_emits_105 : decode cX10_emits 105 = .ok (.iaload, 1) := by decide +kernel
theorem dX10_emits_106 : decode cX10_emits 106 = .ok (.iadd, 1) := by decide +kernel
theorem dX10_emits_107 : decode cX10_emits 107 = .ok (.irem, 1) := by decide +kernel
theorem dX10_emits_108 : decode cX10_emits 108 = .ok (.aload_n 0, 1) := by decide +kernel
theorem dX10_emits_109 : decode cX10_emits 109 = .ok (.getfield 17, 3) := by decide +kernel
theorem dX10_emits_112 : decode cX10_emits 112 = .ok (.bipush 25, 2) := by decide +kernel
theorem dX10_emits_114 : decode cX10_emits 114 = .ok (.iload_n 2, 1) := by decide +kernel
theorem dX10_emits_115 : decode cX10_emits 115 = .ok (.iadd, 1) := by decide +kernel
theorem dX10_emits_116 : decode cX10_emits 116 = .ok (.iaload, 1) := by decide +kernel
theorem dX10_emits_117 : decode cX10_emits 117 = .ok (.if_icmp .ge 8, 3) := by decide +kernel
theorem dX10_emits_120 : decode cX10_emits 120 = .ok (.iload 5, 2) := by decide +kernel
theorem dX10_emits_122 : decode cX10_emits 122 = .ok (.goto 4, 3) := by decide +kernel
theorem dX10_emits_125 : decode cX10_emits 125 = .ok (.iconst 0, 1) := by decide +kernel
theorem dX10_emits_126 : decode cX10_emits 126 = .ok (.ireturn, 1) := by decide +kernel
theorem dX10_emits_127 : decode cX10_emits 127 = .ok (.iload 5, 2) := by decide +kernel
theorem dX10_emits_129 : decode cX10_emits 129 = .ok (.iload_n 3, 1) := by decide +kernel
theorem dX10_emits_130 : decode cX10_emits 130 = .ok (.iload 4, 2) := by decide +kernel
theorem dX10_emits_132 : decode cX10_emits 132 = .ok (.isub, 1) := by decide +kernel
theorem dX10_emits_133 : decode cX10_emits 133 = .ok (.iconst 1, 1) := by decide +kernel
theorem dX10_emits_134 : decode cX10_emits 134 = .ok (.iadd, 1) := by decide +kernel
theorem dX10_emits_135 : decode cX10_emits 135 = .ok (.aload_n 0, 1) := by decide +kernel
theorem dX10_emits_136 : decode cX10_emits 136 = .ok (.getfield 17, 3) := by decide +kernel
theorem dX10_emits_139 : decode cX10_emits 139 = .ok (.bipush 25, 2) := by decide +kernel
theorem dX10_emits_141 : decode cX10_emits 141 = .ok (.iload_n 2, 1) := by decide +kernel
theorem dX10_emits_142 : decode cX10_emits 142 = .ok (.iadd, 1) := by decide +kernel
theorem dX10_emits_143 : decode cX10_emits 143 = .ok (.iaload, 1) := by decide +kernel
theorem dX10_emits_144 : decode cX10_emits 144 = .ok (.invokestatic 267, 3) := by decide +kernel
theorem dX10_emits_147 : decode cX10_emits 147 = .ok (.imul, 1) := by decide +kernel
theorem dX10_emits_148 : decode cX10_emits 148 = .ok (.aload_n 0, 1) := by decide +kernel
theorem dX10_emits_149 : decode cX10_emits 149 = .ok (.getfield 17, 3) := by decide +kernel
theorem dX10_emits_152 : decode cX10_emits 152 = .ok (.bipush 25, 2) := by decide +kernel
theorem dX10_emits_154 : decode cX10_emits 154 = .ok (.iload_n 2, 1) := by decide +kernel
theorem dX10_emits_155 : decode cX10_emits 155 = .ok (.iadd, 1) := by decide +kernel
theorem dX10_emits_156 : decode cX10_emits 156 = .ok (.iaload, 1) := by decide +kernel
theorem dX10_emits_157 : decode cX10_emits 157 = .ok (.idiv, 1) := by decide +kernel
theorem dX10_emits_158 : decode cX10_emits 158 = .ok (.ireturn, 1) := by decide +kernel
theorem dX10_emits_159 : decode cX10_emits 159 = .ok (.iload 5, 2) := by decide +kernel
theorem dX10_emits_161 : decode cX10_emits 161 = .ok (.ireturn, 1) := by decide +kernel
theorem dX10_sineOf_0 : decode cX10_sineOf 0 = .ok (.iload_n 0, 1) := by decide +kernel
theorem dX10_sineOf_1 : decode cX10_sineOf 1 = .ok (.sipush 180, 3) := by decide +kernel
theorem dX10_sineOf_4 : decode cX10_sineOf 4 = .ok (.irem, 1) := by decide +kernel
theorem dX10_sineOf_5 : decode cX10_sineOf 5 = .ok (.istore_n 1, 1) := by decide +kernel
theorem dX10_sineOf_6 : decode cX10_sineOf 6 = .ok (.sipush 4000, 3) := by decide +kernel
theorem dX10_sineOf_9 : decode cX10_sineOf 9 = .ok (.iload_n 1, 1) := by decide +kernel
theorem dX10_sineOf_10 : decode cX10_sineOf 10 = .ok (.imul, 1) := by decide +kernel
theorem dX10_sineOf_11 : decode cX10_sineOf 11 = .ok (.sipush 180, 3) := by decide +kernel
theorem dX10_sineOf_14 : decode cX10_sineOf 14 = .ok (.iload_n 1, 1) := by decide +kernel
theorem dX10_sineOf_15 : decode cX10_sineOf 15 = .ok (.isub, 1) := by decide +kernel
theorem dX10_sineOf_16 : decode cX10_sineOf 16 = .ok (.imul, 1) := by decide +kernel
theorem dX10_sineOf_17 : decode cX10_sineOf 17 = .ok (.ldc_w 306, 3) := by decide +kernel
theorem dX10_sineOf_20 : decode cX10_sineOf 20 = .ok (.iload_n 1, 1) := by decide +kernel
theorem dX10_sineOf_21 : decode cX10_sineOf 21 = .ok (.sipush 180, 3) := by decide +kernel
theorem dX10_sineOf_24 : decode cX10_sineOf 24 = .ok (.iload_n 1, 1) := by decide +kernel
theorem dX10_sineOf_25 : decode cX10_sineOf 25 = .ok (.isub, 1) := by decide +kernel
theorem dX10_sineOf_26 : decode cX10_sineOf 26 = .ok (.imul, 1) := by decide +kernel
theorem dX10_sineOf_27 : decode cX10_sineOf 27 = .ok (.isub, 1) := by decide +kernel
theorem dX10_sineOf_28 : decode cX10_sineOf 28 = .ok (.idiv, 1) := by decide +kernel
theorem dX10_sineOf_29 : decode cX10_sineOf 29 = .ok (.istore_n 2, 1) := by decide +kernel
theorem dX10_sineOf_30 : decode cX10_sineOf 30 = .ok (.iload_n 0, 1) := by decide +kernel
theorem dX10_sineOf_31 : decode cX10_sineOf 31 = .ok (.sipush 180, 3) := by decide +kernel
theorem dX10_sineOf_34 : decode cX10_sineOf 34 = .ok (.if_icmp .ge 7, 3) := by decide +kernel
theorem dX10_sineOf_37 : decode cX10_sineOf 37 = .ok (.iload_n 2, 1) := by decide +kernel
theorem dX10_sineOf_38 : decode cX10_sineOf 38 = .ok (.goto 5, 3) := by decide +kernel
theorem dX10_sineOf_41 : decode cX10_sineOf 41 = .ok (.iload_n 2, 1) := by decide +kernel
theorem dX10_sineOf_42 : decode cX10_sineOf 42 = .ok (.ineg, 1) := by decide +kernel
theorem dX10_sineOf_43 : decode cX10_sineOf 43 = .ok (.ireturn, 1) := by decide +kernel
theorem dX10_valueAt_0 : decode cX10_valueAt 0 = .ok (.aload_n 0, 1) := by decide +kernel
theorem dX10_valueAt_1 : decode cX10_valueAt 1 = .ok (.getfield 17, 3) := by decide +kernel
theorem dX10_valueAt_4 : decode cX10_valueAt 4 = .ok (.bipush 37, 2) := by decide +kernel
theorem dX10_valueAt_6 : decode cX10_valueAt 6 = .ok (.iload_n 1, 1) := by decide +kernel
theorem dX10_valueAt_7 : decode cX10_valueAt 7 = .ok (.iadd, 1) := by decide +kernel
theorem dX10_valueAt_8 : decode cX10_valueAt 8 = .ok (.iaload, 1) := by decide +kernel
theorem dX10_valueAt_9 : decode cX10_valueAt 9 = .ok (.iconst 1, 1) := by decide +kernel
theorem dX10_valueAt_10 : decode cX10_valueAt 10 = .ok (.if_icmp .ne 20, 3) := by decide +kernel
theorem dX10_valueAt_13 : decode cX10_valueAt 13 = .ok (.iload_n 2, 1) := by decide +kernel
theorem dX10_valueAt_14 : decode cX10_valueAt 14 = .ok (.sipush 180, 3) := by decide +kernel
theorem dX10_valueAt_17 : decode cX10_valueAt 17 = .ok (.if_icmp .ge 9, 3) := by decide +kernel
theorem dX10_valueAt_20 : decode cX10_valueAt 20 = .ok (.sipush 1000, 3) := by decide +kernel
theorem dX10_valueAt_23 : decode cX10_valueAt 23 = .ok (.goto 6, 3) := by decide +kernel
theorem dX10_valueAt_26 : decode cX10_valueAt 26 = .ok (.sipush (-1000), 3) := by decide +kernel
theorem dX10_valueAt_29 : decode cX10_valueAt 29 = .ok (.ireturn, 1) := by decide +kernel
theorem dX10_valueAt_30 : decode cX10_valueAt 30 = .ok (.aload_n 0, 1) := by decide +kernel
theorem dX10_valueAt_31 : decode cX10_valueAt 31 = .ok (.getfield 17, 3) := by decide +kernel
theorem dX10_valueAt_34 : decode cX10_valueAt 34 = .ok (.bipush 37, 2) := by decide +kernel
theorem dX10_valueAt_36 : decode cX10_valueAt 36 = .ok (.iload_n 1, 1) := by decide +kernel
theorem dX10_valueAt_37 : decode cX10_valueAt 37 = .ok (.iadd, 1) := by decide +kernel
theorem dX10_valueAt_38 : decode cX10_valueAt 38 = .ok (.iaload, 1) := by decide +kernel
theorem dX10_valueAt_39 : decode cX10_valueAt 39 = .ok (.iconst 2, 1) := by decide +kernel
theorem dX10_valueAt_40 : decode cX10_valueAt 40 = .ok (.if_icmp .ne 19, 3) := by decide +kernel
theorem dX10_valueAt_43 : decode cX10_valueAt 43 = .ok (.iload_n 2, 1) := by decide +kernel
theorem dX10_valueAt_44 : decode cX10_valueAt 44 = .ok (.sipush 1000, 3) := by decide +kernel
theorem dX10_valueAt_47 : decode cX10_valueAt 47 = .ok (.imul, 1) := by decide +kernel
theorem dX10_valueAt_48 : decode cX10_valueAt 48 = .ok (.sipush 180, 3) := by decide +kernel
theorem dX10_valueAt_51 : decode cX10_valueAt 51 = .ok (.idiv, 1) := by decide +kernel
theorem dX10_valueAt_52 : decode cX10_valueAt 52 = .ok (.sipush 1000, 3) := by decide +kernel
theorem dX10_valueAt_55 : decode cX10_valueAt 55 = .ok (.isub, 1) := by decide +kernel
theorem dX10_valueAt_56 : decode cX10_valueAt 56 = .ok (.goto 7, 3) := by decide +kernel
theorem dX10_valueAt_59 : decode cX10_valueAt 59 = .ok (.iload_n 2, 1) := by decide +kernel
theorem dX10_valueAt_60 : decode cX10_valueAt 60 = .ok (.invokestatic 307, 3) := by decide +kernel
theorem dX10_valueAt_63 : decode cX10_valueAt 63 = .ok (.ireturn, 1) := by decide +kernel
theorem dX10_angleOf_0 : decode cX10_angleOf 0 = .ok (.aload_n 1, 1) := by decide +kernel
theorem dX10_angleOf_1 : decode cX10_angleOf 1 = .ok (.bipush 10, 2) := by decide +kernel
theorem dX10_angleOf_3 : decode cX10_angleOf 3 = .ok (.iload_n 2, 1) := by decide +kernel
theorem dX10_angleOf_4 : decode cX10_angleOf 4 = .ok (.iadd, 1) := by decide +kernel
theorem dX10_angleOf_5 : decode cX10_angleOf 5 = .ok (.iaload, 1) := by decide +kernel
theorem dX10_angleOf_6 : decode cX10_angleOf 6 = .ok (.sipush 360, 3) := by decide +kernel
theorem dX10_angleOf_9 : decode cX10_angleOf 9 = .ok (.iload 4, 2) := by decide +kernel
theorem dX10_angleOf_11 : decode cX10_angleOf 11 = .ok (.imul, 1) := by decide +kernel
theorem dX10_angleOf_12 : decode cX10_angleOf 12 = .ok (.aload_n 0, 1) := by decide +kernel
theorem dX10_angleOf_13 : decode cX10_angleOf 13 = .ok (.getfield 17, 3) := by decide +kernel
theorem dX10_angleOf_16 : decode cX10_angleOf 16 = .ok (.bipush 9, 2) := by decide +kernel
theorem dX10_angleOf_18 : decode cX10_angleOf 18 = .ok (.iload_n 2, 1) := by decide +kernel
theorem dX10_angleOf_19 : decode cX10_angleOf 19 = .ok (.iadd, 1) := by decide +kernel
theorem dX10_angleOf_20 : decode cX10_angleOf 20 = .ok (.iaload, 1) := by decide +kernel
theorem dX10_angleOf_21 : decode cX10_angleOf 21 = .ok (.idiv, 1) := by decide +kernel
theorem dX10_angleOf_22 : decode cX10_angleOf 22 = .ok (.iadd, 1) := by decide +kernel
theorem dX10_angleOf_23 : decode cX10_angleOf 23 = .ok (.sipush 360, 3) := by decide +kernel
theorem dX10_angleOf_26 : decode cX10_angleOf 26 = .ok (.iload_n 3, 1) := by decide +kernel
theorem dX10_angleOf_27 : decode cX10_angleOf 27 = .ok (.imul, 1) := by decide +kernel
theorem dX10_angleOf_28 : decode cX10_angleOf 28 = .ok (.aload_n 0, 1) := by decide +kernel
theorem dX10_angleOf_29 : decode cX10_angleOf 29 = .ok (.getfield 17, 3) := by decide +kernel
theorem dX10_angleOf_32 : decode cX10_angleOf 32 = .ok (.iconst 5, 1) := by decide +kernel
theorem dX10_angleOf_33 : decode cX10_angleOf 33 = .ok (.iload_n 2, 1) := by decide +kernel
theorem dX10_angleOf_34 : decode cX10_angleOf 34 = .ok (.iadd, 1) := by decide +kernel
theorem dX10_angleOf_35 : decode cX10_angleOf 35 = .ok (.iaload, 1) := by decide +kernel
theorem dX10_angleOf_36 : decode cX10_angleOf 36 = .ok (.idiv, 1) := by decide +kernel
theorem dX10_angleOf_37 : decode cX10_angleOf 37 = .ok (.isub, 1) := by decide +kernel
theorem dX10_angleOf_38 : decode cX10_angleOf 38 = .ok (.istore 5, 2) := by decide +kernel
theorem dX10_angleOf_40 : decode cX10_angleOf 40 = .ok (.iload 5, 2) := by decide +kernel
theorem dX10_angleOf_42 : decode cX10_angleOf 42 = .ok (.sipush 360, 3) := by decide +kernel
theorem dX10_angleOf_45 : decode cX10_angleOf 45 = .ok (.irem, 1) := by decide +kernel
theorem dX10_angleOf_46 : decode cX10_angleOf 46 = .ok (.sipush 360, 3) := by decide +kernel
theorem dX10_angleOf_49 : decode cX10_angleOf 49 = .ok (.iadd, 1) := by decide +kernel
theorem dX10_angleOf_50 : decode cX10_angleOf 50 = .ok (.sipush 360, 3) := by decide +kernel
theorem dX10_angleOf_53 : decode cX10_angleOf 53 = .ok (.irem, 1) := by decide +kernel
theorem dX10_angleOf_54 : decode cX10_angleOf 54 = .ok (.ireturn, 1) := by decide +kernel
theorem dX10_delayOf_0 : decode cX10_delayOf 0 = .ok (.iload_n 2, 1) := by decide +kernel
theorem dX10_delayOf_1 : decode cX10_delayOf 1 = .ok (.aload_n 0, 1) := by decide +kernel
theorem dX10_delayOf_2 : decode cX10_delayOf 2 = .ok (.getfield 17, 3) := by decide +kernel
theorem dX10_delayOf_5 : decode cX10_delayOf 5 = .ok (.bipush 9, 2) := by decide +kernel
theorem dX10_delayOf_7 : decode cX10_delayOf 7 = .ok (.iload_n 1, 1) := by decide +kernel
theorem dX10_delayOf_8 : decode cX10_delayOf 8 = .ok (.iadd, 1) := by decide +kernel
theorem dX10_delayOf_9 : decode cX10_delayOf 9 = .ok (.iaload, 1) := by decide +kernel
theorem dX10_delayOf_10 : decode cX10_delayOf 10 = .ok (.imul, 1) := by decide +kernel
theorem dX10_delayOf_11 : decode cX10_delayOf 11 = .ok (.aload_n 0, 1) := by decide +kernel
theorem dX10_delayOf_12 : decode cX10_delayOf 12 = .ok (.getfield 17, 3) := by decide +kernel
theorem dX10_delayOf_15 : decode cX10_delayOf 15 = .ok (.iconst 5, 1) := by decide +kernel
theorem dX10_delayOf_16 : decode cX10_delayOf 16 = .ok (.iload_n 1, 1) := by decide +kernel
theorem dX10_delayOf_17 : decode cX10_delayOf 17 = .ok (.iadd, 1) := by decide +kernel
theorem dX10_delayOf_18 : decode cX10_delayOf 18 = .ok (.iaload, 1) := by decide +kernel
theorem dX10_delayOf_19 : decode cX10_delayOf 19 = .ok (.idiv, 1) := by decide +kernel
theorem dX10_delayOf_20 : decode cX10_delayOf 20 = .ok (.ireturn, 1) := by decide +kernel
theorem dX10_brought_0 : decode cX10_brought 0 = .ok (.aload_n 0, 1) := by decide +kernel
theorem dX10_brought_1 : decode cX10_brought 1 = .ok (.aload_n 1, 1) := by decide +kernel
theorem dX10_brought_2 : decode cX10_brought 2 = .ok (.iload_n 2, 1) := by decide +kernel
theorem dX10_brought_3 : decode cX10_brought 3 = .ok (.iload 4, 2) := by decide +kernel
theorem dX10_brought_5 : decode cX10_brought 5 = .ok (.aload_n 0, 1) := by decide +kernel
theorem dX10_brought_6 : decode cX10_brought 6 = .ok (.iload_n 2, 1) := by decide +kernel
theorem dX10_brought_7 : decode cX10_brought 7 = .ok (.iload_n 3, 1) := by decide +kernel
theorem dX10_brought_8 : decode cX10_brought 8 = .ok (.invokevirtual 310, 3) := by decide +kernel
theorem dX10_brought_11 : decode cX10_brought 11 = .ok (.isub, 1) := by decide +kernel
theorem dX10_brought_12 : decode cX10_brought 12 = .ok (.invokevirtual 313, 3) := by decide +kernel
theorem dX10_brought_15 : decode cX10_brought 15 = .ok (.istore 5, 2) := by decide +kernel
theorem dX10_brought_17 : decode cX10_brought 17 = .ok (.aload_n 0, 1) := by decide +kernel
theorem dX10_brought_18 : decode cX10_brought 18 = .ok (.getfield 17, 3) := by decide +kernel
theorem dX10_brought_21 : decode cX10_brought 21 = .ok (.iconst 2, 1) := by decide +kernel
theorem dX10_brought_22 : decode cX10_brought 22 = .ok (.iaload, 1) := by decide +kernel
theorem dX10_brought_23 : decode cX10_brought 23 = .ok (.ifCond .le 23, 3) := by decide +kernel
theorem dX10_brought_26 : decode cX10_brought 26 = .ok (.iload 5, 2) := by decide +kernel
theorem dX10_brought_28 : decode cX10_brought 28 = .ok (.aload_n 0, 1) := by decide +kernel
theorem dX10_brought_29 : decode cX10_brought 29 = .ok (.getfield 17, 3) := by decide +kernel
theorem dX10_brought_32 : decode cX10_brought 32 = .ok (.iconst 2, 1) := by decide +kernel
theorem dX10_brought_33 : decode cX10_brought 33 = .ok (.iaload, 1) := by decide +kernel
theorem dX10_brought_34 : decode cX10_brought 34 = .ok (.imul, 1) := by decide +kernel
theorem dX10_brought_35 : decode cX10_brought 35 = .ok (.aload_n 0, 1) := by decide +kernel
theorem dX10_brought_36 : decode cX10_brought 36 = .ok (.getfield 17, 3) := by decide +kernel
theorem dX10_brought_39 : decode cX10_brought 39 = .ok (.iconst 2, 1) := by decide +kernel
theorem dX10_brought_40 : decode cX10_brought 40 = .ok (.iaload, 1) := by decide +kernel
theorem dX10_brought_41 : decode cX10_brought 41 = .ok (.iload_n 3, 1) := by decide +kernel
theorem dX10_brought_42 : decode cX10_brought 42 = .ok (.iadd, 1) := by decide +kernel
theorem dX10_brought_43 : decode cX10_brought 43 = .ok (.idiv, 1) := by decide +kernel
theorem dX10_brought_44 : decode cX10_brought 44 = .ok (.istore 5, 2) := by decide +kernel
theorem dX10_brought_46 : decode cX10_brought 46 = .ok (.iload 5, 2) := by decide +kernel
theorem dX10_brought_48 : decode cX10_brought 48 = .ok (.aload_n 0, 1) := by decide +kernel
theorem dX10_brought_49 : decode cX10_brought 49 = .ok (.iload_n 2, 1) := by decide +kernel
theorem dX10_brought_50 : decode cX10_brought 50 = .ok (.aload_n 0, 1) := by decide +kernel
theorem dX10_brought_51 : decode cX10_brought 51 = .ok (.aload_n 1, 1) := by decide +kernel
theorem dX10_brought_52 : decode cX10_brought 52 = .ok (.iload_n 2, 1) := by decide +kernel
theorem dX10_brought_53 : decode cX10_brought 53 = .ok (.iload_n 3, 1) := by decide +kernel
theorem dX10_brought_54 : decode cX10_brought 54 = .ok (.iload 4, 2) := by decide +kernel
theorem dX10_brought_56 : decode cX10_brought 56 = .ok (.invokevirtual 316, 3) := by decide +kernel
theorem dX10_brought_59 : decode cX10_brought 59 = .ok (.invokevirtual 320, 3) := by decide +kernel
theorem dX10_brought_62 : decode cX10_brought 62 = .ok (.imul, 1) := by decide +kernel
theorem dX10_brought_63 : decode cX10_brought 63 = .ok (.sipush 1000, 3) := by decide +kernel
theorem dX10_brought_66 : decode cX10_brought 66 = .ok (.idiv, 1) := by decide +kernel
theorem dX10_brought_67 : decode cX10_brought 67 = .ok (.ireturn, 1) := by decide +kernel
theorem dX10_broughtBy_0 : decode cX10_broughtBy 0 = .ok (.aload_n 0, 1) := by decide +kernel
theorem dX10_broughtBy_1 : decode cX10_broughtBy 1 = .ok (.getfield 17, 3) := by decide +kernel
theorem dX10_broughtBy_4 : decode cX10_broughtBy 4 = .ok (.bipush 33, 2) := by decide +kernel
theorem dX10_broughtBy_6 : decode cX10_broughtBy 6 = .ok (.iload_n 3, 1) := by decide +kernel
theorem dX10_broughtBy_7 : decode cX10_broughtBy 7 = .ok (.iadd, 1) := by decide +kernel
theorem dX10_broughtBy_8 : decode cX10_broughtBy 8 = .ok (.iaload, 1) := by decide +kernel
theorem dX10_broughtBy_9 : decode cX10_broughtBy 9 = .ok (.istore 7, 2) := by decide +kernel
theorem dX10_broughtBy_11 : decode cX10_broughtBy 11 = .ok (.iload 7, 2) := by decide +kernel
theorem dX10_broughtBy_13 : decode cX10_broughtBy 13 = .ok (.ifCond .ne 5, 3) := by decide +kernel
theorem dX10_broughtBy_16 : decode cX10_broughtBy 16 = .ok (.iconst 0, 1) := by decide +kernel
theorem dX10_broughtBy_17 : decode cX10_broughtBy 17 = .ok (.ireturn, 1) := by decide +kernel
theorem dX10_broughtBy_18 : decode cX10_broughtBy 18 = .ok (.aload_n 0, 1) := by decide +kernel
theorem dX10_broughtBy_19 : decode cX10_broughtBy 19 = .ok (.aload_n 1, 1) := by decide +kernel
theorem dX10_broughtBy_20 : decode cX10_broughtBy 20 = .ok (.iload_n 2, 1) := by decide +kernel
theorem dX10_broughtBy_21 : decode cX10_broughtBy 21 = .ok (.iload 6, 2) := by decide +kernel
theorem dX10_broughtBy_23 : decode cX10_broughtBy 23 = .ok (.invokevirtual 284, 3) := by decide +kernel
theorem dX10_broughtBy_26 : decode cX10_broughtBy 26 = .ok (.istore 8, 2) := by decide +kernel
theorem dX10_broughtBy_28 : decode cX10_broughtBy 28 = .ok (.aload_n 0, 1) := by decide +kernel
theorem dX10_broughtBy_29 : decode cX10_broughtBy 29 = .ok (.aload_n 1, 1) := by decide +kernel
theorem dX10_broughtBy_30 : decode cX10_broughtBy 30 = .ok (.iload_n 2, 1) := by decide +kernel
theorem dX10_broughtBy_31 : decode cX10_broughtBy 31 = .ok (.iload 6, 2) := by decide +kernel
theorem dX10_broughtBy_33 : decode cX10_broughtBy 33 = .ok (.invokevirtual 288, 3) := by decide +kernel
theorem dX10_broughtBy_36 : decode cX10_broughtBy 36 = .ok (.istore 9, 2) := by decide +kernel
theorem dX10_broughtBy_38 : decode cX10_broughtBy 38 = .ok (.iload_n 3, 1) := by decide +kernel
theorem dX10_broughtBy_39 : decode cX10_broughtBy 39 = .ok (.iconst 2, 1) := by decide +kernel
theorem dX10_broughtBy_40 : decode cX10_broughtBy 40 = .ok (.if_icmp .ge 32, 3) := by decide +kernel
theorem dX10_broughtBy_43 : decode cX10_broughtBy 43 = .ok (.iload_n 3, 1) := by decide +kernel
theorem dX10_broughtBy_44 : decode cX10_broughtBy 44 = .ok (.ifCond .ne 10, 3) := by decide +kernel
theorem dX10_broughtBy_47 : decode cX10_broughtBy 47 = .ok (.iconst (-1), 1) := by decide +kernel
theorem dX10_broughtBy_48 : decode cX10_broughtBy 48 = .ok (.iload 8, 2) := by decide +kernel
theorem dX10_broughtBy_50 : decode cX10_broughtBy 50 = .ok (.isub, 1) := by decide +kernel
theorem dX10_broughtBy_51 : decode cX10_broughtBy 51 = .ok (.goto 16, 3) := by decide +kernel
theorem dX10_broughtBy_54 : decode cX10_broughtBy 54 = .ok (.iconst 2, 1) := by decide +kernel
theorem dX10_broughtBy_55 : decode cX10_broughtBy 55 = .ok (.aload_n 0, 1) := by decide +kernel
theorem dX10_broughtBy_56 : decode cX10_broughtBy 56 = .ok (.getfield 17, 3) := by decide +kernel
theorem dX10_broughtBy_59 : decode cX10_broughtBy 59 = .ok (.iconst 0, 1) := by decide +kernel
theorem dX10_broughtBy_60 : decode cX10_broughtBy 60 = .ok (.iaload, 1) := by decide +kernel
theorem dX10_broughtBy_61 : decode cX10_broughtBy 61 = .ok (.imul, 1) := by decide +kernel
theorem dX10_broughtBy_62 : decode cX10_broughtBy 62 = .ok (.iconst 1, 1) := by decide +kernel
theorem dX10_broughtBy_63 : decode cX10_broughtBy 63 = .ok (.isub, 1) := by decide +kernel
theorem dX10_broughtBy_64 : decode cX10_broughtBy 64 = .ok (.iload 8, 2) := by decide +kernel
theorem dX10_broughtBy_66 : decode cX10_broughtBy 66 = .ok (.isub, 1) := by decide +kernel
theorem dX10_broughtBy_67 : decode cX10_broughtBy 67 = .ok (.istore 8, 2) := by decide +kernel
theorem dX10_broughtBy_69 : decode cX10_broughtBy 69 = .ok (.goto 30, 3) := by decide +kernel
theorem dX10_broughtBy_72 : decode cX10_broughtBy 72 = .ok (.iload_n 3, 1) := by decide +kernel
theorem dX10_broughtBy_73 : decode cX10_broughtBy 73 = .ok (.iconst 2, 1) := by decide +kernel
theorem dX10_broughtBy_74 : decode cX10_broughtBy 74 = .ok (.if_icmp .ne 10, 3) := by decide +kernel
theorem dX10_broughtBy_77 : decode cX10_broughtBy 77 = .ok (.iconst (-1), 1) := by decide +kernel
theorem dX10_broughtBy_78 : decode cX10_broughtBy 78 = .ok (.iload 9, 2) := by decide +kernel
theorem dX10_broughtBy_80 : decode cX10_broughtBy 80 = .ok (.isub, 1) := by decide +kernel
theorem dX10_broughtBy_81 : decode cX10_broughtBy 81 = .ok (.goto 16, 3) := by decide +kernel
theorem dX10_broughtBy_84 : decode cX10_broughtBy 84 = .ok (.iconst 2, 1) := by decide +kernel
theorem dX10_broughtBy_85 : decode cX10_broughtBy 85 = .ok (.aload_n 0, 1) := by decide +kernel
theorem dX10_broughtBy_86 : decode cX10_broughtBy 86 = .ok (.getfield 17, 3) := by decide +kernel
theorem dX10_broughtBy_89 : decode cX10_broughtBy 89 = .ok (.iconst 1, 1) := by decide +kernel
theorem dX10_broughtBy_90 : decode cX10_broughtBy 90 = .ok (.iaload, 1) := by decide +kernel
theorem dX10_broughtBy_91 : decode cX10_broughtBy 91 = .ok (.imul, 1) := by decide +kernel
theorem dX10_broughtBy_92 : decode cX10_broughtBy 92 = .ok (.iconst 1, 1) := by decide +kernel
theorem dX10_broughtBy_93 : decode cX10_broughtBy 93 = .ok (.isub, 1) := by decide +kernel
theorem dX10_broughtBy_94 : decode cX10_broughtBy 94 = .ok (.iload 9, 2) := by decide +kernel
theorem dX10_broughtBy_96 : decode cX10_broughtBy 96 = .ok (.isub, 1) := by decide +kernel
theorem dX10_broughtBy_97 : decode cX10_broughtBy 97 = .ok (.istore 9, 2) := by decide +kernel
theorem dX10_broughtBy_99 : decode cX10_broughtBy 99 = .ok (.aload_n 0, 1) := by decide +kernel
theorem dX10_broughtBy_100 : decode cX10_broughtBy 100 = .ok (.aload_n 1, 1) := by decide +kernel
theorem dX10_broughtBy_101 : decode cX10_broughtBy 101 = .ok (.iload_n 2, 1) := by decide +kernel
theorem dX10_broughtBy_102 : decode cX10_broughtBy 102 = .ok (.aload_n 0, 1) := by decide +kernel
theorem dX10_broughtBy_103 : decode cX10_broughtBy 103 = .ok (.iload 4, 2) := by decide +kernel
theorem dX10_broughtBy_105 : decode cX10_broughtBy 105 = .ok (.iload 8, 2) := by decide +kernel
theorem dX10_broughtBy_107 : decode cX10_broughtBy 107 = .ok (.isub, 1) := by decide +kernel
theorem dX10_broughtBy_108 : decode cX10_broughtBy 108 = .ok (.iload 5, 2) := by decide +kernel
theorem dX10_broughtBy_110 : decode cX10_broughtBy 110 = .ok (.iload 9, 2) := by decide +kernel
theorem dX10_broughtBy_112 : decode cX10_broughtBy 112 = .ok (.isub, 1) := by decide +kernel
theorem dX10_broughtBy_113 : decode cX10_broughtBy 113 = .ok (.invokevirtual 281, 3) := by decide +kernel
theorem dX10_broughtBy_116 : decode cX10_broughtBy 116 = .ok (.iload 6, 2) := by decide +kernel
theorem dX10_broughtBy_118 : decode cX10_broughtBy 118 = .ok (.invokevirtual 323, 3) := by decide +kernel
theorem dX10_broughtBy_121 : decode cX10_broughtBy 121 = .ok (.iload 7, 2) := by decide +kernel
theorem dX10_broughtBy_123 : decode cX10_broughtBy 123 = .ok (.imul, 1) := by decide +kernel
theorem dX10_broughtBy_124 : decode cX10_broughtBy 124 = .ok (.bipush 100, 2) := by decide +kernel
theorem dX10_broughtBy_126 : decode cX10_broughtBy 126 = .ok (.idiv, 1) := by decide +kernel
theorem dX10_broughtBy_127 : decode cX10_broughtBy 127 = .ok (.ireturn, 1) := by decide +kernel
theorem dX10_ones_0 : decode cX10_ones 0 = .ok (.iconst 0, 1) := by decide +kernel
theorem dX10_ones_1 : decode cX10_ones 1 = .ok (.istore_n 1, 1) := by decide +kernel
theorem dX10_ones_2 : decode cX10_ones 2 = .ok (.iload_n 0, 1) := by decide +kernel
theorem dX10_ones_3 : decode cX10_ones 3 = .ok (.istore_n 2, 1) := by decide +kernel
theorem dX10_ones_4 : decode cX10_ones 4 = .ok (.iload_n 2, 1) := by decide +kernel
theorem dX10_ones_5 : decode cX10_ones 5 = .ok (.ifCond .eq 15, 3) := by decide +kernel
theorem dX10_ones_8 : decode cX10_ones 8 = .ok (.iinc 1 1, 3) := by decide +kernel
theorem dX10_ones_11 : decode cX10_ones 11 = .ok (.iload_n 2, 1) := by decide +kernel
theorem dX10_ones_12 : decode cX10_ones 12 = .ok (.iload_n 2, 1) := by decide +kernel
theorem dX10_ones_13 : decode cX10_ones 13 = .ok (.iconst 1, 1) := by decide +kernel
theorem dX10_ones_14 : decode cX10_ones 14 = .ok (.isub, 1) := by decide +kernel
theorem dX10_ones_15 : decode cX10_ones 15 = .ok (.iand, 1) := by decide +kernel
theorem dX10_ones_16 : decode cX10_ones 16 = .ok (.istore_n 2, 1) := by decide +kernel
theorem dX10_ones_17 : decode cX10_ones 17 = .ok (.goto (-13), 3) := by decide +kernel
theorem dX10_ones_20 : decode cX10_ones 20 = .ok (.iload_n 1, 1) := by decide +kernel
theorem dX10_ones_21 : decode cX10_ones 21 = .ok (.ireturn, 1) := by decide +kernel
theorem dX10_partIn_0 : decode cX10_partIn 0 = .ok (.aload_n 1, 1) := by decide +kernel
theorem dX10_partIn_1 : decode cX10_partIn 1 = .ok (.iconst 2, 1) := by decide +kernel
theorem dX10_partIn_2 : decode cX10_partIn 2 = .ok (.iload_n 2, 1) := by decide +kernel
theorem dX10_partIn_3 : decode cX10_partIn 3 = .ok (.iadd, 1) := by decide +kernel
theorem dX10_partIn_4 : decode cX10_partIn 4 = .ok (.iaload, 1) := by decide +kernel
theorem dX10_partIn_5 : decode cX10_partIn 5 = .ok (.ifCond .eq 14, 3) := by decide +kernel
theorem dX10_partIn_8 : decode cX10_partIn 8 = .ok (.aload_n 0, 1) := by decide +kernel
theorem dX10_partIn_9 : decode cX10_partIn 9 = .ok (.aload_n 1, 1) := by decide +kernel
theorem dX10_partIn_10 : decode cX10_partIn 10 = .ok (.iload_n 3, 1) := by decide +kernel
theorem dX10_partIn_11 : decode cX10_partIn 11 = .ok (.iload 4, 2) := by decide +kernel
theorem dX10_partIn_13 : decode cX10_partIn 13 = .ok (.invokevirtual 291, 3) := by decide +kernel
theorem dX10_partIn_16 : decode cX10_partIn 16 = .ok (.ifCond .eq 5, 3) := by decide +kernel
theorem dX10_partIn_19 : decode cX10_partIn 19 = .ok (.iconst 0, 1) := by decide +kernel
theorem dX10_partIn_20 : decode cX10_partIn 20 = .ok (.ireturn, 1) := by decide +kernel
theorem dX10_partIn_21 : decode cX10_partIn 21 = .ok (.aload_n 0, 1) := by decide +kernel
theorem dX10_partIn_22 : decode cX10_partIn 22 = .ok (.aload_n 1, 1) := by decide +kernel
theorem dX10_partIn_23 : decode cX10_partIn 23 = .ok (.iload_n 2, 1) := by decide +kernel
theorem dX10_partIn_24 : decode cX10_partIn 24 = .ok (.iload 5, 2) := by decide +kernel
theorem dX10_partIn_26 : decode cX10_partIn 26 = .ok (.invokevirtual 284, 3) := by decide +kernel
theorem dX10_partIn_29 : decode cX10_partIn 29 = .ok (.istore 6, 2) := by decide +kernel
theorem dX10_partIn_31 : decode cX10_partIn 31 = .ok (.aload_n 0, 1) := by decide +kernel
theorem dX10_partIn_32 : decode cX10_partIn 32 = .ok (.aload_n 1, 1) := by decide +kernel
theorem dX10_partIn_33 : decode cX10_partIn 33 = .ok (.iload_n 2, 1) := by decide +kernel
theorem dX10_partIn_34 : decode cX10_partIn 34 = .ok (.iload 5, 2) := by decide +kernel
theorem dX10_partIn_36 : decode cX10_partIn 36 = .ok (.invokevirtual 288, 3) := by decide +kernel
theorem dX10_partIn_39 : decode cX10_partIn 39 = .ok (.istore 7, 2) := by decide +kernel
theorem dX10_partIn_41 : decode cX10_partIn 41 = .ok (.iconst 0, 1) := by decide +kernel
theorem dX10_partIn_42 : decode cX10_partIn 42 = .ok (.istore 8, 2) := by decide +kernel
theorem dX10_partIn_44 : decode cX10_partIn 44 = .ok (.aload_n 0, 1) := by decide +kernel
theorem dX10_partIn_45 : decode cX10_partIn 45 = .ok (.iload 6, 2) := by decide +kernel
theorem dX10_partIn_47 : decode cX10_partIn 47 = .ok (.iload_n 3, 1) := by decide +kernel
theorem dX10_partIn_48 : decode cX10_partIn 48 = .ok (.invokevirtual 295, 3) := by decide +kernel
theorem dX10_partIn_51 : decode cX10_partIn 51 = .ok (.ifCond .ne 61, 3) := by decide +kernel
theorem dX10_partIn_54 : decode cX10_partIn 54 = .ok (.iconst 0, 1) := by decide +kernel
theorem dX10_partIn_55 : decode cX10_partIn 55 = .ok (.istore 9, 2) := by decide +kernel
theorem dX10_partIn_57 : decode cX10_partIn 57 = .ok (.iload 9, 2) := by decide +kernel
theorem dX10_partIn_59 : decode cX10_partIn 59 = .ok (.iconst 4, 1) := by decide +kernel
theorem dX10_partIn_60 : decode cX10_partIn 60 = .ok (.if_icmp .ge 27, 3) := by decide +kernel
theorem dX10_partIn_63 : decode cX10_partIn 63 = .ok (.iload 8, 2) := by decide +kernel
theorem dX10_partIn_65 : decode cX10_partIn 65 = .ok (.aload_n 0, 1) := by decide +kernel
theorem dX10_partIn_66 : decode cX10_partIn 66 = .ok (.aload_n 1, 1) := by decide +kernel
theorem dX10_partIn_67 : decode cX10_partIn 67 = .ok (.iload_n 2, 1) := by decide +kernel
theorem dX10_partIn_68 : decode cX10_partIn 68 = .ok (.iload 9, 2) := by decide +kernel
theorem dX10_partIn_70 : decode cX10_partIn 70 = .ok (.iload_n 3, 1) := by decide +kernel
theorem dX10_partIn_71 : decode cX10_partIn 71 = .ok (.iload 4, 2) := by decide +kernel
theorem dX10_partIn_73 : decode cX10_partIn 73 = .ok (.iload 5, 2) := by decide +kernel
theorem dX10_partIn_75 : decode cX10_partIn 75 = .ok (.invokevirtual 326, 3) := by decide +kernel
theorem dX10_partIn_78 : decode cX10_partIn 78 = .ok (.iadd, 1) := by decide +kernel
theorem dX10_partIn_79 : decode cX10_partIn 79 = .ok (.istore 8, 2) := by decide +kernel
theorem dX10_partIn_81 : decode cX10_partIn 81 = .ok (.iinc 9 1, 3) := by decide +kernel
theorem dX10_partIn_84 : decode cX10_partIn 84 = .ok (.goto (-27), 3) := by decide +kernel
theorem dX10_partIn_87 : decode cX10_partIn 87 = .ok (.iload 8, 2) := by decide +kernel
theorem dX10_partIn_89 : decode cX10_partIn 89 = .ok (.aload_n 0, 1) := by decide +kernel
theorem dX10_partIn_90 : decode cX10_partIn 90 = .ok (.aload_n 1, 1) := by decide +kernel
theorem dX10_partIn_91 : decode cX10_partIn 91 = .ok (.iload_n 2, 1) := by decide +kernel
theorem dX10_partIn_92 : decode cX10_partIn 92 = .ok (.aload_n 0, 1) := by decide +kernel
theorem dX10_partIn_93 : decode cX10_partIn 93 = .ok (.iload_n 3, 1) := by decide +kernel
theorem dX10_partIn_94 : decode cX10_partIn 94 = .ok (.iload 6, 2) := by decide +kernel
theorem dX10_partIn_96 : decode cX10_partIn 96 = .ok (.isub, 1) := by decide +kernel
theorem dX10_partIn_97 : decode cX10_partIn 97 = .ok (.iload 4, 2) := by decide +kernel
theorem dX10_partIn_99 : decode cX10_partIn 99 = .ok (.iload 7, 2) := by decide +kernel
theorem dX10_partIn_101 : decode cX10_partIn 101 = .ok (.isub, 1) := by decide +kernel
theorem dX10_partIn_102 : decode cX10_partIn 102 = .ok (.invokevirtual 281, 3) := by decide +kernel
theorem dX10_partIn_105 : decode cX10_partIn 105 = .ok (.iload 5, 2) := by decide +kernel
theorem dX10_partIn_107 : decode cX10_partIn 107 = .ok (.invokevirtual 323, 3) := by decide +kernel
theorem dX10_partIn_110 : decode cX10_partIn 110 = .ok (.iadd, 1) := by decide +kernel
theorem dX10_partIn_111 : decode cX10_partIn 111 = .ok (.ireturn, 1) := by decide +kernel
theorem dX10_partIn_112 : decode cX10_partIn 112 = .ok (.aload_n 1, 1) := by decide +kernel
theorem dX10_partIn_113 : decode cX10_partIn 113 = .ok (.iconst 1, 1) := by decide +kernel
theorem dX10_partIn_114 : decode cX10_partIn 114 = .ok (.iaload, 1) := by decide +kernel
theorem dX10_partIn_115 : decode cX10_partIn 115 = .ok (.ifCond .ne 5, 3) := by decide +kernel
theorem dX10_partIn_118 : decode cX10_partIn 118 = .ok (.iconst 0, 1) := by decide +kernel
theorem dX10_partIn_119 : decode cX10_partIn 119 = .ok (.ireturn, 1) := by decide +kernel
theorem dX10_partIn_120 : decode cX10_partIn 120 = .ok (.iconst 0, 1) := by decide +kernel
theorem dX10_partIn_121 : decode cX10_partIn 121 = .ok (.istore 9, 2) := by decide +kernel
theorem dX10_partIn_123 : decode cX10_partIn 123 = .ok (.iload 9, 2) := by decide +kernel
theorem dX10_partIn_125 : decode cX10_partIn 125 = .ok (.aload_n 0, 1) := by decide +kernel
theorem dX10_partIn_126 : decode cX10_partIn 126 = .ok (.getfield 17, 3) := by decide +kernel
theorem dX10_partIn_129 : decode cX10_partIn 129 = .ok (.iconst 1, 1) := by decide +kernel
theorem dX10_partIn_130 : decode cX10_partIn 130 = .ok (.iaload, 1) := by decide +kernel
theorem dX10_partIn_131 : decode cX10_partIn 131 = .ok (.if_icmp .ge 49, 3) := by decide +kernel
theorem dX10_partIn_134 : decode cX10_partIn 134 = .ok (.iload 8, 2) := by decide +kernel
theorem dX10_partIn_136 : decode cX10_partIn 136 = .ok (.aload_n 0, 1) := by decide +kernel
theorem dX10_partIn_137 : decode cX10_partIn 137 = .ok (.aload_n 1, 1) := by decide +kernel
theorem dX10_partIn_138 : decode cX10_partIn 138 = .ok (.iload 9, 2) := by decide +kernel
theorem dX10_partIn_140 : decode cX10_partIn 140 = .ok (.invokevirtual 277, 3) := by decide +kernel
theorem dX10_partIn_143 : decode cX10_partIn 143 = .ok (.ifCond .eq 27, 3) := by decide +kernel
theorem dX10_partIn_146 : decode cX10_partIn 146 = .ok (.aload_n 0, 1) := by decide +kernel
theorem dX10_partIn_147 : decode cX10_partIn 147 = .ok (.aload_n 1, 1) := by decide +kernel
theorem dX10_partIn_148 : decode cX10_partIn 148 = .ok (.iload_n 2, 1) := by decide +kernel
theorem dX10_partIn_149 : decode cX10_partIn 149 = .ok (.aload_n 0, 1) := by decide +kernel
theorem dX10_partIn_150 : decode cX10_partIn 150 = .ok (.iload 6, 2) := by decide +kernel
theorem dX10_partIn_152 : decode cX10_partIn 152 = .ok (.iload 7, 2) := by decide +kernel
theorem dX10_partIn_154 : decode cX10_partIn 154 = .ok (.iload_n 3, 1) := by decide +kernel
theorem dX10_partIn_155 : decode cX10_partIn 155 = .ok (.iload 4, 2) := by decide +kernel
theorem dX10_partIn_157 : decode cX10_partIn 157 = .ok (.iload 9, 2) := by decide +kernel
theorem dX10_partIn_159 : decode cX10_partIn 159 = .ok (.invokevirtual 299, 3) := by decide +kernel
theorem dX10_partIn_162 : decode cX10_partIn 162 = .ok (.iload 5, 2) := by decide +kernel
theorem dX10_partIn_164 : decode cX10_partIn 164 = .ok (.invokevirtual 323, 3) := by decide +kernel
theorem dX10_partIn_167 : decode cX10_partIn 167 = .ok (.goto 4, 3) := by decide +kernel
theorem dX10_partIn_170 : decode cX10_partIn 170 = .ok (.iconst 0, 1) := by decide +kernel
theorem dX10_partIn_171 : decode cX10_partIn 171 = .ok (.iadd, 1) := by decide +kernel
theorem dX10_partIn_172 : decode cX10_partIn 172 = .ok (.istore 8, 2) := by decide +kernel
theorem dX10_partIn_174 : decode cX10_partIn 174 = .ok (.iinc 9 1, 3) := by decide +kernel
theorem dX10_partIn_177 : decode cX10_partIn 177 = .ok (.goto (-54), 3) := by decide +kernel
theorem dX10_partIn_180 : decode cX10_partIn 180 = .ok (.iload 8, 2) := by decide +kernel
theorem dX10_partIn_182 : decode cX10_partIn 182 = .ok (.aload_n 1, 1) := by decide +kernel
theorem dX10_partIn_183 : decode cX10_partIn 183 = .ok (.iconst 1, 1) := by decide +kernel
theorem dX10_partIn_184 : decode cX10_partIn 184 = .ok (.iaload, 1) := by decide +kernel
theorem dX10_partIn_185 : decode cX10_partIn 185 = .ok (.invokestatic 330, 3) := by decide +kernel
theorem dX10_partIn_188 : decode cX10_partIn 188 = .ok (.idiv, 1) := by decide +kernel
theorem dX10_partIn_189 : decode cX10_partIn 189 = .ok (.ireturn, 1) := by decide +kernel
theorem dX10_waveIn_0 : decode cX10_waveIn 0 = .ok (.iconst 0, 1) := by decide +kernel
theorem dX10_waveIn_1 : decode cX10_waveIn 1 = .ok (.istore 5, 2) := by decide +kernel
theorem dX10_waveIn_3 : decode cX10_waveIn 3 = .ok (.iconst 0, 1) := by decide +kernel
theorem dX10_waveIn_4 : decode cX10_waveIn 4 = .ok (.istore 6, 2) := by decide +kernel
theorem dX10_waveIn_6 : decode cX10_waveIn 6 = .ok (.iload 6, 2) := by decide +kernel
theorem dX10_waveIn_8 : decode cX10_waveIn 8 = .ok (.aload_n 0, 1) := by decide +kernel
theorem dX10_waveIn_9 : decode cX10_waveIn 9 = .ok (.getfield 17, 3) := by decide +kernel
theorem dX10_waveIn_12 : decode cX10_waveIn 12 = .ok (.iconst 4, 1) := by decide +kernel
theorem dX10_waveIn_13 : decode cX10_waveIn 13 = .ok (.iaload, 1) := by decide +kernel
theorem dX10_waveIn_14 : decode cX10_waveIn 14 = .ok (.if_icmp .ge 25, 3) := by decide +kernel
theorem dX10_waveIn_17 : decode cX10_waveIn 17 = .ok (.iload 5, 2) := by decide +kernel
theorem dX10_waveIn_19 : decode cX10_waveIn 19 = .ok (.aload_n 0, 1) := by decide +kernel
theorem dX10_waveIn_20 : decode cX10_waveIn 20 = .ok (.aload_n 1, 1) := by decide +kernel
theorem dX10_waveIn_21 : decode cX10_waveIn 21 = .ok (.iload 6, 2) := by decide +kernel
theorem dX10_waveIn_23 : decode cX10_waveIn 23 = .ok (.iload_n 2, 1) := by decide +kernel
theorem dX10_waveIn_24 : decode cX10_waveIn 24 = .ok (.iload_n 3, 1) := by decide +kernel
theorem dX10_waveIn_25 : decode cX10_waveIn 25 = .ok (.iload 4, 2) := by decide +kernel
theorem dX10_waveIn_27 : decode cX10_waveIn 27 = .ok (.invokevirtual 333, 3) := by decide +kernel
theorem dX10_waveIn_30 : decode cX10_waveIn 30 = .ok (.iadd, 1) := by decide +kernel
theorem dX10_waveIn_31 : decode cX10_waveIn 31 = .ok (.istore 5, 2) := by decide +kernel
theorem dX10_waveIn_33 : decode cX10_waveIn 33 = .ok (.iinc 6 1, 3) := by decide +kernel
theorem dX10_waveIn_36 : decode cX10_waveIn 36 = .ok (.goto (-30), 3) := by decide +kernel
theorem dX10_waveIn_39 : decode cX10_waveIn 39 = .ok (.iconst 0, 1) := by decide +kernel
theorem dX10_waveIn_40 : decode cX10_waveIn 40 = .ok (.istore 6, 2) := by decide +kernel
theorem dX10_waveIn_42 : decode cX10_waveIn 42 = .ok (.iload 6, 2) := by decide +kernel
theorem dX10_waveIn_44 : decode cX10_waveIn 44 = .ok (.aload_n 0, 1) := by decide +kernel
theorem dX10_waveIn_45 : decode cX10_waveIn 45 = .ok (.getfield 17, 3) := by decide +kernel
theorem dX10_waveIn_48 : decode cX10_waveIn 48 = .ok (.bipush 60, 2) := by decide +kernel
theorem dX10_waveIn_50 : decode cX10_waveIn 50 = .ok (.iaload, 1) := by decide +kernel
theorem dX10_waveIn_51 : decode cX10_waveIn 51 = .ok (.if_icmp .ge 83, 3) := by decide +kernel
theorem dX10_waveIn_54 : decode cX10_waveIn 54 = .ok (.bipush 61, 2) := by decide +kernel
theorem dX10_waveIn_56 : decode cX10_waveIn 56 = .ok (.iconst 5, 1) := by decide +kernel
theorem dX10_waveIn_57 : decode cX10_waveIn 57 = .ok (.iload 6, 2) := by decide +kernel
theorem dX10_waveIn_59 : decode cX10_waveIn 59 = .ok (.imul, 1) := by decide +kernel
theorem dX10_waveIn_60 : decode cX10_waveIn 60 = .ok (.iadd, 1) := by decide +kernel
theorem dX10_waveIn_61 : decode cX10_waveIn 61 = .ok (.istore 7, 2) := by decide +kernel
theorem dX10_waveIn_63 : decode cX10_waveIn 63 = .ok (.iload_n 2, 1) := by decide +kernel
theorem dX10_waveIn_64 : decode cX10_waveIn 64 = .ok (.aload_n 0, 1) := by decide +kernel
theorem dX10_waveIn_65 : decode cX10_waveIn 65 = .ok (.getfield 17, 3) := by decide +kernel
theorem dX10_waveIn_68 : decode cX10_waveIn 68 = .ok (.iload 7, 2) := by decide +kernel
theorem dX10_waveIn_70 : decode cX10_waveIn 70 = .ok (.iaload, 1) := by decide +kernel
theorem dX10_waveIn_71 : decode cX10_waveIn 71 = .ok (.aload_n 0, 1) := by decide +kernel
theorem dX10_waveIn_72 : decode cX10_waveIn 72 = .ok (.getfield 17, 3) := by decide +kernel
theorem dX10_waveIn_75 : decode cX10_waveIn 75 = .ok (.iload 7, 2) := by decide +kernel
theorem dX10_waveIn_77 : decode cX10_waveIn 77 = .ok (.iconst 2, 1) := by decide +kernel
theorem dX10_waveIn_78 : decode cX10_waveIn 78 = .ok (.iadd, 1) := by decide +kernel
theorem dX10_waveIn_79 : decode cX10_waveIn 79 = .ok (.iaload, 1) := by decide +kernel
theorem dX10_waveIn_80 : decode cX10_waveIn 80 = .ok (.invokestatic 93, 3) := by decide +kernel
theorem dX10_waveIn_83 : decode cX10_waveIn 83 = .ok (.ifCond .eq 45, 3) := by decide +kernel
theorem dX10_waveIn_86 : decode cX10_waveIn 86 = .ok (.iload_n 3, 1) := by decide +kernel
theorem dX10_waveIn_87 : decode cX10_waveIn 87 = .ok (.aload_n 0, 1) := by decide +kernel
theorem dX10_waveIn_88 : decode cX10_waveIn 88 = .ok (.getfield 17, 3) := by decide +kernel
theorem dX10_waveIn_91 : decode cX10_waveIn 91 = .ok (.iload 7, 2) := by decide +kernel
theorem dX10_waveIn_93 : decode cX10_waveIn 93 = .ok (.iconst 1, 1) := by decide +kernel
theorem dX10_waveIn_94 : decode cX10_waveIn 94 = .ok (.iadd, 1) := by decide +kernel
theorem dX10_waveIn_95 : decode cX10_waveIn 95 = .ok (.iaload, 1) := by decide +kernel
theorem dX10_waveIn_96 : decode cX10_waveIn 96 = .ok (.aload_n 0, 1) := by decide +kernel
theorem dX10_waveIn_97 : decode cX10_waveIn 97 = .ok (.getfield 17, 3) := by decide +kernel
theorem dX10_waveIn_100 : decode cX10_waveIn 100 = .ok (.iload 7, 2) := by decide +kernel
theorem dX10_waveIn_102 : decode cX10_waveIn 102 = .ok (.iconst 3, 1) := by decide +kernel
theorem dX10_waveIn_103 : decode cX10_waveIn 103 = .ok (.iadd, 1) := by decide +kernel
theorem dX10_waveIn_104 : decode cX10_waveIn 104 = .ok (.iaload, 1) := by decide +kernel
theorem dX10_waveIn_105 : decode cX10_waveIn 105 = .ok (.invokestatic 93, 3) := by decide +kernel
theorem dX10_waveIn_108 : decode cX10_waveIn 108 = .ok (.ifCond .eq 20, 3) := by decide +kernel
theorem dX10_waveIn_111 : decode cX10_waveIn 111 = .ok (.iload 5, 2) := by decide +kernel
theorem dX10_waveIn_113 : decode cX10_waveIn 113 = .ok (.aload_n 0, 1) := by decide +kernel
theorem dX10_waveIn_114 : decode cX10_waveIn 114 = .ok (.getfield 17, 3) := by decide +kernel
theorem dX10_waveIn_117 : decode cX10_waveIn 117 = .ok (.iload 7, 2) := by decide +kernel
theorem dX10_waveIn_119 : decode cX10_waveIn 119 = .ok (.iconst 4, 1) := by decide +kernel
theorem dX10_waveIn_120 : decode cX10_waveIn 120 = .ok (.iadd, 1) := by decide +kernel
theorem dX10_waveIn_121 : decode cX10_waveIn 121 = .ok (.iaload, 1) := by decide +kernel
theorem dX10_waveIn_122 : decode cX10_waveIn 122 = .ok (.imul, 1) := by decide +kernel
theorem dX10_waveIn_123 : decode cX10_waveIn 123 = .ok (.bipush 100, 2) := by decide +kernel
theorem dX10_waveIn_125 : decode cX10_waveIn 125 = .ok (.idiv, 1) := by decide +kernel
theorem dX10_waveIn_126 : decode cX10_waveIn 126 = .ok (.istore 5, 2) := by decide +kernel
theorem dX10_waveIn_128 : decode cX10_waveIn 128 = .ok (.iinc 6 1, 3) := by decide +kernel
theorem dX10_waveIn_131 : decode cX10_waveIn 131 = .ok (.goto (-89), 3) := by decide +kernel
theorem dX10_waveIn_134 : decode cX10_waveIn 134 = .ok (.iload 5, 2) := by decide +kernel
theorem dX10_waveIn_136 : decode cX10_waveIn 136 = .ok (.ireturn, 1) := by decide +kernel
theorem dX10_isNodeIn_0 : decode cX10_isNodeIn 0 = .ok (.iconst 0, 1) := by decide +kernel
theorem dX10_isNodeIn_1 : decode cX10_isNodeIn 1 = .ok (.istore 6, 2) := by decide +kernel
theorem dX10_isNodeIn_3 : decode cX10_isNodeIn 3 = .ok (.iload 6, 2) := by decide +kernel
theorem dX10_isNodeIn_5 : decode cX10_isNodeIn 5 = .ok (.iload 4, 2) := by decide +kernel
theorem dX10_isNodeIn_7 : decode cX10_isNodeIn 7 = .ok (.if_icmp .ge 32, 3) := by decide +kernel
theorem dX10_isNodeIn_10 : decode cX10_isNodeIn 10 = .ok (.aload_n 0, 1) := by decide +kernel
theorem dX10_isNodeIn_11 : decode cX10_isNodeIn 11 = .ok (.aload_n 1, 1) := by decide +kernel
theorem dX10_isNodeIn_12 : decode cX10_isNodeIn 12 = .ok (.iload_n 2, 1) := by decide +kernel
theorem dX10_isNodeIn_13 : decode cX10_isNodeIn 13 = .ok (.iload_n 3, 1) := by decide +kernel
theorem dX10_isNodeIn_14 : decode cX10_isNodeIn 14 = .ok (.aload_n 1, 1) := by decide +kernel
theorem dX10_isNodeIn_15 : decode cX10_isNodeIn 15 = .ok (.iconst 0, 1) := by decide +kernel
theorem dX10_isNodeIn_16 : decode cX10_isNodeIn 16 = .ok (.iaload, 1) := by decide +kernel
theorem dX10_isNodeIn_17 : decode cX10_isNodeIn 17 = .ok (.iload 6, 2) := by decide +kernel
theorem dX10_isNodeIn_19 : decode cX10_isNodeIn 19 = .ok (.iadd, 1) := by decide +kernel
theorem dX10_isNodeIn_20 : decode cX10_isNodeIn 20 = .ok (.invokevirtual 337, 3) := by decide +kernel
theorem dX10_isNodeIn_23 : decode cX10_isNodeIn 23 = .ok (.invokestatic 262, 3) := by decide +kernel
theorem dX10_isNodeIn_26 : decode cX10_isNodeIn 26 = .ok (.iload 5, 2) := by decide +kernel
theorem dX10_isNodeIn_28 : decode cX10_isNodeIn 28 = .ok (.if_icmp .le 5, 3) := by decide +kernel
theorem dX10_isNodeIn_31 : decode cX10_isNodeIn 31 = .ok (.iconst 0, 1) := by decide +kernel
theorem dX10_isNodeIn_32 : decode cX10_isNodeIn 32 = .ok (.ireturn, 1) := by decide +kernel
theorem dX10_isNodeIn_33 : decode cX10_isNodeIn 33 = .ok (.iinc 6 1, 3) := by decide +kernel
theorem dX10_isNodeIn_36 : decode cX10_isNodeIn 36 = .ok (.goto (-33), 3) := by decide +kernel
theorem dX10_isNodeIn_39 : decode cX10_isNodeIn 39 = .ok (.iconst 1, 1) := by decide +kernel
theorem dX10_isNodeIn_40 : decode cX10_isNodeIn 40 = .ok (.ireturn, 1) := by decide +kernel
theorem dX10_energyIn_0 : decode cX10_energyIn 0 = .ok (.lconst 0, 1) := by decide +kernel
theorem dX10_energyIn_1 : decode cX10_energyIn 1 = .ok (.lstore 5, 2) := by decide +kernel
theorem dX10_energyIn_3 : decode cX10_energyIn 3 = .ok (.iconst 0, 1) := by decide +kernel
theorem dX10_energyIn_4 : decode cX10_energyIn 4 = .ok (.istore 7, 2) := by decide +kernel
theorem dX10_energyIn_6 : decode cX10_energyIn 6 = .ok (.iload 7, 2) := by decide +kernel
theorem dX10_energyIn_8 : decode cX10_energyIn 8 = .ok (.iload 4, 2) := by decide +kernel
theorem dX10_energyIn_10 : decode cX10_energyIn 10 = .ok (.if_icmp .ge 35, 3) := by decide +kernel
theorem dX10_energyIn_13 : decode cX10_energyIn 13 = .ok (.aload_n 0, 1) := by decide +kernel
theorem dX10_energyIn_14 : decode cX10_energyIn 14 = .ok (.aload_n 1, 1) := by decide +kernel
theorem dX10_energyIn_15 : decode cX10_energyIn 15 = .ok (.iload_n 2, 1) := by decide +kernel
theorem dX10_energyIn_16 : decode cX10_energyIn 16 = .ok (.iload_n 3, 1) := by decide +kernel
theorem dX10_energyIn_17 : decode cX10_energyIn 17 = .ok (.aload_n 1, 1) := by decide +kernel
theorem dX10_energyIn_18 : decode cX10_energyIn 18 = .ok (.iconst 0, 1) := by decide +kernel
theorem dX10_energyIn_19 : decode cX10_energyIn 19 = .ok (.iaload, 1) := by decide +kernel
theorem dX10_energyIn_20 : decode cX10_energyIn 20 = .ok (.iload 7, 2) := by decide +kernel
theorem dX10_energyIn_22 : decode cX10_energyIn 22 = .ok (.iadd, 1) := by decide +kernel
theorem dX10_energyIn_23 : decode cX10_energyIn 23 = .ok (.invokevirtual 337, 3) := by decide +kernel
theorem dX10_energyIn_26 : decode cX10_energyIn 26 = .ok (.i2l, 1) := by decide +kernel
theorem dX10_energyIn_27 : decode cX10_energyIn 27 = .ok (.lstore 8, 2) := by decide +kernel
theorem dX10_energyIn_29 : decode cX10_energyIn 29 = .ok (.lload 5, 2) := by decide +kernel
theorem dX10_energyIn_31 : decode cX10_energyIn 31 = .ok (.lload 8, 2) := by decide +kernel
theorem dX10_energyIn_33 : decode cX10_energyIn 33 = .ok (.lload 8, 2) := by decide +kernel
theorem dX10_energyIn_35 : decode cX10_energyIn 35 = .ok (.lmul, 1) := by decide +kernel
theorem dX10_energyIn_36 : decode cX10_energyIn 36 = .ok (.ladd, 1) := by decide +kernel
theorem dX10_energyIn_37 : decode cX10_energyIn 37 = .ok (.lstore 5, 2) := by decide +kernel
theorem dX10_energyIn_39 : decode cX10_energyIn 39 = .ok (.iinc 7 1, 3) := by decide +kernel
theorem dX10_energyIn_42 : decode cX10_energyIn 42 = .ok (.goto (-36), 3) := by decide +kernel
theorem dX10_energyIn_45 : decode cX10_energyIn 45 = .ok (.lload 5, 2) := by decide +kernel
theorem dX10_energyIn_47 : decode cX10_energyIn 47 = .ok (.lreturn, 1) := by decide +kernel
theorem dX10_mayAsk_0 : decode cX10_mayAsk 0 = .ok (.aload_n 0, 1) := by decide +kernel
theorem dX10_mayAsk_1 : decode cX10_mayAsk 1 = .ok (.aload_n 0, 1) := by decide +kernel
theorem dX10_mayAsk_2 : decode cX10_mayAsk 2 = .ok (.getfield 249, 3) := by decide +kernel
theorem dX10_mayAsk_5 : decode cX10_mayAsk 5 = .ok (.ifCond .ne 7, 3) := by decide +kernel
theorem dX10_mayAsk_8 : decode cX10_mayAsk 8 = .ok (.iconst 1, 1) := by decide +kernel
theorem dX10_mayAsk_9 : decode cX10_mayAsk 9 = .ok (.goto 12, 3) := by decide +kernel
theorem dX10_mayAsk_12 : decode cX10_mayAsk 12 = .ok (.iload_n 1, 1) := by decide +kernel
theorem dX10_mayAsk_13 : decode cX10_mayAsk 13 = .ok (.ifCond .eq 7, 3) := by decide +kernel
theorem dX10_mayAsk_16 : decode cX10_mayAsk 16 = .ok (.iconst 0, 1) := by decide +kernel
theorem dX10_mayAsk_17 : decode cX10_mayAsk 17 = .ok (.goto 4, 3) := by decide +kernel
theorem dX10_mayAsk_20 : decode cX10_mayAsk 20 = .ok (.iconst 2, 1) := by decide +kernel
theorem dX10_mayAsk_21 : decode cX10_mayAsk 21 = .ok (.putfield 64, 3) := by decide +kernel
theorem dX10_mayAsk_24 : decode cX10_mayAsk 24 = .ok (.aload_n 0, 1) := by decide +kernel
theorem dX10_mayAsk_25 : decode cX10_mayAsk 25 = .ok (.getfield 64, 3) := by decide +kernel
theorem dX10_mayAsk_28 : decode cX10_mayAsk 28 = .ok (.ifCond .ne 7, 3) := by decide +kernel
theorem dX10_mayAsk_31 : decode cX10_mayAsk 31 = .ok (.iconst 1, 1) := by decide +kernel
theorem dX10_mayAsk_32 : decode cX10_mayAsk 32 = .ok (.goto 4, 3) := by decide +kernel
theorem dX10_mayAsk_35 : decode cX10_mayAsk 35 = .ok (.iconst 0, 1) := by decide +kernel
theorem dX10_mayAsk_36 : decode cX10_mayAsk 36 = .ok (.ireturn, 1) := by decide +kernel
theorem dX10_mayAskFor_0 : decode cX10_mayAskFor 0 = .ok (.aload_n 0, 1) := by decide +kernel
theorem dX10_mayAskFor_1 : decode cX10_mayAskFor 1 = .ok (.aload_n 0, 1) := by decide +kernel
theorem dX10_mayAskFor_2 : decode cX10_mayAskFor 2 = .ok (.getfield 249, 3) := by decide +kernel
theorem dX10_mayAskFor_5 : decode cX10_mayAskFor 5 = .ok (.ifCond .ne 7, 3) := by decide +kernel
theorem dX10_mayAskFor_8 : decode cX10_mayAskFor 8 = .ok (.iconst 1, 1) := by decide +kernel
theorem dX10_mayAskFor_9 : decode cX10_mayAskFor 9 = .ok (.goto 20, 3) := by decide +kernel
theorem dX10_mayAskFor_12 : decode cX10_mayAskFor 12 = .ok (.iload_n 1, 1) := by decide +kernel
theorem dX10_mayAskFor_13 : decode cX10_mayAskFor 13 = .ok (.ifCond .ne 7, 3) := by decide +kernel
theorem dX10_mayAskFor_16 : decode cX10_mayAskFor 16 = .ok (.iconst 2, 1) := by decide +kernel
theorem dX10_mayAskFor_17 : decode cX10_mayAskFor 17 = .ok (.goto 12, 3) := by decide +kernel
theorem dX10_mayAskFor_20 : decode cX10_mayAskFor 20 = .ok (.iload_n 2, 1) := by decide +kernel
theorem dX10_mayAskFor_21 : decode cX10_mayAskFor 21 = .ok (.ifCond .eq 7, 3) := by decide +kernel
theorem dX10_mayAskFor_24 : decode cX10_mayAskFor 24 = .ok (.iconst 0, 1) := by decide +kernel
theorem dX10_mayAskFor_25 : decode cX10_mayAskFor 25 = .ok (.goto 4, 3) := by decide +kernel
theorem dX10_mayAskFor_28 : decode cX10_mayAskFor 28 = .ok (.iconst 3, 1) := by decide +kernel
theorem dX10_mayAskFor_29 : decode cX10_mayAskFor 29 = .ok (.putfield 64, 3) := by decide +kernel
theorem dX10_mayAskFor_32 : decode cX10_mayAskFor 32 = .ok (.aload_n 0, 1) := by decide +kernel
theorem dX10_mayAskFor_33 : decode cX10_mayAskFor 33 = .ok (.getfield 64, 3) := by decide +kernel
theorem dX10_mayAskFor_36 : decode cX10_mayAskFor 36 = .ok (.ifCond .ne 7, 3) := by decide +kernel
theorem dX10_mayAskFor_39 : decode cX10_mayAskFor 39 = .ok (.iconst 1, 1) := by decide +kernel
theorem dX10_mayAskFor_40 : decode cX10_mayAskFor 40 = .ok (.goto 4, 3) := by decide +kernel
theorem dX10_mayAskFor_43 : decode cX10_mayAskFor 43 = .ok (.iconst 0, 1) := by decide +kernel
theorem dX10_mayAskFor_44 : decode cX10_mayAskFor 44 = .ok (.ireturn, 1) := by decide +kernel
theorem dX10_told_0 : decode cX10_told 0 = .ok (.aload_n 0, 1) := by decide +kernel
theorem dX10_told_1 : decode cX10_told 1 = .ok (.iconst 0, 1) := by decide +kernel
theorem dX10_told_2 : decode cX10_told 2 = .ok (.putfield 64, 3) := by decide +kernel
theorem dX10_told_5 : decode cX10_told 5 = .ok (.aload_n 0, 1) := by decide +kernel
theorem dX10_told_6 : decode cX10_told 6 = .ok (.getfield 249, 3) := by decide +kernel
theorem dX10_told_9 : decode cX10_told 9 = .ok (.ifCond .eq 7, 3) := by decide +kernel
theorem dX10_told_12 : decode cX10_told 12 = .ok (.iload_n 1, 1) := by decide +kernel
theorem dX10_told_13 : decode cX10_told 13 = .ok (.goto 4, 3) := by decide +kernel
theorem dX10_told_16 : decode cX10_told 16 = .ok (.iconst 0, 1) := by decide +kernel
theorem dX10_told_17 : decode cX10_told 17 = .ok (.ireturn, 1) := by decide +kernel
theorem dX10_isColumn_0 : decode cX10_isColumn 0 = .ok (.iload_n 1, 1) := by decide +kernel
theorem dX10_isColumn_1 : decode cX10_isColumn 1 = .ok (.iconst 0, 1) := by decide +kernel
theorem dX10_isColumn_2 : decode cX10_isColumn 2 = .ok (.aload_n 0, 1) := by decide +kernel
theorem dX10_isColumn_3 : decode cX10_isColumn 3 = .ok (.getfield 17, 3) := by decide +kernel
theorem dX10_isColumn_6 : decode cX10_isColumn 6 = .ok (.iconst 0, 1) := by decide +kernel
theorem dX10_isColumn_7 : decode cX10_isColumn 7 = .ok (.iaload, 1) := by decide +kernel
theorem dX10_isColumn_8 : decode cX10_isColumn 8 = .ok (.iconst 1, 1) := by decide +kernel
theorem dX10_isColumn_9 : decode cX10_isColumn 9 = .ok (.isub, 1) := by decide +kernel
theorem dX10_isColumn_10 : decode cX10_isColumn 10 = .ok (.invokestatic 93, 3) := by decide +kernel
theorem dX10_isColumn_13 : decode cX10_isColumn 13 = .ok (.ireturn, 1) := by decide +kernel
theorem dX10_isRow_0 : decode cX10_isRow 0 = .ok (.iload_n 1, 1) := by decide +kernel
theorem dX10_isRow_1 : decode cX10_isRow 1 = .ok (.iconst 0, 1) := by decide +kernel
theorem dX10_isRow_2 : decode cX10_isRow 2 = .ok (.aload_n 0, 1) := by decide +kernel
theorem dX10_isRow_3 : decode cX10_isRow 3 = .ok (.getfield 17, 3) := by decide +kernel
theorem dX10_isRow_6 : decode cX10_isRow 6 = .ok (.iconst 1, 1) := by decide +kernel
theorem dX10_isRow_7 : decode cX10_isRow 7 = .ok (.iaload, 1) := by decide +kernel
theorem dX10_isRow_8 : decode cX10_isRow 8 = .ok (.iconst 1, 1) := by decide +kernel
theorem dX10_isRow_9 : decode cX10_isRow 9 = .ok (.isub, 1) := by decide +kernel
theorem dX10_isRow_10 : decode cX10_isRow 10 = .ok (.invokestatic 93, 3) := by decide +kernel
theorem dX10_isRow_13 : decode cX10_isRow 13 = .ok (.ireturn, 1) := by decide +kernel
theorem dX10_isCell_0 : decode cX10_isCell 0 = .ok (.aload_n 0, 1) := by decide +kernel
theorem dX10_isCell_1 : decode cX10_isCell 1 = .ok (.iload_n 1, 1) := by decide +kernel
theorem dX10_isCell_2 : decode cX10_isCell 2 = .ok (.invokevirtual 340, 3) := by decide +kernel
theorem dX10_isCell_5 : decode cX10_isCell 5 = .ok (.ifCond .eq 15, 3) := by decide +kernel
theorem dX10_isCell_8 : decode cX10_isCell 8 = .ok (.aload_n 0, 1) := by decide +kernel
theorem dX10_isCell_9 : decode cX10_isCell 9 = .ok (.iload_n 2, 1) := by decide +kernel
theorem dX10_isCell_10 : decode cX10_isCell 10 = .ok (.invokevirtual 343, 3) := by decide +kernel
theorem dX10_isCell_13 : decode cX10_isCell 13 = .ok (.ifCond .eq 7, 3) := by decide +kernel
theorem dX10_isCell_16 : decode cX10_isCell 16 = .ok (.iconst 1, 1) := by decide +kernel
theorem dX10_isCell_17 : decode cX10_isCell 17 = .ok (.goto 4, 3) := by decide +kernel
theorem dX10_isCell_20 : decode cX10_isCell 20 = .ok (.iconst 0, 1) := by decide +kernel
theorem dX10_isCell_21 : decode cX10_isCell 21 = .ok (.ireturn, 1) := by decide +kernel
theorem dX10_isSource_0 : decode cX10_isSource 0 = .ok (.iload_n 1, 1) := by decide +kernel
theorem dX10_isSource_1 : decode cX10_isSource 1 = .ok (.iconst 0, 1) := by decide +kernel
theorem dX10_isSource_2 : decode cX10_isSource 2 = .ok (.aload_n 0, 1) := by decide +kernel
theorem dX10_isSource_3 : decode cX10_isSource 3 = .ok (.getfield 17, 3) := by decide +kernel
theorem dX10_isSource_6 : decode cX10_isSource 6 = .ok (.iconst 4, 1) := by decide +kernel
theorem dX10_isSource_7 : decode cX10_isSource 7 = .ok (.iaload, 1) := by decide +kernel
theorem dX10_isSource_8 : decode cX10_isSource 8 = .ok (.iconst 1, 1) := by decide +kernel
theorem dX10_isSource_9 : decode cX10_isSource 9 = .ok (.isub, 1) := by decide +kernel
theorem dX10_isSource_10 : decode cX10_isSource 10 = .ok (.invokestatic 93, 3) := by decide +kernel
theorem dX10_isSource_13 : decode cX10_isSource 13 = .ok (.ireturn, 1) := by decide +kernel
theorem dX10_isTime_0 : decode cX10_isTime 0 = .ok (.iload_n 0, 1) := by decide +kernel
theorem dX10_isTime_1 : decode cX10_isTime 1 = .ok (.iconst 0, 1) := by decide +kernel
theorem dX10_isTime_2 : decode cX10_isTime 2 = .ok (.sipush 9999, 3) := by decide +kernel
theorem dX10_isTime_5 : decode cX10_isTime 5 = .ok (.invokestatic 93, 3) := by decide +kernel
theorem dX10_isTime_8 : decode cX10_isTime 8 = .ok (.ireturn, 1) := by decide +kernel
theorem dX10_isRun_0 : decode cX10_isRun 0 = .ok (.iload_n 0, 1) := by decide +kernel
theorem dX10_isRun_1 : decode cX10_isRun 1 = .ok (.iconst 1, 1) := by decide +kernel
theorem dX10_isRun_2 : decode cX10_isRun 2 = .ok (.bipush 40, 2) := by decide +kernel
theorem dX10_isRun_4 : decode cX10_isRun 4 = .ok (.invokestatic 93, 3) := by decide +kernel
theorem dX10_isRun_7 : decode cX10_isRun 7 = .ok (.ireturn, 1) := by decide +kernel
theorem dX10_isTolerance_0 : decode cX10_isTolerance 0 = .ok (.iload_n 0, 1) := by decide +kernel
theorem dX10_isTolerance_1 : decode cX10_isTolerance 1 = .ok (.iconst 0, 1) := by decide +kernel
theorem dX10_isTolerance_2 : decode cX10_isTolerance 2 = .ok (.sipush 9999, 3) := by decide +kernel
theorem dX10_isTolerance_5 : decode cX10_isTolerance 5 = .ok (.invokestatic 93, 3) := by decide +kernel
theorem dX10_isTolerance_8 : decode cX10_isTolerance 8 = .ok (.ireturn, 1) := by decide +kernel
theorem dX10_isShare_0 : decode cX10_isShare 0 = .ok (.iload_n 0, 1) := by decide +kernel
theorem dX10_isShare_1 : decode cX10_isShare 1 = .ok (.iconst 1, 1) := by decide +kernel
theorem dX10_isShare_2 : decode cX10_isShare 2 = .ok (.bipush 100, 2) := by decide +kernel
theorem dX10_isShare_4 : decode cX10_isShare 4 = .ok (.invokestatic 93, 3) := by decide +kernel
theorem dX10_isShare_7 : decode cX10_isShare 7 = .ok (.ireturn, 1) := by decide +kernel
theorem dX10_time_0 : decode cX10_time 0 = .ok (.aload_n 0, 1) := by decide +kernel
theorem dX10_time_1 : decode cX10_time 1 = .ok (.aload_n 0, 1) := by decide +kernel
theorem dX10_time_2 : decode cX10_time 2 = .ok (.getfield 23, 3) := by decide +kernel
theorem dX10_time_5 : decode cX10_time 5 = .ok (.iconst 0, 1) := by decide +kernel
theorem dX10_time_6 : decode cX10_time 6 = .ok (.iaload, 1) := by decide +kernel
theorem dX10_time_7 : decode cX10_time 7 = .ok (.invokevirtual 346, 3) := by decide +kernel
theorem dX10_time_10 : decode cX10_time 10 = .ok (.ireturn, 1) := by decide +kernel
theorem dX10_width_0 : decode cX10_width 0 = .ok (.aload_n 0, 1) := by decide +kernel
theorem dX10_width_1 : decode cX10_width 1 = .ok (.aload_n 0, 1) := by decide +kernel
theorem dX10_width_2 : decode cX10_width 2 = .ok (.getfield 17, 3) := by decide +kernel
theorem dX10_width_5 : decode cX10_width 5 = .ok (.iconst 0, 1) := by decide +kernel
theorem dX10_width_6 : decode cX10_width 6 = .ok (.iaload, 1) := by decide +kernel
theorem dX10_width_7 : decode cX10_width 7 = .ok (.invokevirtual 346, 3) := by decide +kernel
theorem dX10_width_10 : decode cX10_width 10 = .ok (.ireturn, 1) := by decide +kernel
theorem dX10_height_0 : decode cX10_height 0 = .ok (.aload_n 0, 1) := by decide +kernel
theorem dX10_height_1 : decode cX10_height 1 = .ok (.aload_n 0, 1) := by decide +kernel
theorem dX10_height_2 : decode cX10_height 2 = .ok (.getfield 17, 3) := by decide +kernel
theorem dX10_height_5 : decode cX10_height 5 = .ok (.iconst 1, 1) := by decide +kernel
theorem dX10_height_6 : decode cX10_height 6 = .ok (.iaload, 1) := by decide +kernel
theorem dX10_height_7 : decode cX10_height 7 = .ok (.invokevirtual 346, 3) := by decide +kernel
theorem dX10_height_10 : decode cX10_height 10 = .ok (.ireturn, 1) := by decide +kernel
theorem dX10_wall_0 : decode cX10_wall 0 = .ok (.aload_n 0, 1) := by decide +kernel
theorem dX10_wall_1 : decode cX10_wall 1 = .ok (.iconst 1, 1) := by decide +kernel
theorem dX10_wall_2 : decode cX10_wall 2 = .ok (.invokevirtual 349, 3) := by decide +kernel
theorem dX10_wall_5 : decode cX10_wall 5 = .ok (.ifCond .eq 12, 3) := by decide +kernel
theorem dX10_wall_8 : decode cX10_wall 8 = .ok (.aload_n 0, 1) := by decide +kernel
theorem dX10_wall_9 : decode cX10_wall 9 = .ok (.getfield 17, 3) := by decide +kernel
theorem dX10_wall_12 : decode cX10_wall 12 = .ok (.iconst 3, 1) := by decide +kernel
theorem dX10_wall_13 : decode cX10_wall 13 = .ok (.iaload, 1) := by decide +kernel
theorem dX10_wall_14 : decode cX10_wall 14 = .ok (.goto 4, 3) := by decide +kernel
theorem dX10_wall_17 : decode cX10_wall 17 = .ok (.iconst 0, 1) := by decide +kernel
theorem dX10_wall_18 : decode cX10_wall 18 = .ok (.ireturn, 1) := by decide +kernel
theorem dX10_openRows_0 : decode cX10_openRows 0 = .ok (.aload_n 0, 1) := by decide +kernel
theorem dX10_openRows_1 : decode cX10_openRows 1 = .ok (.iconst 1, 1) := by decide +kernel
theorem dX10_openRows_2 : decode cX10_openRows 2 = .ok (.invokevirtual 349, 3) := by decide +kernel
theorem dX10_openRows_5 : decode cX10_openRows 5 = .ok (.ifCond .eq 12, 3) := by decide +kernel
theorem dX10_openRows_8 : decode cX10_openRows 8 = .ok (.aload_n 0, 1) := by decide +kernel
theorem dX10_openRows_9 : decode cX10_openRows 9 = .ok (.getfield 23, 3) := by decide +kernel
theorem dX10_openRows_12 : decode cX10_openRows 12 = .ok (.iconst 1, 1) := by decide +kernel
theorem dX10_openRows_13 : decode cX10_openRows 13 = .ok (.iaload, 1) := by decide +kernel
theorem dX10_openRows_14 : decode cX10_openRows 14 = .ok (.goto 4, 3) := by decide +kernel
theorem dX10_openRows_17 : decode cX10_openRows 17 = .ok (.iconst 0, 1) := by decide +kernel
theorem dX10_openRows_18 : decode cX10_openRows 18 = .ok (.ireturn, 1) := by decide +kernel
theorem dX10_isOpen_0 : decode cX10_isOpen 0 = .ok (.aload_n 0, 1) := by decide +kernel
theorem dX10_isOpen_1 : decode cX10_isOpen 1 = .ok (.aload_n 0, 1) := by decide +kernel
theorem dX10_isOpen_2 : decode cX10_isOpen 2 = .ok (.iload_n 1, 1) := by decide +kernel
theorem dX10_isOpen_3 : decode cX10_isOpen 3 = .ok (.invokevirtual 343, 3) := by decide +kernel
theorem dX10_isOpen_6 : decode cX10_isOpen 6 = .ok (.invokevirtual 349, 3) := by decide +kernel
theorem dX10_isOpen_9 : decode cX10_isOpen 9 = .ok (.ifCond .eq 19, 3) := by decide +kernel
theorem dX10_isOpen_12 : decode cX10_isOpen 12 = .ok (.aload_n 0, 1) := by decide +kernel
theorem dX10_isOpen_13 : decode cX10_isOpen 13 = .ok (.aload_n 0, 1) := by decide +kernel
theorem dX10_isOpen_14 : decode cX10_isOpen 14 = .ok (.getfield 23, 3) := by decide +kernel
theorem dX10_isOpen_17 : decode cX10_isOpen 17 = .ok (.iload_n 1, 1) := by decide +kernel
theorem dX10_isOpen_18 : decode cX10_isOpen 18 = .ok (.invokevirtual 277, 3) := by decide +kernel
theorem dX10_isOpen_21 : decode cX10_isOpen 21 = .ok (.ifCond .eq 7, 3) := by decide +kernel
theorem dX10_isOpen_24 : decode cX10_isOpen 24 = .ok (.iconst 1, 1) := by decide +kernel
theorem dX10_isOpen_25 : decode cX10_isOpen 25 = .ok (.goto 4, 3) := by decide +kernel
theorem dX10_isOpen_28 : decode cX10_isOpen 28 = .ok (.iconst 0, 1) := by decide +kernel
theorem dX10_isOpen_29 : decode cX10_isOpen 29 = .ok (.ireturn, 1) := by decide +kernel
theorem dX10_sources_0 : decode cX10_sources 0 = .ok (.aload_n 0, 1) := by decide +kernel
theorem dX10_sources_1 : decode cX10_sources 1 = .ok (.aload_n 0, 1) := by decide +kernel
theorem dX10_sources_2 : decode cX10_sources 2 = .ok (.getfield 17, 3) := by decide +kernel
theorem dX10_sources_5 : decode cX10_sources 5 = .ok (.iconst 4, 1) := by decide +kernel
theorem dX10_sources_6 : decode cX10_sources 6 = .ok (.iaload, 1) := by decide +kernel
theorem dX10_sources_7 : decode cX10_sources 7 = .ok (.invokevirtual 346, 3) := by decide +kernel
theorem dX10_sources_10 : decode cX10_sources 10 = .ok (.ireturn, 1) := by decide +kernel
theorem dX10_sourceAt_0 : decode cX10_sourceAt 0 = .ok (.aload_n 0, 1) := by decide +kernel
theorem dX10_sourceAt_1 : decode cX10_sourceAt 1 = .ok (.aload_n 0, 1) := by decide +kernel
theorem dX10_sourceAt_2 : decode cX10_sourceAt 2 = .ok (.iload_n 1, 1) := by decide +kernel
theorem dX10_sourceAt_3 : decode cX10_sourceAt 3 = .ok (.invokevirtual 353, 3) := by decide +kernel
theorem dX10_sourceAt_6 : decode cX10_sourceAt 6 = .ok (.iload_n 2, 1) := by decide +kernel
theorem dX10_sourceAt_7 : decode cX10_sourceAt 7 = .ok (.iconst 0, 1) := by decide +kernel
theorem dX10_sourceAt_8 : decode cX10_sourceAt 8 = .ok (.iconst 1, 1) := by decide +kernel
theorem dX10_sourceAt_9 : decode cX10_sourceAt 9 = .ok (.invokestatic 93, 3) := by decide +kernel
theorem dX10_sourceAt_12 : decode cX10_sourceAt 12 = .ok (.ifCond .eq 14, 3) := by decide +kernel
theorem dX10_sourceAt_15 : decode cX10_sourceAt 15 = .ok (.iload_n 3, 1) := by decide +kernel
theorem dX10_sourceAt_16 : decode cX10_sourceAt 16 = .ok (.invokestatic 356, 3) := by decide +kernel
theorem dX10_sourceAt_19 : decode cX10_sourceAt 19 = .ok (.ifCond .eq 7, 3) := by decide +kernel
theorem dX10_sourceAt_22 : decode cX10_sourceAt 22 = .ok (.iconst 1, 1) := by decide +kernel
theorem dX10_sourceAt_23 : decode cX10_sourceAt 23 = .ok (.goto 4, 3) := by decide +kernel
theorem dX10_sourceAt_26 : decode cX10_sourceAt 26 = .ok (.iconst 0, 1) := by decide +kernel
theorem dX10_sourceAt_27 : decode cX10_sourceAt 27 = .ok (.invokevirtual 359, 3) := by decide +kernel
theorem dX10_sourceAt_30 : decode cX10_sourceAt 30 = .ok (.ifCond .ne 5, 3) := by decide +kernel
theorem dX10_sourceAt_33 : decode cX10_sourceAt 33 = .ok (.iconst 0, 1) := by decide +kernel
theorem dX10_sourceAt_34 : decode cX10_sourceAt 34 = .ok (.ireturn, 1) := by decide +kernel
theorem dX10_sourceAt_35 : decode cX10_sourceAt 35 = .ok (.iload_n 2, 1) := by decide +kernel
theorem dX10_sourceAt_36 : decode cX10_sourceAt 36 = .ok (.ifCond .ne 16, 3) := by decide +kernel
theorem dX10_sourceAt_39 : decode cX10_sourceAt 39 = .ok (.aload_n 0, 1) := by decide +kernel
theorem dX10_sourceAt_40 : decode cX10_sourceAt 40 = .ok (.aload_n 0, 1) := by decide +kernel
theorem dX10_sourceAt_41 : decode cX10_sourceAt 41 = .ok (.getfield 23, 3) := by decide +kernel
theorem dX10_sourceAt_44 : decode cX10_sourceAt 44 = .ok (.iload_n 1, 1) := by decide +kernel
theorem dX10_sourceAt_45 : decode cX10_sourceAt 45 = .ok (.iload_n 3, 1) := by decide +kernel
theorem dX10_sourceAt_46 : decode cX10_sourceAt 46 = .ok (.invokevirtual 284, 3) := by decide +kernel
theorem dX10_sourceAt_49 : decode cX10_sourceAt 49 = .ok (.goto 13, 3) := by decide +kernel
theorem dX10_sourceAt_52 : decode cX10_sourceAt 52 = .ok (.aload_n 0, 1) := by decide +kernel
theorem dX10_sourceAt_53 : decode cX10_sourceAt 53 = .ok (.aload_n 0, 1) := by decide +kernel
theorem dX10_sourceAt_54 : decode cX10_sourceAt 54 = .ok (.getfield 23, 3) := by decide +kernel
theorem dX10_sourceAt_57 : decode cX10_sourceAt 57 = .ok (.iload_n 1, 1) := by decide +kernel
theorem dX10_sourceAt_58 : decode cX10_sourceAt 58 = .ok (.iload_n 3, 1) := by decide +kernel
theorem dX10_sourceAt_59 : decode cX10_sourceAt 59 = .ok (.invokevirtual 288, 3) := by decide +kernel
theorem dX10_sourceAt_62 : decode cX10_sourceAt 62 = .ok (.ireturn, 1) := by decide +kernel
theorem dX10_property_0 : decode cX10_property 0 = .ok (.aload_n 0, 1) := by decide +kernel
theorem dX10_property_1 : decode cX10_property 1 = .ok (.aload_n 0, 1) := by decide +kernel
theorem dX10_property_2 : decode cX10_property 2 = .ok (.iload_n 1, 1) := by decide +kernel
theorem dX10_property_3 : decode cX10_property 3 = .ok (.invokevirtual 353, 3) := by decide +kernel
theorem dX10_property_6 : decode cX10_property 6 = .ok (.invokevirtual 349, 3) := by decide +kernel
theorem dX10_property_9 : decode cX10_property 9 = .ok (.ifCond .ne 5, 3) := by decide +kernel
theorem dX10_property_12 : decode cX10_property 12 = .ok (.iconst 0, 1) := by decide +kernel
theorem dX10_property_13 : decode cX10_property 13 = .ok (.ireturn, 1) := by decide +kernel
theorem dX10_property_14 : decode cX10_property 14 = .ok (.iload_n 2, 1) := by decide +kernel
theorem dX10_property_15 : decode cX10_property 15 = .ok (.tableswitch 96 0 5 #[37, 47, 56, 66, 76, 86], 37) := by decide +kernel
theorem dX10_property_52 : decode cX10_property 52 = .ok (.aload_n 0, 1) := by decide +kernel
theorem dX10_property_53 : decode cX10_property 53 = .ok (.getfield 23, 3) := by decide +kernel
theorem dX10_property_56 : decode cX10_property 56 = .ok (.bipush 6, 2) := by decide +kernel
theorem dX10_property_58 : decode cX10_property 58 = .ok (.iload_n 1, 1) := by decide +kernel
theorem dX10_property_59 : decode cX10_property 59 = .ok (.iadd, 1) := by decide +kernel
theorem dX10_property_60 : decode cX10_property 60 = .ok (.iaload, 1) := by decide +kernel
theorem dX10_property_61 : decode cX10_property 61 = .ok (.ireturn, 1) := by decide +kernel
theorem dX10_property_62 : decode cX10_property 62 = .ok (.aload_n 0, 1) := by decide +kernel
theorem dX10_property_63 : decode cX10_property 63 = .ok (.getfield 17, 3) := by decide +kernel
theorem dX10_property_66 : decode cX10_property 66 = .ok (.iconst 5, 1) := by decide +kernel
theorem dX10_property_67 : decode cX10_property 67 = .ok (.iload_n 1, 1) := by decide +kernel
theorem dX10_property_68 : decode cX10_property 68 = .ok (.iadd, 1) := by decide +kernel
theorem dX10_property_69 : decode cX10_property 69 = .ok (.iaload, 1) := by decide +kernel
theorem dX10_property_70 : decode cX10_property 70 = .ok (.ireturn, 1) := by decide +kernel
theorem dX10_property_71 : decode cX10_property 71 = .ok (.aload_n 0, 1) := by decide +kernel
theorem dX10_property_72 : decode cX10_property 72 = .ok (.getfield 17, 3) := by decide +kernel
theorem dX10_property_75 : decode cX10_property 75 = .ok (.bipush 9, 2) := by decide +kernel
theorem dX10_property_77 : decode cX10_property 77 = .ok (.iload_n 1, 1) := by decide +kernel
theorem dX10_property_78 : decode cX10_property 78 = .ok (.iadd, 1) := by decide +kernel
theorem dX10_property_79 : decode cX10_property 79 = .ok (.iaload, 1) := by decide +kernel
theorem dX10_property_80 : decode cX10_property 80 = .ok (.ireturn, 1) := by decide +kernel
theorem dX10_property_81 : decode cX10_property 81 = .ok (.aload_n 0, 1) := by decide +kernel
theorem dX10_property_82 : decode cX10_property 82 = .ok (.getfield 23, 3) := by decide +kernel
theorem dX10_property_85 : decode cX10_property 85 = .ok (.bipush 10, 2) := by decide +kernel
theorem dX10_property_87 : decode cX10_property 87 = .ok (.iload_n 1, 1) := by decide +kernel
theorem dX10_property_88 : decode cX10_property 88 = .ok (.iadd, 1) := by decide +kernel
theorem dX10_property_89 : decode cX10_property 89 = .ok (.iaload, 1) := by decide +kernel
theorem dX10_property_90 : decode cX10_property 90 = .ok (.ireturn, 1) := by decide +kernel
theorem dX10_property_91 : decode cX10_property 91 = .ok (.aload_n 0, 1) := by decide +kernel
theorem dX10_property_92 : decode cX10_property 92 = .ok (.getfield 17, 3) := by decide +kernel
theorem dX10_property_95 : decode cX10_property 95 = .ok (.bipush 13, 2) := by decide +kernel
theorem dX10_property_97 : decode cX10_property 97 = .ok (.iload_n 1, 1) := by decide +kernel
theorem dX10_property_98 : decode cX10_property 98 = .ok (.iadd, 1) := by decide +kernel
theorem dX10_property_99 : decode cX10_property 99 = .ok (.iaload, 1) := by decide +kernel
theorem dX10_property_100 : decode cX10_property 100 = .ok (.ireturn, 1) := by decide +kernel
theorem dX10_property_101 : decode cX10_property 101 = .ok (.aload_n 0, 1) := by decide +kernel
theorem dX10_property_102 : decode cX10_property 102 = .ok (.getfield 17, 3) := by decide +kernel
theorem dX10_property_105 : decode cX10_property 105 = .ok (.bipush 17, 2) := by decide +kernel
theorem dX10_property_107 : decode cX10_property 107 = .ok (.iload_n 1, 1) := by decide +kernel
theorem dX10_property_108 : decode cX10_property 108 = .ok (.iadd, 1) := by decide +kernel
theorem dX10_property_109 : decode cX10_property 109 = .ok (.iaload, 1) := by decide +kernel
theorem dX10_property_110 : decode cX10_property 110 = .ok (.ireturn, 1) := by decide +kernel
theorem dX10_property_111 : decode cX10_property 111 = .ok (.aload_n 0, 1) := by decide +kernel
theorem dX10_property_112 : decode cX10_property 112 = .ok (.iconst 3, 1) := by decide +kernel
theorem dX10_property_113 : decode cX10_property 113 = .ok (.invokevirtual 239, 3) := by decide +kernel
theorem dX10_property_116 : decode cX10_property 116 = .ok (.ireturn, 1) := by decide +kernel
theorem dX10_isOn_0 : decode cX10_isOn 0 = .ok (.aload_n 0, 1) := by decide +kernel
theorem dX10_isOn_1 : decode cX10_isOn 1 = .ok (.aload_n 0, 1) := by decide +kernel
theorem dX10_isOn_2 : decode cX10_isOn 2 = .ok (.iload_n 1, 1) := by decide +kernel
theorem dX10_isOn_3 : decode cX10_isOn 3 = .ok (.invokevirtual 353, 3) := by decide +kernel
theorem dX10_isOn_6 : decode cX10_isOn 6 = .ok (.invokevirtual 349, 3) := by decide +kernel
theorem dX10_isOn_9 : decode cX10_isOn 9 = .ok (.ifCond .eq 19, 3) := by decide +kernel
theorem dX10_isOn_12 : decode cX10_isOn 12 = .ok (.aload_n 0, 1) := by decide +kernel
theorem dX10_isOn_13 : decode cX10_isOn 13 = .ok (.getfield 23, 3) := by decide +kernel
theorem dX10_isOn_16 : decode cX10_isOn 16 = .ok (.iconst 2, 1) := by decide +kernel
theorem dX10_isOn_17 : decode cX10_isOn 17 = .ok (.iload_n 1, 1) := by decide +kernel
theorem dX10_isOn_18 : decode cX10_isOn 18 = .ok (.iadd, 1) := by decide +kernel
theorem dX10_isOn_19 : decode cX10_isOn 19 = .ok (.iaload, 1) := by decide +kernel
theorem dX10_isOn_20 : decode cX10_isOn 20 = .ok (.iconst 1, 1) := by decide +kernel
theorem dX10_isOn_21 : decode cX10_isOn 21 = .ok (.if_icmp .ne 7, 3) := by decide +kernel
theorem dX10_isOn_24 : decode cX10_isOn 24 = .ok (.iconst 1, 1) := by decide +kernel
theorem dX10_isOn_25 : decode cX10_isOn 25 = .ok (.goto 4, 3) := by decide +kernel
theorem dX10_isOn_28 : decode cX10_isOn 28 = .ok (.iconst 0, 1) := by decide +kernel
theorem dX10_isOn_29 : decode cX10_isOn 29 = .ok (.ireturn, 1) := by decide +kernel
theorem dX10_amplitude_0 : decode cX10_amplitude 0 = .ok (.aload_n 0, 1) := by decide +kernel
theorem dX10_amplitude_1 : decode cX10_amplitude 1 = .ok (.aload_n 0, 1) := by decide +kernel
theorem dX10_amplitude_2 : decode cX10_amplitude 2 = .ok (.iload_n 1, 1) := by decide +kernel
theorem dX10_amplitude_3 : decode cX10_amplitude 3 = .ok (.invokevirtual 353, 3) := by decide +kernel
theorem dX10_amplitude_6 : decode cX10_amplitude 6 = .ok (.iload_n 2, 1) := by decide +kernel
theorem dX10_amplitude_7 : decode cX10_amplitude 7 = .ok (.invokestatic 356, 3) := by decide +kernel
theorem dX10_amplitude_10 : decode cX10_amplitude 10 = .ok (.invokevirtual 359, 3) := by decide +kernel
theorem dX10_amplitude_13 : decode cX10_amplitude 13 = .ok (.ifCond .eq 16, 3) := by decide +kernel
theorem dX10_amplitude_16 : decode cX10_amplitude 16 = .ok (.aload_n 0, 1) := by decide +kernel
theorem dX10_amplitude_17 : decode cX10_amplitude 17 = .ok (.aload_n 0, 1) := by decide +kernel
theorem dX10_amplitude_18 : decode cX10_amplitude 18 = .ok (.getfield 23, 3) := by decide +kernel
theorem dX10_amplitude_21 : decode cX10_amplitude 21 = .ok (.iload_n 1, 1) := by decide +kernel
theorem dX10_amplitude_22 : decode cX10_amplitude 22 = .ok (.iload_n 2, 1) := by decide +kernel
theorem dX10_amplitude_23 : decode cX10_amplitude 23 = .ok (.invokevirtual 313, 3) := by decide +kernel
theorem dX10_amplitude_26 : decode cX10_amplitude 26 = .ok (.goto 4, 3) := by decide +kernel
theorem dX10_amplitude_29 : decode cX10_amplitude 29 = .ok (.iconst 0, 1) := by decide +kernel
theorem dX10_amplitude_30 : decode cX10_amplitude 30 = .ok (.ireturn, 1) := by decide +kernel
theorem dX10_sine_0 : decode cX10_sine 0 = .ok (.aload_n 0, 1) := by decide +kernel
theorem dX10_sine_1 : decode cX10_sine 1 = .ok (.iload_n 1, 1) := by decide +kernel
theorem dX10_sine_2 : decode cX10_sine 2 = .ok (.iconst 0, 1) := by decide +kernel
theorem dX10_sine_3 : decode cX10_sine 3 = .ok (.sipush 359, 3) := by decide +kernel
theorem dX10_sine_6 : decode cX10_sine 6 = .ok (.invokestatic 93, 3) := by decide +kernel
theorem dX10_sine_9 : decode cX10_sine 9 = .ok (.ifCond .eq 7, 3) := by decide +kernel
theorem dX10_sine_12 : decode cX10_sine 12 = .ok (.iconst 0, 1) := by decide +kernel
theorem dX10_sine_13 : decode cX10_sine 13 = .ok (.goto 4, 3) := by decide +kernel
theorem dX10_sine_16 : decode cX10_sine 16 = .ok (.iconst 1, 1) := by decide +kernel
theorem dX10_sine_17 : decode cX10_sine 17 = .ok (.putfield 64, 3) := by decide +kernel
theorem dX10_sine_20 : decode cX10_sine 20 = .ok (.aload_n 0, 1) := by decide +kernel
theorem dX10_sine_21 : decode cX10_sine 21 = .ok (.getfield 64, 3) := by decide +kernel
theorem dX10_sine_24 : decode cX10_sine 24 = .ok (.ifCond .ne 10, 3) := by decide +kernel
theorem dX10_sine_27 : decode cX10_sine 27 = .ok (.iload_n 1, 1) := by decide +kernel
theorem dX10_sine_28 : decode cX10_sine 28 = .ok (.invokestatic 307, 3) := by decide +kernel
theorem dX10_sine_31 : decode cX10_sine 31 = .ok (.goto 4, 3) := by decide +kernel
theorem dX10_sine_34 : decode cX10_sine 34 = .ok (.iconst 0, 1) := by decide +kernel
theorem dX10_sine_35 : decode cX10_sine 35 = .ok (.ireturn, 1) := by decide +kernel
theorem dX10_distance_0 : decode cX10_distance 0 = .ok (.aload_n 0, 1) := by decide +kernel
theorem dX10_distance_1 : decode cX10_distance 1 = .ok (.iload_n 1, 1) := by decide +kernel
theorem dX10_distance_2 : decode cX10_distance 2 = .ok (.iconst 0, 1) := by decide +kernel
theorem dX10_distance_3 : decode cX10_distance 3 = .ok (.bipush 15, 2) := by decide +kernel
theorem dX10_distance_5 : decode cX10_distance 5 = .ok (.invokestatic 93, 3) := by decide +kernel
theorem dX10_distance_8 : decode cX10_distance 8 = .ok (.ifCond .eq 17, 3) := by decide +kernel
theorem dX10_distance_11 : decode cX10_distance 11 = .ok (.iload_n 2, 1) := by decide +kernel
theorem dX10_distance_12 : decode cX10_distance 12 = .ok (.iconst 0, 1) := by decide +kernel
theorem dX10_distance_13 : decode cX10_distance 13 = .ok (.bipush 9, 2) := by decide +kernel
theorem dX10_distance_15 : decode cX10_distance 15 = .ok (.invokestatic 93, 3) := by decide +kernel
theorem dX10_distance_18 : decode cX10_distance 18 = .ok (.ifCond .eq 7, 3) := by decide +kernel
theorem dX10_distance_21 : decode cX10_distance 21 = .ok (.iconst 0, 1) := by decide +kernel
theorem dX10_distance_22 : decode cX10_distance 22 = .ok (.goto 4, 3) := by decide +kernel
theorem dX10_distance_25 : decode cX10_distance 25 = .ok (.iconst 1, 1) := by decide +kernel
theorem dX10_distance_26 : decode cX10_distance 26 = .ok (.putfield 64, 3) := by decide +kernel
theorem dX10_distance_29 : decode cX10_distance 29 = .ok (.aload_n 0, 1) := by decide +kernel
theorem dX10_distance_30 : decode cX10_distance 30 = .ok (.getfield 64, 3) := by decide +kernel
theorem dX10_distance_33 : decode cX10_distance 33 = .ok (.ifCond .ne 12, 3) := by decide +kernel
theorem dX10_distance_36 : decode cX10_distance 36 = .ok (.aload_n 0, 1) := by decide +kernel
theorem dX10_distance_37 : decode cX10_distance 37 = .ok (.iload_n 1, 1) := by decide +kernel
theorem dX10_distance_38 : decode cX10_distance 38 = .ok (.iload_n 2, 1) := by decide +kernel
theorem dX10_distance_39 : decode cX10_distance 39 = .ok (.invokevirtual 281, 3) := by decide +kernel
theorem dX10_distance_42 : decode cX10_distance 42 = .ok (.goto 4, 3) := by decide +kernel
theorem dX10_distance_45 : decode cX10_distance 45 = .ok (.iconst 0, 1) := by decide +kernel
theorem dX10_distance_46 : decode cX10_distance 46 = .ok (.ireturn, 1) := by decide +kernel
theorem dX10_isBehind_0 : decode cX10_isBehind 0 = .ok (.aload_n 0, 1) := by decide +kernel
theorem dX10_isBehind_1 : decode cX10_isBehind 1 = .ok (.aload_n 0, 1) := by decide +kernel
theorem dX10_isBehind_2 : decode cX10_isBehind 2 = .ok (.iload_n 1, 1) := by decide +kernel
theorem dX10_isBehind_3 : decode cX10_isBehind 3 = .ok (.invokevirtual 353, 3) := by decide +kernel
theorem dX10_isBehind_6 : decode cX10_isBehind 6 = .ok (.ifCond .eq 16, 3) := by decide +kernel
theorem dX10_isBehind_9 : decode cX10_isBehind 9 = .ok (.aload_n 0, 1) := by decide +kernel
theorem dX10_isBehind_10 : decode cX10_isBehind 10 = .ok (.iload_n 2, 1) := by decide +kernel
theorem dX10_isBehind_11 : decode cX10_isBehind 11 = .ok (.iload_n 3, 1) := by decide +kernel
theorem dX10_isBehind_12 : decode cX10_isBehind 12 = .ok (.invokevirtual 363, 3) := by decide +kernel
theorem dX10_isBehind_15 : decode cX10_isBehind 15 = .ok (.ifCond .eq 7, 3) := by decide +kernel
theorem dX10_isBehind_18 : decode cX10_isBehind 18 = .ok (.iconst 1, 1) := by decide +kernel
theorem dX10_isBehind_19 : decode cX10_isBehind 19 = .ok (.goto 4, 3) := by decide +kernel
theorem dX10_isBehind_22 : decode cX10_isBehind 22 = .ok (.iconst 0, 1) := by decide +kernel
theorem dX10_isBehind_23 : decode cX10_isBehind 23 = .ok (.invokevirtual 349, 3) := by decide +kernel
theorem dX10_isBehind_26 : decode cX10_isBehind 26 = .ok (.ifCond .eq 30, 3) := by decide +kernel
theorem dX10_isBehind_29 : decode cX10_isBehind 29 = .ok (.aload_n 0, 1) := by decide +kernel
theorem dX10_isBehind_30 : decode cX10_isBehind 30 = .ok (.aload_n 0, 1) := by decide +kernel
theorem dX10_isBehind_31 : decode cX10_isBehind 31 = .ok (.aload_n 0, 1) := by decide +kernel
theorem dX10_isBehind_32 : decode cX10_isBehind 32 = .ok (.getfield 23, 3) := by decide +kernel
theorem dX10_isBehind_35 : decode cX10_isBehind 35 = .ok (.iload_n 1, 1) := by decide +kernel
theorem dX10_isBehind_36 : decode cX10_isBehind 36 = .ok (.aload_n 0, 1) := by decide +kernel
theorem dX10_isBehind_37 : decode cX10_isBehind 37 = .ok (.getfield 23, 3) := by decide +kernel
theorem dX10_isBehind_40 : decode cX10_isBehind 40 = .ok (.iconst 0, 1) := by decide +kernel
theorem dX10_isBehind_41 : decode cX10_isBehind 41 = .ok (.iaload, 1) := by decide +kernel
theorem dX10_isBehind_42 : decode cX10_isBehind 42 = .ok (.invokevirtual 284, 3) := by decide +kernel
theorem dX10_isBehind_45 : decode cX10_isBehind 45 = .ok (.iload_n 2, 1) := by decide +kernel
theorem dX10_isBehind_46 : decode cX10_isBehind 46 = .ok (.invokevirtual 295, 3) := by decide +kernel
theorem dX10_isBehind_49 : decode cX10_isBehind 49 = .ok (.ifCond .eq 7, 3) := by decide +kernel
theorem dX10_isBehind_52 : decode cX10_isBehind 52 = .ok (.iconst 1, 1) := by decide +kernel
theorem dX10_isBehind_53 : decode cX10_isBehind 53 = .ok (.goto 4, 3) := by decide +kernel
theorem dX10_isBehind_56 : decode cX10_isBehind 56 = .ok (.iconst 0, 1) := by decide +kernel
theorem dX10_isBehind_57 : decode cX10_isBehind 57 = .ok (.ireturn, 1) := by decide +kernel
theorem dX10_path_0 : decode cX10_path 0 = .ok (.aload_n 0, 1) := by decide +kernel
theorem dX10_path_1 : decode cX10_path 1 = .ok (.aload_n 0, 1) := by decide +kernel
theorem dX10_path_2 : decode cX10_path 2 = .ok (.iload_n 1, 1) := by decide +kernel
theorem dX10_path_3 : decode cX10_path 3 = .ok (.invokevirtual 353, 3) := by decide +kernel
theorem dX10_path_6 : decode cX10_path 6 = .ok (.ifCond .eq 25, 3) := by decide +kernel
theorem dX10_path_9 : decode cX10_path 9 = .ok (.aload_n 0, 1) := by decide +kernel
theorem dX10_path_10 : decode cX10_path 10 = .ok (.iload_n 2, 1) := by decide +kernel
theorem dX10_path_11 : decode cX10_path 11 = .ok (.iload_n 3, 1) := by decide +kernel
theorem dX10_path_12 : decode cX10_path 12 = .ok (.invokevirtual 363, 3) := by decide +kernel
theorem dX10_path_15 : decode cX10_path 15 = .ok (.ifCond .eq 16, 3) := by decide +kernel
theorem dX10_path_18 : decode cX10_path 18 = .ok (.aload_n 0, 1) := by decide +kernel
theorem dX10_path_19 : decode cX10_path 19 = .ok (.iload 4, 2) := by decide +kernel
theorem dX10_path_21 : decode cX10_path 21 = .ok (.invokevirtual 343, 3) := by decide +kernel
theorem dX10_path_24 : decode cX10_path 24 = .ok (.ifCond .eq 7, 3) := by decide +kernel
theorem dX10_path_27 : decode cX10_path 27 = .ok (.iconst 1, 1) := by decide +kernel
theorem dX10_path_28 : decode cX10_path 28 = .ok (.goto 4, 3) := by decide +kernel
theorem dX10_path_31 : decode cX10_path 31 = .ok (.iconst 0, 1) := by decide +kernel
theorem dX10_path_32 : decode cX10_path 32 = .ok (.invokevirtual 349, 3) := by decide +kernel
theorem dX10_path_35 : decode cX10_path 35 = .ok (.ifCond .ne 5, 3) := by decide +kernel
theorem dX10_path_38 : decode cX10_path 38 = .ok (.iconst 0, 1) := by decide +kernel
theorem dX10_path_39 : decode cX10_path 39 = .ok (.ireturn, 1) := by decide +kernel
theorem dX10_path_40 : decode cX10_path 40 = .ok (.aload_n 0, 1) := by decide +kernel
theorem dX10_path_41 : decode cX10_path 41 = .ok (.invokevirtual 273, 3) := by decide +kernel
theorem dX10_path_44 : decode cX10_path 44 = .ok (.ifCond .eq 44, 3) := by decide +kernel
theorem dX10_path_47 : decode cX10_path 47 = .ok (.aload_n 0, 1) := by decide +kernel
theorem dX10_path_48 : decode cX10_path 48 = .ok (.aload_n 0, 1) := by decide +kernel
theorem dX10_path_49 : decode cX10_path 49 = .ok (.aload_n 0, 1) := by decide +kernel
theorem dX10_path_50 : decode cX10_path 50 = .ok (.getfield 23, 3) := by decide +kernel
theorem dX10_path_53 : decode cX10_path 53 = .ok (.iload_n 1, 1) := by decide +kernel
theorem dX10_path_54 : decode cX10_path 54 = .ok (.aload_n 0, 1) := by decide +kernel
theorem dX10_path_55 : decode cX10_path 55 = .ok (.getfield 23, 3) := by decide +kernel
theorem dX10_path_58 : decode cX10_path 58 = .ok (.iconst 0, 1) := by decide +kernel
theorem dX10_path_59 : decode cX10_path 59 = .ok (.iaload, 1) := by decide +kernel
theorem dX10_path_60 : decode cX10_path 60 = .ok (.invokevirtual 284, 3) := by decide +kernel
theorem dX10_path_63 : decode cX10_path 63 = .ok (.aload_n 0, 1) := by decide +kernel
theorem dX10_path_64 : decode cX10_path 64 = .ok (.aload_n 0, 1) := by decide +kernel
theorem dX10_path_65 : decode cX10_path 65 = .ok (.getfield 23, 3) := by decide +kernel
theorem dX10_path_68 : decode cX10_path 68 = .ok (.iload_n 1, 1) := by decide +kernel
theorem dX10_path_69 : decode cX10_path 69 = .ok (.aload_n 0, 1) := by decide +kernel
theorem dX10_path_70 : decode cX10_path 70 = .ok (.getfield 23, 3) := by decide +kernel
theorem dX10_path_73 : decode cX10_path 73 = .ok (.iconst 0, 1) := by decide +kernel
theorem dX10_path_74 : decode cX10_path 74 = .ok (.iaload, 1) := by decide +kernel
theorem dX10_path_75 : decode cX10_path 75 = .ok (.invokevirtual 288, 3) := by decide +kernel
theorem dX10_path_78 : decode cX10_path 78 = .ok (.iload_n 2, 1) := by decide +kernel
theorem dX10_path_79 : decode cX10_path 79 = .ok (.iload_n 3, 1) := by decide +kernel
theorem dX10_path_80 : decode cX10_path 80 = .ok (.iload 4, 2) := by decide +kernel
theorem dX10_path_82 : decode cX10_path 82 = .ok (.invokevirtual 299, 3) := by decide +kernel
theorem dX10_path_85 : decode cX10_path 85 = .ok (.goto 4, 3) := by decide +kernel
theorem dX10_path_88 : decode cX10_path 88 = .ok (.iconst (-1), 1) := by decide +kernel
theorem dX10_path_89 : decode cX10_path 89 = .ok (.ireturn, 1) := by decide +kernel
theorem dX10_shortest_0 : decode cX10_shortest 0 = .ok (.aload_n 0, 1) := by decide +kernel
theorem dX10_shortest_1 : decode cX10_shortest 1 = .ok (.aload_n 0, 1) := by decide +kernel
theorem dX10_shortest_2 : decode cX10_shortest 2 = .ok (.iload_n 1, 1) := by decide +kernel
theorem dX10_shortest_3 : decode cX10_shortest 3 = .ok (.invokevirtual 353, 3) := by decide +kernel
theorem dX10_shortest_6 : decode cX10_shortest 6 = .ok (.ifCond .eq 16, 3) := by decide +kernel
theorem dX10_shortest_9 : decode cX10_shortest 9 = .ok (.aload_n 0, 1) := by decide +kernel
theorem dX10_shortest_10 : decode cX10_shortest 10 = .ok (.iload_n 2, 1) := by decide +kernel
theorem dX10_shortest_11 : decode cX10_shortest 11 = .ok (.iload_n 3, 1) := by decide +kernel
theorem dX10_shortest_12 : decode cX10_shortest 12 = .ok (.invokevirtual 363, 3) := by decide +kernel
theorem dX10_shortest_15 : decode cX10_shortest 15 = .ok (.ifCond .eq 7, 3) := by decide +kernel
theorem dX10_shortest_18 : decode cX10_shortest 18 = .ok (.iconst 1, 1) := by decide +kernel
theorem dX10_shortest_19 : decode cX10_shortest 19 = .ok (.goto 4, 3) := by decide +kernel
theorem dX10_shortest_22 : decode cX10_shortest 22 = .ok (.iconst 0, 1) := by decide +kernel
theorem dX10_shortest_23 : decode cX10_shortest 23 = .ok (.invokevirtual 349, 3) := by decide +kernel
theorem dX10_shortest_26 : decode cX10_shortest 26 = .ok (.ifCond .eq 23, 3) := by decide +kernel
theorem dX10_shortest_29 : decode cX10_shortest 29 = .ok (.aload_n 0, 1) := by decide +kernel
theorem dX10_shortest_30 : decode cX10_shortest 30 = .ok (.aload_n 0, 1) := by decide +kernel
theorem dX10_shortest_31 : decode cX10_shortest 31 = .ok (.getfield 23, 3) := by decide +kernel
theorem dX10_shortest_34 : decode cX10_shortest 34 = .ok (.iload_n 1, 1) := by decide +kernel
theorem dX10_shortest_35 : decode cX10_shortest 35 = .ok (.iload_n 2, 1) := by decide +kernel
theorem dX10_shortest_36 : decode cX10_shortest 36 = .ok (.iload_n 3, 1) := by decide +kernel
theorem dX10_shortest_37 : decode cX10_shortest 37 = .ok (.aload_n 0, 1) := by decide +kernel
theorem dX10_shortest_38 : decode cX10_shortest 38 = .ok (.getfield 23, 3) := by decide +kernel
theorem dX10_shortest_41 : decode cX10_shortest 41 = .ok (.iconst 0, 1) := by decide +kernel
theorem dX10_shortest_42 : decode cX10_shortest 42 = .ok (.iaload, 1) := by decide +kernel
theorem dX10_shortest_43 : decode cX10_shortest 43 = .ok (.invokevirtual 366, 3) := by decide +kernel
theorem dX10_shortest_46 : decode cX10_shortest 46 = .ok (.goto 4, 3) := by decide +kernel
theorem dX10_shortest_49 : decode cX10_shortest 49 = .ok (.iconst 0, 1) := by decide +kernel
theorem dX10_shortest_50 : decode cX10_shortest 50 = .ok (.ireturn, 1) := by decide +kernel
theorem dX10_phase_0 : decode cX10_phase 0 = .ok (.aload_n 0, 1) := by decide +kernel
theorem dX10_phase_1 : decode cX10_phase 1 = .ok (.aload_n 0, 1) := by decide +kernel
theorem dX10_phase_2 : decode cX10_phase 2 = .ok (.iload_n 1, 1) := by decide +kernel
theorem dX10_phase_3 : decode cX10_phase 3 = .ok (.invokevirtual 353, 3) := by decide +kernel
theorem dX10_phase_6 : decode cX10_phase 6 = .ok (.ifCond .eq 16, 3) := by decide +kernel
theorem dX10_phase_9 : decode cX10_phase 9 = .ok (.aload_n 0, 1) := by decide +kernel
theorem dX10_phase_10 : decode cX10_phase 10 = .ok (.iload_n 2, 1) := by decide +kernel
theorem dX10_phase_11 : decode cX10_phase 11 = .ok (.iload_n 3, 1) := by decide +kernel
theorem dX10_phase_12 : decode cX10_phase 12 = .ok (.invokevirtual 363, 3) := by decide +kernel
theorem dX10_phase_15 : decode cX10_phase 15 = .ok (.ifCond .eq 7, 3) := by decide +kernel
theorem dX10_phase_18 : decode cX10_phase 18 = .ok (.iconst 1, 1) := by decide +kernel
theorem dX10_phase_19 : decode cX10_phase 19 = .ok (.goto 4, 3) := by decide +kernel
theorem dX10_phase_22 : decode cX10_phase 22 = .ok (.iconst 0, 1) := by decide +kernel
theorem dX10_phase_23 : decode cX10_phase 23 = .ok (.invokevirtual 349, 3) := by decide +kernel
theorem dX10_phase_26 : decode cX10_phase 26 = .ok (.ifCond .ne 5, 3) := by decide +kernel
theorem dX10_phase_29 : decode cX10_phase 29 = .ok (.iconst 0, 1) := by decide +kernel
theorem dX10_phase_30 : decode cX10_phase 30 = .ok (.ireturn, 1) := by decide +kernel
theorem dX10_phase_31 : decode cX10_phase 31 = .ok (.aload_n 0, 1) := by decide +kernel
theorem dX10_phase_32 : decode cX10_phase 32 = .ok (.aload_n 0, 1) := by decide +kernel
theorem dX10_phase_33 : decode cX10_phase 33 = .ok (.getfield 23, 3) := by decide +kernel
theorem dX10_phase_36 : decode cX10_phase 36 = .ok (.iload_n 1, 1) := by decide +kernel
theorem dX10_phase_37 : decode cX10_phase 37 = .ok (.iload_n 2, 1) := by decide +kernel
theorem dX10_phase_38 : decode cX10_phase 38 = .ok (.iload_n 3, 1) := by decide +kernel
theorem dX10_phase_39 : decode cX10_phase 39 = .ok (.aload_n 0, 1) := by decide +kernel
theorem dX10_phase_40 : decode cX10_phase 40 = .ok (.getfield 23, 3) := by decide +kernel
theorem dX10_phase_43 : decode cX10_phase 43 = .ok (.iconst 0, 1) := by decide +kernel
theorem dX10_phase_44 : decode cX10_phase 44 = .ok (.iaload, 1) := by decide +kernel
theorem dX10_phase_45 : decode cX10_phase 45 = .ok (.invokevirtual 366, 3) := by decide +kernel
theorem dX10_phase_48 : decode cX10_phase 48 = .ok (.istore 4, 2) := by decide +kernel
theorem dX10_phase_50 : decode cX10_phase 50 = .ok (.iload 4, 2) := by decide +kernel
theorem dX10_phase_52 : decode cX10_phase 52 = .ok (.iconst (-1), 1) := by decide +kernel
theorem dX10_phase_53 : decode cX10_phase 53 = .ok (.if_icmp .ne 7, 3) := by decide +kernel
theorem dX10_phase_56 : decode cX10_phase 56 = .ok (.iconst (-1), 1) := by decide +kernel
theorem dX10_phase_57 : decode cX10_phase 57 = .ok (.goto 20, 3) := by decide +kernel
theorem dX10_phase_60 : decode cX10_phase 60 = .ok (.aload_n 0, 1) := by decide +kernel
theorem dX10_phase_61 : decode cX10_phase 61 = .ok (.aload_n 0, 1) := by decide +kernel
theorem dX10_phase_62 : decode cX10_phase 62 = .ok (.getfield 23, 3) := by decide +kernel
theorem dX10_phase_65 : decode cX10_phase 65 = .ok (.iload_n 1, 1) := by decide +kernel
theorem dX10_phase_66 : decode cX10_phase 66 = .ok (.iload 4, 2) := by decide +kernel
theorem dX10_phase_68 : decode cX10_phase 68 = .ok (.aload_n 0, 1) := by decide +kernel
theorem dX10_phase_69 : decode cX10_phase 69 = .ok (.getfield 23, 3) := by decide +kernel
theorem dX10_phase_72 : decode cX10_phase 72 = .ok (.iconst 0, 1) := by decide +kernel
theorem dX10_phase_73 : decode cX10_phase 73 = .ok (.iaload, 1) := by decide +kernel
theorem dX10_phase_74 : decode cX10_phase 74 = .ok (.invokevirtual 316, 3) := by decide +kernel
theorem dX10_phase_77 : decode cX10_phase 77 = .ok (.ireturn, 1) := by decide +kernel
theorem dX10_arrivalOf_0 : decode cX10_arrivalOf 0 = .ok (.aload_n 0, 1) := by decide +kernel
theorem dX10_arrivalOf_1 : decode cX10_arrivalOf 1 = .ok (.aload_n 0, 1) := by decide +kernel
theorem dX10_arrivalOf_2 : decode cX10_arrivalOf 2 = .ok (.getfield 23, 3) := by decide +kernel
theorem dX10_arrivalOf_5 : decode cX10_arrivalOf 5 = .ok (.iload_n 1, 1) := by decide +kernel
theorem dX10_arrivalOf_6 : decode cX10_arrivalOf 6 = .ok (.iload_n 2, 1) := by decide +kernel
theorem dX10_arrivalOf_7 : decode cX10_arrivalOf 7 = .ok (.iload_n 3, 1) := by decide +kernel
theorem dX10_arrivalOf_8 : decode cX10_arrivalOf 8 = .ok (.aload_n 0, 1) := by decide +kernel
theorem dX10_arrivalOf_9 : decode cX10_arrivalOf 9 = .ok (.getfield 23, 3) := by decide +kernel
theorem dX10_arrivalOf_12 : decode cX10_arrivalOf 12 = .ok (.iconst 0, 1) := by decide +kernel
theorem dX10_arrivalOf_13 : decode cX10_arrivalOf 13 = .ok (.iaload, 1) := by decide +kernel
theorem dX10_arrivalOf_14 : decode cX10_arrivalOf 14 = .ok (.invokevirtual 366, 3) := by decide +kernel
theorem dX10_arrivalOf_17 : decode cX10_arrivalOf 17 = .ok (.istore 4, 2) := by decide +kernel
theorem dX10_arrivalOf_19 : decode cX10_arrivalOf 19 = .ok (.iload 4, 2) := by decide +kernel
theorem dX10_arrivalOf_21 : decode cX10_arrivalOf 21 = .ok (.iconst (-1), 1) := by decide +kernel
theorem dX10_arrivalOf_22 : decode cX10_arrivalOf 22 = .ok (.if_icmp .ne 7, 3) := by decide +kernel
theorem dX10_arrivalOf_25 : decode cX10_arrivalOf 25 = .ok (.iconst (-1), 1) := by decide +kernel
theorem dX10_arrivalOf_26 : decode cX10_arrivalOf 26 = .ok (.goto 20, 3) := by decide +kernel
theorem dX10_arrivalOf_29 : decode cX10_arrivalOf 29 = .ok (.aload_n 0, 1) := by decide +kernel
theorem dX10_arrivalOf_30 : decode cX10_arrivalOf 30 = .ok (.getfield 17, 3) := by decide +kernel
theorem dX10_arrivalOf_33 : decode cX10_arrivalOf 33 = .ok (.bipush 13, 2) := by decide +kernel
theorem dX10_arrivalOf_35 : decode cX10_arrivalOf 35 = .ok (.iload_n 1, 1) := by decide +kernel
theorem dX10_arrivalOf_36 : decode cX10_arrivalOf 36 = .ok (.iadd, 1) := by decide +kernel
theorem dX10_arrivalOf_37 : decode cX10_arrivalOf 37 = .ok (.iaload, 1) := by decide +kernel
theorem dX10_arrivalOf_38 : decode cX10_arrivalOf 38 = .ok (.aload_n 0, 1) := by decide +kernel
theorem dX10_arrivalOf_39 : decode cX10_arrivalOf 39 = .ok (.iload_n 1, 1) := by decide +kernel
theorem dX10_arrivalOf_40 : decode cX10_arrivalOf 40 = .ok (.iload 4, 2) := by decide +kernel
theorem dX10_arrivalOf_42 : decode cX10_arrivalOf 42 = .ok (.invokevirtual 310, 3) := by decide +kernel
theorem dX10_arrivalOf_45 : decode cX10_arrivalOf 45 = .ok (.iadd, 1) := by decide +kernel
theorem dX10_arrivalOf_46 : decode cX10_arrivalOf 46 = .ok (.ireturn, 1) := by decide +kernel
theorem dX10_arrival_0 : decode cX10_arrival 0 = .ok (.aload_n 0, 1) := by decide +kernel
theorem dX10_arrival_1 : decode cX10_arrival 1 = .ok (.aload_n 0, 1) := by decide +kernel
theorem dX10_arrival_2 : decode cX10_arrival 2 = .ok (.iload_n 1, 1) := by decide +kernel
theorem dX10_arrival_3 : decode cX10_arrival 3 = .ok (.invokevirtual 353, 3) := by decide +kernel
theorem dX10_arrival_6 : decode cX10_arrival 6 = .ok (.ifCond .eq 16, 3) := by decide +kernel
theorem dX10_arrival_9 : decode cX10_arrival 9 = .ok (.aload_n 0, 1) := by decide +kernel
theorem dX10_arrival_10 : decode cX10_arrival 10 = .ok (.iload_n 2, 1) := by decide +kernel
theorem dX10_arrival_11 : decode cX10_arrival 11 = .ok (.iload_n 3, 1) := by decide +kernel
theorem dX10_arrival_12 : decode cX10_arrival 12 = .ok (.invokevirtual 363, 3) := by decide +kernel
theorem dX10_arrival_15 : decode cX10_arrival 15 = .ok (.ifCond .eq 7, 3) := by decide +kernel
theorem dX10_arrival_18 : decode cX10_arrival 18 = .ok (.iconst 1, 1) := by decide +kernel
theorem dX10_arrival_19 : decode cX10_arrival 19 = .ok (.goto 4, 3) := by decide +kernel
theorem dX10_arrival_22 : decode cX10_arrival 22 = .ok (.iconst 0, 1) := by decide +kernel
theorem dX10_arrival_23 : decode cX10_arrival 23 = .ok (.invokevirtual 349, 3) := by decide +kernel
theorem dX10_arrival_26 : decode cX10_arrival 26 = .ok (.ifCond .eq 13, 3) := by decide +kernel
theorem dX10_arrival_29 : decode cX10_arrival 29 = .ok (.aload_n 0, 1) := by decide +kernel
theorem dX10_arrival_30 : decode cX10_arrival 30 = .ok (.iload_n 1, 1) := by decide +kernel
theorem dX10_arrival_31 : decode cX10_arrival 31 = .ok (.iload_n 2, 1) := by decide +kernel
theorem dX10_arrival_32 : decode cX10_arrival 32 = .ok (.iload_n 3, 1) := by decide +kernel
theorem dX10_arrival_33 : decode cX10_arrival 33 = .ok (.invokevirtual 369, 3) := by decide +kernel
theorem dX10_arrival_36 : decode cX10_arrival 36 = .ok (.goto 4, 3) := by decide +kernel
theorem dX10_arrival_39 : decode cX10_arrival 39 = .ok (.iconst 0, 1) := by decide +kernel
theorem dX10_arrival_40 : decode cX10_arrival 40 = .ok (.ireturn, 1) := by decide +kernel
theorem dX10_reached_0 : decode cX10_reached 0 = .ok (.aload_n 0, 1) := by decide +kernel
theorem dX10_reached_1 : decode cX10_reached 1 = .ok (.aload_n 0, 1) := by decide +kernel
theorem dX10_reached_2 : decode cX10_reached 2 = .ok (.iload_n 1, 1) := by decide +kernel
theorem dX10_reached_3 : decode cX10_reached 3 = .ok (.invokevirtual 353, 3) := by decide +kernel
theorem dX10_reached_6 : decode cX10_reached 6 = .ok (.invokevirtual 349, 3) := by decide +kernel
theorem dX10_reached_9 : decode cX10_reached 9 = .ok (.ifCond .ne 5, 3) := by decide +kernel
theorem dX10_reached_12 : decode cX10_reached 12 = .ok (.iconst 0, 1) := by decide +kernel
theorem dX10_reached_13 : decode cX10_reached 13 = .ok (.ireturn, 1) := by decide +kernel
theorem dX10_reached_14 : decode cX10_reached 14 = .ok (.iconst 0, 1) := by decide +kernel
theorem dX10_reached_15 : decode cX10_reached 15 = .ok (.istore_n 2, 1) := by decide +kernel
theorem dX10_reached_16 : decode cX10_reached 16 = .ok (.iconst 0, 1) := by decide +kernel
theorem dX10_reached_17 : decode cX10_reached 17 = .ok (.istore_n 3, 1) := by decide +kernel
theorem dX10_reached_18 : decode cX10_reached 18 = .ok (.iload_n 3, 1) := by decide +kernel
theorem dX10_reached_19 : decode cX10_reached 19 = .ok (.aload_n 0, 1) := by decide +kernel
theorem dX10_reached_20 : decode cX10_reached 20 = .ok (.invokevirtual 373, 3) := by decide +kernel
theorem dX10_reached_23 : decode cX10_reached 23 = .ok (.if_icmp .ge 51, 3) := by decide +kernel
theorem dX10_reached_26 : decode cX10_reached 26 = .ok (.iload_n 2, 1) := by decide +kernel
theorem dX10_reached_27 : decode cX10_reached 27 = .ok (.aload_n 0, 1) := by decide +kernel
theorem dX10_reached_28 : decode cX10_reached 28 = .ok (.iload_n 1, 1) := by decide +kernel
theorem dX10_reached_29 : decode cX10_reached 29 = .ok (.iload_n 3, 1) := by decide +kernel
theorem dX10_reached_30 : decode cX10_reached 30 = .ok (.aload_n 0, 1) := by decide +kernel
theorem dX10_reached_31 : decode cX10_reached 31 = .ok (.getfield 17, 3) := by decide +kernel
theorem dX10_reached_34 : decode cX10_reached 34 = .ok (.iconst 0, 1) := by decide +kernel
theorem dX10_reached_35 : decode cX10_reached 35 = .ok (.iaload, 1) := by decide +kernel
theorem dX10_reached_36 : decode cX10_reached 36 = .ok (.irem, 1) := by decide +kernel
theorem dX10_reached_37 : decode cX10_reached 37 = .ok (.iload_n 3, 1) := by decide +kernel
theorem dX10_reached_38 : decode cX10_reached 38 = .ok (.aload_n 0, 1) := by decide +kernel
theorem dX10_reached_39 : decode cX10_reached 39 = .ok (.getfield 17, 3) := by decide +kernel
theorem dX10_reached_42 : decode cX10_reached 42 = .ok (.iconst 0, 1) := by decide +kernel
theorem dX10_reached_43 : decode cX10_reached 43 = .ok (.iaload, 1) := by decide +kernel
theorem dX10_reached_44 : decode cX10_reached 44 = .ok (.idiv, 1) := by decide +kernel
theorem dX10_reached_45 : decode cX10_reached 45 = .ok (.invokevirtual 369, 3) := by decide +kernel
theorem dX10_reached_48 : decode cX10_reached 48 = .ok (.iconst 0, 1) := by decide +kernel
theorem dX10_reached_49 : decode cX10_reached 49 = .ok (.aload_n 0, 1) := by decide +kernel
theorem dX10_reached_50 : decode cX10_reached 50 = .ok (.getfield 23, 3) := by decide +kernel
theorem dX10_reached_53 : decode cX10_reached 53 = .ok (.iconst 0, 1) := by decide +kernel
theorem dX10_reached_54 : decode cX10_reached 54 = .ok (.iaload, 1) := by decide +kernel
theorem dX10_reached_55 : decode cX10_reached 55 = .ok (.invokestatic 93, 3) := by decide +kernel
theorem dX10_reached_58 : decode cX10_reached 58 = .ok (.ifCond .eq 7, 3) := by decide +kernel
theorem dX10_reached_61 : decode cX10_reached 61 = .ok (.iconst 1, 1) := by decide +kernel
theorem dX10_reached_62 : decode cX10_reached 62 = .ok (.goto 4, 3) := by decide +kernel
theorem dX10_reached_65 : decode cX10_reached 65 = .ok (.iconst 0, 1) := by decide +kernel
theorem dX10_reached_66 : decode cX10_reached 66 = .ok (.iadd, 1) := by decide +kernel
theorem dX10_reached_67 : decode cX10_reached 67 = .ok (.istore_n 2, 1) := by decide +kernel
theorem dX10_reached_68 : decode cX10_reached 68 = .ok (.iinc 3 1, 3) := by decide +kernel
theorem dX10_reached_71 : decode cX10_reached 71 = .ok (.goto (-53), 3) := by decide +kernel
theorem dX10_reached_74 : decode cX10_reached 74 = .ok (.iload_n 2, 1) := by decide +kernel
theorem dX10_reached_75 : decode cX10_reached 75 = .ok (.ireturn, 1) := by decide +kernel
theorem dX10_isGauge_0 : decode cX10_isGauge 0 = .ok (.iload_n 1, 1) := by decide +kernel
theorem dX10_isGauge_1 : decode cX10_isGauge 1 = .ok (.iconst 0, 1) := by decide +kernel
theorem dX10_isGauge_2 : decode cX10_isGauge 2 = .ok (.aload_n 0, 1) := by decide +kernel
theorem dX10_isGauge_3 : decode cX10_isGauge 3 = .ok (.getfield 17, 3) := by decide +kernel
theorem dX10_isGauge_6 : decode cX10_isGauge 6 = .ok (.bipush 76, 2) := by decide +kernel
theorem dX10_isGauge_8 : decode cX10_isGauge 8 = .ok (.iaload, 1) := by decide +kernel
theorem dX10_isGauge_9 : decode cX10_isGauge 9 = .ok (.iconst 1, 1) := by decide +kernel
theorem dX10_isGauge_10 : decode cX10_isGauge 10 = .ok (.isub, 1) := by decide +kernel
theorem dX10_isGauge_11 : decode cX10_isGauge 11 = .ok (.invokestatic 93, 3) := by decide +kernel
theorem dX10_isGauge_14 : decode cX10_isGauge 14 = .ok (.ireturn, 1) := by decide +kernel
theorem dX10_gaugeWave_0 : decode cX10_gaugeWave 0 = .ok (.aload_n 0, 1) := by decide +kernel
theorem dX10_gaugeWave_1 : decode cX10_gaugeWave 1 = .ok (.aload_n 0, 1) := by decide +kernel
theorem dX10_gaugeWave_2 : decode cX10_gaugeWave 2 = .ok (.getfield 23, 3) := by decide +kernel
theorem dX10_gaugeWave_5 : decode cX10_gaugeWave 5 = .ok (.aload_n 0, 1) := by decide +kernel
theorem dX10_gaugeWave_6 : decode cX10_gaugeWave 6 = .ok (.getfield 17, 3) := by decide +kernel
theorem dX10_gaugeWave_9 : decode cX10_gaugeWave 9 = .ok (.bipush 77, 2) := by decide +kernel
theorem dX10_gaugeWave_11 : decode cX10_gaugeWave 11 = .ok (.iconst 2, 1) := by decide +kernel
theorem dX10_gaugeWave_12 : decode cX10_gaugeWave 12 = .ok (.iload_n 1, 1) := by decide +kernel
theorem dX10_gaugeWave_13 : decode cX10_gaugeWave 13 = .ok (.imul, 1) := by decide +kernel
theorem dX10_gaugeWave_14 : decode cX10_gaugeWave 14 = .ok (.iadd, 1) := by decide +kernel
theorem dX10_gaugeWave_15 : decode cX10_gaugeWave 15 = .ok (.iaload, 1) := by decide +kernel
theorem dX10_gaugeWave_16 : decode cX10_gaugeWave 16 = .ok (.aload_n 0, 1) := by decide +kernel
theorem dX10_gaugeWave_17 : decode cX10_gaugeWave 17 = .ok (.getfield 17, 3) := by decide +kernel
theorem dX10_gaugeWave_20 : decode cX10_gaugeWave 20 = .ok (.bipush 77, 2) := by decide +kernel
theorem dX10_gaugeWave_22 : decode cX10_gaugeWave 22 = .ok (.iconst 2, 1) := by decide +kernel
theorem dX10_gaugeWave_23 : decode cX10_gaugeWave 23 = .ok (.iload_n 1, 1) := by decide +kernel
theorem dX10_gaugeWave_24 : decode cX10_gaugeWave 24 = .ok (.imul, 1) := by decide +kernel
theorem dX10_gaugeWave_25 : decode cX10_gaugeWave 25 = .ok (.iadd, 1) := by decide +kernel
theorem dX10_gaugeWave_26 : decode cX10_gaugeWave 26 = .ok (.iconst 1, 1) := by decide +kernel
theorem dX10_gaugeWave_27 : decode cX10_gaugeWave 27 = .ok (.iadd, 1) := by decide +kernel
theorem dX10_gaugeWave_28 : decode cX10_gaugeWave 28 = .ok (.iaload, 1) := by decide +kernel
theorem dX10_gaugeWave_29 : decode cX10_gaugeWave 29 = .ok (.aload_n 0, 1) := by decide +kernel
theorem dX10_gaugeWave_30 : decode cX10_gaugeWave 30 = .ok (.getfield 23, 3) := by decide +kernel
theorem dX10_gaugeWave_33 : decode cX10_gaugeWave 33 = .ok (.iconst 0, 1) := by decide +kernel
theorem dX10_gaugeWave_34 : decode cX10_gaugeWave 34 = .ok (.iaload, 1) := by decide +kernel
theorem dX10_gaugeWave_35 : decode cX10_gaugeWave 35 = .ok (.iload_n 2, 1) := by decide +kernel
theorem dX10_gaugeWave_36 : decode cX10_gaugeWave 36 = .ok (.iadd, 1) := by decide +kernel
theorem dX10_gaugeWave_37 : decode cX10_gaugeWave 37 = .ok (.invokevirtual 337, 3) := by decide +kernel
theorem dX10_gaugeWave_40 : decode cX10_gaugeWave 40 = .ok (.ireturn, 1) := by decide +kernel
theorem dX10_gauges_0 : decode cX10_gauges 0 = .ok (.aload_n 0, 1) := by decide +kernel
theorem dX10_gauges_1 : decode cX10_gauges 1 = .ok (.aload_n 0, 1) := by decide +kernel
theorem dX10_gauges_2 : decode cX10_gauges 2 = .ok (.getfield 17, 3) := by decide +kernel
theorem dX10_gauges_5 : decode cX10_gauges 5 = .ok (.bipush 76, 2) := by decide +kernel
theorem dX10_gauges_7 : decode cX10_gauges 7 = .ok (.iaload, 1) := by decide +kernel
theorem dX10_gauges_8 : decode cX10_gauges 8 = .ok (.invokevirtual 346, 3) := by decide +kernel
theorem dX10_gauges_11 : decode cX10_gauges 11 = .ok (.ireturn, 1) := by decide +kernel
theorem dX10_gaugeAt_0 : decode cX10_gaugeAt 0 = .ok (.aload_n 0, 1) := by decide +kernel
theorem dX10_gaugeAt_1 : decode cX10_gaugeAt 1 = .ok (.aload_n 0, 1) := by decide +kernel
theorem dX10_gaugeAt_2 : decode cX10_gaugeAt 2 = .ok (.iload_n 1, 1) := by decide +kernel
theorem dX10_gaugeAt_3 : decode cX10_gaugeAt 3 = .ok (.invokevirtual 376, 3) := by decide +kernel
theorem dX10_gaugeAt_6 : decode cX10_gaugeAt 6 = .ok (.iload_n 2, 1) := by decide +kernel
theorem dX10_gaugeAt_7 : decode cX10_gaugeAt 7 = .ok (.iconst 0, 1) := by decide +kernel
theorem dX10_gaugeAt_8 : decode cX10_gaugeAt 8 = .ok (.iconst 1, 1) := by decide +kernel
theorem dX10_gaugeAt_9 : decode cX10_gaugeAt 9 = .ok (.invokestatic 93, 3) := by decide +kernel
theorem dX10_gaugeAt_12 : decode cX10_gaugeAt 12 = .ok (.invokevirtual 359, 3) := by decide +kernel
theorem dX10_gaugeAt_15 : decode cX10_gaugeAt 15 = .ok (.ifCond .eq 19, 3) := by decide +kernel
theorem dX10_gaugeAt_18 : decode cX10_gaugeAt 18 = .ok (.aload_n 0, 1) := by decide +kernel
theorem dX10_gaugeAt_19 : decode cX10_gaugeAt 19 = .ok (.getfield 17, 3) := by decide +kernel
theorem dX10_gaugeAt_22 : decode cX10_gaugeAt 22 = .ok (.bipush 77, 2) := by decide +kernel
theorem dX10_gaugeAt_24 : decode cX10_gaugeAt 24 = .ok (.iconst 2, 1) := by decide +kernel
theorem dX10_gaugeAt_25 : decode cX10_gaugeAt 25 = .ok (.iload_n 1, 1) := by decide +kernel
theorem dX10_gaugeAt_26 : decode cX10_gaugeAt 26 = .ok (.imul, 1) := by decide +kernel
theorem dX10_gaugeAt_27 : decode cX10_gaugeAt 27 = .ok (.iadd, 1) := by decide +kernel
theorem dX10_gaugeAt_28 : decode cX10_gaugeAt 28 = .ok (.iload_n 2, 1) := by decide +kernel
theorem dX10_gaugeAt_29 : decode cX10_gaugeAt 29 = .ok (.iadd, 1) := by decide +kernel
theorem dX10_gaugeAt_30 : decode cX10_gaugeAt 30 = .ok (.iaload, 1) := by decide +kernel
theorem dX10_gaugeAt_31 : decode cX10_gaugeAt 31 = .ok (.goto 4, 3) := by decide +kernel
theorem dX10_gaugeAt_34 : decode cX10_gaugeAt 34 = .ok (.iconst 0, 1) := by decide +kernel
theorem dX10_gaugeAt_35 : decode cX10_gaugeAt 35 = .ok (.ireturn, 1) := by decide +kernel
theorem dX10_peak_0 : decode cX10_peak 0 = .ok (.aload_n 0, 1) := by decide +kernel
theorem dX10_peak_1 : decode cX10_peak 1 = .ok (.aload_n 0, 1) := by decide +kernel
theorem dX10_peak_2 : decode cX10_peak 2 = .ok (.iload_n 1, 1) := by decide +kernel
theorem dX10_peak_3 : decode cX10_peak 3 = .ok (.invokevirtual 376, 3) := by decide +kernel
theorem dX10_peak_6 : decode cX10_peak 6 = .ok (.iload_n 2, 1) := by decide +kernel
theorem dX10_peak_7 : decode cX10_peak 7 = .ok (.invokestatic 379, 3) := by decide +kernel
theorem dX10_peak_10 : decode cX10_peak 10 = .ok (.invokevirtual 359, 3) := by decide +kernel
theorem dX10_peak_13 : decode cX10_peak 13 = .ok (.ifCond .ne 5, 3) := by decide +kernel
theorem dX10_peak_16 : decode cX10_peak 16 = .ok (.iconst 0, 1) := by decide +kernel
theorem dX10_peak_17 : decode cX10_peak 17 = .ok (.ireturn, 1) := by decide +kernel
theorem dX10_peak_18 : decode cX10_peak 18 = .ok (.iconst 0, 1) := by decide +kernel
theorem dX10_peak_19 : decode cX10_peak 19 = .ok (.istore_n 3, 1) := by decide +kernel
theorem dX10_peak_20 : decode cX10_peak 20 = .ok (.iconst 0, 1) := by decide +kernel
theorem dX10_peak_21 : decode cX10_peak 21 = .ok (.istore 4, 2) := by decide +kernel
theorem dX10_peak_23 : decode cX10_peak 23 = .ok (.iload 4, 2) := by decide +kernel
theorem dX10_peak_25 : decode cX10_peak 25 = .ok (.iload_n 2, 1) := by decide +kernel
theorem dX10_peak_26 : decode cX10_peak 26 = .ok (.if_icmp .ge 24, 3) := by decide +kernel
theorem dX10_peak_29 : decode cX10_peak 29 = .ok (.iload_n 3, 1) := by decide +kernel
theorem dX10_peak_30 : decode cX10_peak 30 = .ok (.aload_n 0, 1) := by decide +kernel
theorem dX10_peak_31 : decode cX10_peak 31 = .ok (.iload_n 1, 1) := by decide +kernel
theorem dX10_peak_32 : decode cX10_peak 32 = .ok (.iload 4, 2) := by decide +kernel
theorem dX10_peak_34 : decode cX10_peak 34 = .ok (.invokevirtual 382, 3) := by decide +kernel
theorem dX10_peak_37 : decode cX10_peak 37 = .ok (.invokestatic 262, 3) := by decide +kernel
theorem dX10_peak_40 : decode cX10_peak 40 = .ok (.invokestatic 270, 3) := by decide +kernel
theorem dX10_peak_43 : decode cX10_peak 43 = .ok (.istore_n 3, 1) := by decide +kernel
theorem dX10_peak_44 : decode cX10_peak 44 = .ok (.iinc 4 1, 3) := by decide +kernel
theorem dX10_peak_47 : decode cX10_peak 47 = .ok (.goto (-24), 3) := by decide +kernel
theorem dX10_peak_50 : decode cX10_peak 50 = .ok (.iload_n 3, 1) := by decide +kernel
theorem dX10_peak_51 : decode cX10_peak 51 = .ok (.ireturn, 1) := by decide +kernel
theorem dX10_crossings_0 : decode cX10_crossings 0 = .ok (.aload_n 0, 1) := by decide +kernel
theorem dX10_crossings_1 : decode cX10_crossings 1 = .ok (.aload_n 0, 1) := by decide +kernel
theorem dX10_crossings_2 : decode cX10_crossings 2 = .ok (.iload_n 1, 1) := by decide +kernel
theorem dX10_crossings_3 : decode cX10_crossings 3 = .ok (.invokevirtual 376, 3) := by decide +kernel
theorem dX10_crossings_6 : decode cX10_crossings 6 = .ok (.iload_n 2, 1) := by decide +kernel
theorem dX10_crossings_7 : decode cX10_crossings 7 = .ok (.invokestatic 379, 3) := by decide +kernel
theorem dX10_crossings_10 : decode cX10_crossings 10 = .ok (.invokevirtual 359, 3) := by decide +kernel
theorem dX10_crossings_13 : decode cX10_crossings 13 = .ok (.ifCond .ne 5, 3) := by decide +kernel
theorem dX10_crossings_16 : decode cX10_crossings 16 = .ok (.iconst 0, 1) := by decide +kernel
theorem dX10_crossings_17 : decode cX10_crossings 17 = .ok (.ireturn, 1) := by decide +kernel
theorem dX10_crossings_18 : decode cX10_crossings 18 = .ok (.iconst 0, 1) := by decide +kernel
theorem dX10_crossings_19 : decode cX10_crossings 19 = .ok (.istore_n 3, 1) := by decide +kernel
theorem dX10_crossings_20 : decode cX10_crossings 20 = .ok (.iconst 0, 1) := by decide +kernel
theorem dX10_crossings_21 : decode cX10_crossings 21 = .ok (.istore 4, 2) := by decide +kernel
theorem dX10_crossings_23 : decode cX10_crossings 23 = .ok (.iconst 0, 1) := by decide +kernel
theorem dX10_crossings_24 : decode cX10_crossings 24 = .ok (.istore 5, 2) := by decide +kernel
theorem dX10_crossings_26 : decode cX10_crossings 26 = .ok (.iload 5, 2) := by decide +kernel
theorem dX10_crossings_28 : decode cX10_crossings 28 = .ok (.iload_n 2, 1) := by decide +kernel
theorem dX10_crossings_29 : decode cX10_crossings 29 = .ok (.if_icmp .ge 65, 3) := by decide +kernel
theorem dX10_crossings_32 : decode cX10_crossings 32 = .ok (.aload_n 0, 1) := by decide +kernel
theorem dX10_crossings_33 : decode cX10_crossings 33 = .ok (.iload_n 1, 1) := by decide +kernel
theorem dX10_crossings_34 : decode cX10_crossings 34 = .ok (.iload 5, 2) := by decide +kernel
theorem dX10_crossings_36 : decode cX10_crossings 36 = .ok (.invokevirtual 382, 3) := by decide +kernel
theorem dX10_crossings_39 : decode cX10_crossings 39 = .ok (.istore 6, 2) := by decide +kernel
theorem dX10_crossings_41 : decode cX10_crossings 41 = .ok (.iload 6, 2) := by decide +kernel
theorem dX10_crossings_43 : decode cX10_crossings 43 = .ok (.ifCond .ne 6, 3) := by decide +kernel
theorem dX10_crossings_46 : decode cX10_crossings 46 = .ok (.goto 42, 3) := by decide +kernel
theorem dX10_crossings_49 : decode cX10_crossings 49 = .ok (.iload 4, 2) := by decide +kernel
theorem dX10_crossings_51 : decode cX10_crossings 51 = .ok (.iload_n 3, 1) := by decide +kernel
theorem dX10_crossings_52 : decode cX10_crossings 52 = .ok (.ifCond .eq 29, 3) := by decide +kernel
theorem dX10_crossings_55 : decode cX10_crossings 55 = .ok (.iload_n 3, 1) := by decide +kernel
theorem dX10_crossings_56 : decode cX10_crossings 56 = .ok (.ifCond .le 7, 3) := by decide +kernel
theorem dX10_crossings_59 : decode cX10_crossings 59 = .ok (.iconst 1, 1) := by decide +kernel
theorem dX10_crossings_60 : decode cX10_crossings 60 = .ok (.goto 4, 3) := by decide +kernel
theorem dX10_crossings_63 : decode cX10_crossings 63 = .ok (.iconst 0, 1) := by decide +kernel
theorem dX10_crossings_64 : decode cX10_crossings 64 = .ok (.iload 6, 2) := by decide +kernel
theorem dX10_crossings_66 : decode cX10_crossings 66 = .ok (.ifCond .le 7, 3) := by decide +kernel
theorem dX10_crossings_69 : decode cX10_crossings 69 = .ok (.iconst 1, 1) := by decide +kernel
theorem dX10_crossings_70 : decode cX10_crossings 70 = .ok (.goto 4, 3) := by decide +kernel
theorem dX10_crossings_73 : decode cX10_crossings 73 = .ok (.iconst 0, 1) := by decide +kernel
theorem dX10_crossings_74 : decode cX10_crossings 74 = .ok (.if_icmp .eq 7, 3) := by decide +kernel
theorem dX10_crossings_77 : decode cX10_crossings 77 = .ok (.iconst 1, 1) := by decide +kernel
theorem dX10_crossings_78 : decode cX10_crossings 78 = .ok (.goto 4, 3) := by decide +kernel
theorem dX10_crossings_81 : decode cX10_crossings 81 = .ok (.iconst 0, 1) := by decide +kernel
theorem dX10_crossings_82 : decode cX10_crossings 82 = .ok (.iadd, 1) := by decide +kernel
theorem dX10_crossings_83 : decode cX10_crossings 83 = .ok (.istore 4, 2) := by decide +kernel
theorem dX10_crossings_85 : decode cX10_crossings 85 = .ok (.iload 6, 2) := by decide +kernel
theorem dX10_crossings_87 : decode cX10_crossings 87 = .ok (.istore_n 3, 1) := by decide +kernel
theorem dX10_crossings_88 : decode cX10_crossings 88 = .ok (.iinc 5 1, 3) := by decide +kernel
theorem dX10_crossings_91 : decode cX10_crossings 91 = .ok (.goto (-65), 3) := by decide +kernel
theorem dX10_crossings_94 : decode cX10_crossings 94 = .ok (.iload 4, 2) := by decide +kernel
theorem dX10_crossings_96 : decode cX10_crossings 96 = .ok (.ireturn, 1) := by decide +kernel
theorem dX10_rhythm_0 : decode cX10_rhythm 0 = .ok (.aload_n 0, 1) := by decide +kernel
theorem dX10_rhythm_1 : decode cX10_rhythm 1 = .ok (.aload_n 0, 1) := by decide +kernel
theorem dX10_rhythm_2 : decode cX10_rhythm 2 = .ok (.iload_n 1, 1) := by decide +kernel
theorem dX10_rhythm_3 : decode cX10_rhythm 3 = .ok (.invokevirtual 376, 3) := by decide +kernel
theorem dX10_rhythm_6 : decode cX10_rhythm 6 = .ok (.iload_n 2, 1) := by decide +kernel
theorem dX10_rhythm_7 : decode cX10_rhythm 7 = .ok (.invokestatic 379, 3) := by decide +kernel
theorem dX10_rhythm_10 : decode cX10_rhythm 10 = .ok (.invokevirtual 359, 3) := by decide +kernel
theorem dX10_rhythm_13 : decode cX10_rhythm 13 = .ok (.ifCond .ne 5, 3) := by decide +kernel
theorem dX10_rhythm_16 : decode cX10_rhythm 16 = .ok (.iconst 0, 1) := by decide +kernel
theorem dX10_rhythm_17 : decode cX10_rhythm 17 = .ok (.ireturn, 1) := by decide +kernel
theorem dX10_rhythm_18 : decode cX10_rhythm 18 = .ok (.iconst 0, 1) := by decide +kernel
theorem dX10_rhythm_19 : decode cX10_rhythm 19 = .ok (.istore_n 3, 1) := by decide +kernel
theorem dX10_rhythm_20 : decode cX10_rhythm 20 = .ok (.iload_n 3, 1) := by decide +kernel
theorem dX10_rhythm_21 : decode cX10_rhythm 21 = .ok (.iload_n 2, 1) := by decide +kernel
theorem dX10_rhythm_22 : decode cX10_rhythm 22 = .ok (.bipush 20, 2) := by decide +kernel
theorem dX10_rhythm_24 : decode cX10_rhythm 24 = .ok (.iadd, 1) := by decide +kernel
theorem dX10_rhythm_25 : decode cX10_rhythm 25 = .ok (.if_icmp .ge 21, 3) := by decide +kernel
theorem dX10_rhythm_28 : decode cX10_rhythm 28 = .ok (.aload_n 0, 1) := by decide +kernel
theorem dX10_rhythm_29 : decode cX10_rhythm 29 = .ok (.getfield 45, 3) := by decide +kernel
theorem dX10_rhythm_32 : decode cX10_rhythm 32 = .ok (.iload_n 3, 1) := by decide +kernel
theorem dX10_rhythm_33 : decode cX10_rhythm 33 = .ok (.aload_n 0, 1) := by decide +kernel
theorem dX10_rhythm_34 : decode cX10_rhythm 34 = .ok (.iload_n 1, 1) := by decide +kernel
theorem dX10_rhythm_35 : decode cX10_rhythm 35 = .ok (.iload_n 3, 1) := by decide +kernel
theorem dX10_rhythm_36 : decode cX10_rhythm 36 = .ok (.invokevirtual 382, 3) := by decide +kernel
theorem dX10_rhythm_39 : decode cX10_rhythm 39 = .ok (.iastore, 1) := by decide +kernel
theorem dX10_rhythm_40 : decode cX10_rhythm 40 = .ok (.iinc 3 1, 3) := by decide +kernel
theorem dX10_rhythm_43 : decode cX10_rhythm 43 = .ok (.goto (-23), 3) := by decide +kernel
theorem dX10_rhythm_46 : decode cX10_rhythm 46 = .ok (.iconst (-1), 1) := by decide +kernel
theorem dX10_rhythm_47 : decode cX10_rhythm 47 = .ok (.istore_n 3, 1) := by decide +kernel
theorem dX10_rhythm_48 : decode cX10_rhythm 48 = .ok (.lconst 0, 1) := by decide +kernel
theorem dX10_rhythm_49 : decode cX10_rhythm 49 = .ok (.lstore 4, 2) := by decide +kernel
theorem dX10_rhythm_51 : decode cX10_rhythm 51 = .ok (.iconst 1, 1) := by decide +kernel
theorem dX10_rhythm_52 : decode cX10_rhythm 52 = .ok (.istore 6, 2) := by decide +kernel
theorem dX10_rhythm_54 : decode cX10_rhythm 54 = .ok (.iload 6, 2) := by decide +kernel
theorem dX10_rhythm_56 : decode cX10_rhythm 56 = .ok (.bipush 20, 2) := by decide +kernel
theorem dX10_rhythm_58 : decode cX10_rhythm 58 = .ok (.if_icmp .gt 75, 3) := by decide +kernel
theorem dX10_rhythm_61 : decode cX10_rhythm 61 = .ok (.lconst 0, 1) := by decide +kernel
theorem dX10_rhythm_62 : decode cX10_rhythm 62 = .ok (.lstore 7, 2) := by decide +kernel
theorem dX10_rhythm_64 : decode cX10_rhythm 64 = .ok (.iconst 0, 1) := by decide +kernel
theorem dX10_rhythm_65 : decode cX10_rhythm 65 = .ok (.istore 9, 2) := by decide +kernel
theorem dX10_rhythm_67 : decode cX10_rhythm 67 = .ok (.iload 9, 2) := by decide +kernel
theorem dX10_rhythm_69 : decode cX10_rhythm 69 = .ok (.iload_n 2, 1) := by decide +kernel
theorem dX10_rhythm_70 : decode cX10_rhythm 70 = .ok (.if_icmp .ge 34, 3) := by decide +kernel
theorem dX10_rhythm_73 : decode cX10_rhythm 73 = .ok (.lload 7, 2) := by decide +kernel
theorem dX10_rhythm_75 : decode cX10_rhythm 75 = .ok (.aload_n 0, 1) := by decide +kernel
theorem dX10_rhythm_76 : decode cX10_rhythm 76 = .ok (.getfield 45, 3) := by decide +kernel
theorem dX10_rhythm_79 : decode cX10_rhythm 79 = .ok (.iload 9, 2) := by decide +kernel
theorem dX10_rhythm_81 : decode cX10_rhythm 81 = .ok (.iaload, 1) := by decide +kernel
theorem dX10_rhythm_82 : decode cX10_rhythm 82 = .ok (.i2l, 1) := by decide +kernel
theorem dX10_rhythm_83 : decode cX10_rhythm 83 = .ok (.aload_n 0, 1) := by decide +kernel
theorem dX10_rhythm_84 : decode cX10_rhythm 84 = .ok (.getfield 45, 3) := by decide +kernel
theorem dX10_rhythm_87 : decode cX10_rhythm 87 = .ok (.iload 9, 2) := by decide +kernel
theorem dX10_rhythm_89 : decode cX10_rhythm 89 = .ok (.iload 6, 2) := by decide +kernel
theorem dX10_rhythm_91 : decode cX10_rhythm 91 = .ok (.iadd, 1) := by decide +kernel
theorem dX10_rhythm_92 : decode cX10_rhythm 92 = .ok (.iaload, 1) := by decide +kernel
theorem dX10_rhythm_93 : decode cX10_rhythm 93 = .ok (.i2l, 1) := by decide +kernel
theorem dX10_rhythm_94 : decode cX10_rhythm 94 = .ok (.lmul, 1) := by decide +kernel
theorem dX10_rhythm_95 : decode cX10_rhythm 95 = .ok (.ladd, 1) := by decide +kernel
theorem dX10_rhythm_96 : decode cX10_rhythm 96 = .ok (.lstore 7, 2) := by decide +kernel
theorem dX10_rhythm_98 : decode cX10_rhythm 98 = .ok (.iinc 9 1, 3) := by decide +kernel
theorem dX10_rhythm_101 : decode cX10_rhythm 101 = .ok (.goto (-34), 3) := by decide +kernel
theorem dX10_rhythm_104 : decode cX10_rhythm 104 = .ok (.iload_n 3, 1) := by decide +kernel
theorem dX10_rhythm_105 : decode cX10_rhythm 105 = .ok (.iconst (-1), 1) := by decide +kernel
theorem dX10_rhythm_106 : decode cX10_rhythm 106 = .ok (.if_icmp .eq 14, 3) := by decide +kernel
theorem dX10_rhythm_109 : decode cX10_rhythm 109 = .ok (.lload 7, 2) := by decide +kernel
theorem dX10_rhythm_111 : decode cX10_rhythm 111 = .ok (.lload 4, 2) := by decide +kernel
theorem dX10_rhythm_113 : decode cX10_rhythm 113 = .ok (.lcmp, 1) := by decide +kernel
theorem dX10_rhythm_114 : decode cX10_rhythm 114 = .ok (.ifCond .gt 6, 3) := by decide +kernel
theorem dX10_rhythm_117 : decode cX10_rhythm 117 = .ok (.goto 10, 3) := by decide +kernel
theorem dX10_rhythm_120 : decode cX10_rhythm 120 = .ok (.iload 6, 2) := by decide +kernel
theorem dX10_rhythm_122 : decode cX10_rhythm 122 = .ok (.istore_n 3, 1) := by decide +kernel
theorem dX10_rhythm_123 : decode cX10_rhythm 123 = .ok (.lload 7, 2) := by decide +kernel
theorem dX10_rhythm_125 : decode cX10_rhythm 125 = .ok (.lstore 4, 2) := by decide +kernel
theorem dX10_rhythm_127 : decode cX10_rhythm 127 = .ok (.iinc 6 1, 3) := by decide +kernel
theorem dX10_rhythm_130 : decode cX10_rhythm 130 = .ok (.goto (-76), 3) := by decide +kernel
theorem dX10_rhythm_133 : decode cX10_rhythm 133 = .ok (.iload_n 3, 1) := by decide +kernel
theorem dX10_rhythm_134 : decode cX10_rhythm 134 = .ok (.ireturn, 1) := by decide +kernel
theorem dX10_part_0 : decode cX10_part 0 = .ok (.aload_n 0, 1) := by decide +kernel
theorem dX10_part_1 : decode cX10_part 1 = .ok (.aload_n 0, 1) := by decide +kernel
theorem dX10_part_2 : decode cX10_part 2 = .ok (.iload_n 1, 1) := by decide +kernel
theorem dX10_part_3 : decode cX10_part 3 = .ok (.invokevirtual 353, 3) := by decide +kernel
theorem dX10_part_6 : decode cX10_part 6 = .ok (.ifCond .eq 16, 3) := by decide +kernel
theorem dX10_part_9 : decode cX10_part 9 = .ok (.aload_n 0, 1) := by decide +kernel
theorem dX10_part_10 : decode cX10_part 10 = .ok (.iload_n 2, 1) := by decide +kernel
theorem dX10_part_11 : decode cX10_part 11 = .ok (.iload_n 3, 1) := by decide +kernel
theorem dX10_part_12 : decode cX10_part 12 = .ok (.invokevirtual 363, 3) := by decide +kernel
theorem dX10_part_15 : decode cX10_part 15 = .ok (.ifCond .eq 7, 3) := by decide +kernel
theorem dX10_part_18 : decode cX10_part 18 = .ok (.iconst 1, 1) := by decide +kernel
theorem dX10_part_19 : decode cX10_part 19 = .ok (.goto 4, 3) := by decide +kernel
theorem dX10_part_22 : decode cX10_part 22 = .ok (.iconst 0, 1) := by decide +kernel
theorem dX10_part_23 : decode cX10_part 23 = .ok (.invokevirtual 349, 3) := by decide +kernel
theorem dX10_part_26 : decode cX10_part 26 = .ok (.ifCond .eq 23, 3) := by decide +kernel
theorem dX10_part_29 : decode cX10_part 29 = .ok (.aload_n 0, 1) := by decide +kernel
theorem dX10_part_30 : decode cX10_part 30 = .ok (.aload_n 0, 1) := by decide +kernel
theorem dX10_part_31 : decode cX10_part 31 = .ok (.getfield 23, 3) := by decide +kernel
theorem dX10_part_34 : decode cX10_part 34 = .ok (.iload_n 1, 1) := by decide +kernel
theorem dX10_part_35 : decode cX10_part 35 = .ok (.iload_n 2, 1) := by decide +kernel
theorem dX10_part_36 : decode cX10_part 36 = .ok (.iload_n 3, 1) := by decide +kernel
theorem dX10_part_37 : decode cX10_part 37 = .ok (.aload_n 0, 1) := by decide +kernel
theorem dX10_part_38 : decode cX10_part 38 = .ok (.getfield 23, 3) := by decide +kernel
theorem dX10_part_41 : decode cX10_part 41 = .ok (.iconst 0, 1) := by decide +kernel
theorem dX10_part_42 : decode cX10_part 42 = .ok (.iaload, 1) := by decide +kernel
theorem dX10_part_43 : decode cX10_part 43 = .ok (.invokevirtual 333, 3) := by decide +kernel
theorem dX10_part_46 : decode cX10_part 46 = .ok (.goto 4, 3) := by decide +kernel
theorem dX10_part_49 : decode cX10_part 49 = .ok (.iconst 0, 1) := by decide +kernel
theorem dX10_part_50 : decode cX10_part 50 = .ok (.ireturn, 1) := by decide +kernel
theorem dX10_wave_0 : decode cX10_wave 0 = .ok (.aload_n 0, 1) := by decide +kernel
theorem dX10_wave_1 : decode cX10_wave 1 = .ok (.aload_n 0, 1) := by decide +kernel
theorem dX10_wave_2 : decode cX10_wave 2 = .ok (.iload_n 1, 1) := by decide +kernel
theorem dX10_wave_3 : decode cX10_wave 3 = .ok (.iload_n 2, 1) := by decide +kernel
theorem dX10_wave_4 : decode cX10_wave 4 = .ok (.invokevirtual 363, 3) := by decide +kernel
theorem dX10_wave_7 : decode cX10_wave 7 = .ok (.invokevirtual 349, 3) := by decide +kernel
theorem dX10_wave_10 : decode cX10_wave 10 = .ok (.ifCond .eq 22, 3) := by decide +kernel
theorem dX10_wave_13 : decode cX10_wave 13 = .ok (.aload_n 0, 1) := by decide +kernel
theorem dX10_wave_14 : decode cX10_wave 14 = .ok (.aload_n 0, 1) := by decide +kernel
theorem dX10_wave_15 : decode cX10_wave 15 = .ok (.getfield 23, 3) := by decide +kernel
theorem dX10_wave_18 : decode cX10_wave 18 = .ok (.iload_n 1, 1) := by decide +kernel
theorem dX10_wave_19 : decode cX10_wave 19 = .ok (.iload_n 2, 1) := by decide +kernel
theorem dX10_wave_20 : decode cX10_wave 20 = .ok (.aload_n 0, 1) := by decide +kernel
theorem dX10_wave_21 : decode cX10_wave 21 = .ok (.getfield 23, 3) := by decide +kernel
theorem dX10_wave_24 : decode cX10_wave 24 = .ok (.iconst 0, 1) := by decide +kernel
theorem dX10_wave_25 : decode cX10_wave 25 = .ok (.iaload, 1) := by decide +kernel
theorem dX10_wave_26 : decode cX10_wave 26 = .ok (.invokevirtual 337, 3) := by decide +kernel
theorem dX10_wave_29 : decode cX10_wave 29 = .ok (.goto 4, 3) := by decide +kernel
theorem dX10_wave_32 : decode cX10_wave 32 = .ok (.iconst 0, 1) := by decide +kernel
theorem dX10_wave_33 : decode cX10_wave 33 = .ok (.ireturn, 1) := by decide +kernel
theorem dX10_waveAt_0 : decode cX10_waveAt 0 = .ok (.aload_n 0, 1) := by decide +kernel
theorem dX10_waveAt_1 : decode cX10_waveAt 1 = .ok (.aload_n 0, 1) := by decide +kernel
theorem dX10_waveAt_2 : decode cX10_waveAt 2 = .ok (.iload_n 1, 1) := by decide +kernel
theorem dX10_waveAt_3 : decode cX10_waveAt 3 = .ok (.iload_n 2, 1) := by decide +kernel
theorem dX10_waveAt_4 : decode cX10_waveAt 4 = .ok (.invokevirtual 363, 3) := by decide +kernel
theorem dX10_waveAt_7 : decode cX10_waveAt 7 = .ok (.iload_n 3, 1) := by decide +kernel
theorem dX10_waveAt_8 : decode cX10_waveAt 8 = .ok (.invokestatic 356, 3) := by decide +kernel
theorem dX10_waveAt_11 : decode cX10_waveAt 11 = .ok (.invokevirtual 359, 3) := by decide +kernel
theorem dX10_waveAt_14 : decode cX10_waveAt 14 = .ok (.ifCond .eq 17, 3) := by decide +kernel
theorem dX10_waveAt_17 : decode cX10_waveAt 17 = .ok (.aload_n 0, 1) := by decide +kernel
theorem dX10_waveAt_18 : decode cX10_waveAt 18 = .ok (.aload_n 0, 1) := by decide +kernel
theorem dX10_waveAt_19 : decode cX10_waveAt 19 = .ok (.getfield 23, 3) := by decide +kernel
theorem dX10_waveAt_22 : decode cX10_waveAt 22 = .ok (.iload_n 1, 1) := by decide +kernel
theorem dX10_waveAt_23 : decode cX10_waveAt 23 = .ok (.iload_n 2, 1) := by decide +kernel
theorem dX10_waveAt_24 : decode cX10_waveAt 24 = .ok (.iload_n 3, 1) := by decide +kernel
theorem dX10_waveAt_25 : decode cX10_waveAt 25 = .ok (.invokevirtual 337, 3) := by decide +kernel
theorem dX10_waveAt_28 : decode cX10_waveAt 28 = .ok (.goto 4, 3) := by decide +kernel
theorem dX10_waveAt_31 : decode cX10_waveAt 31 = .ok (.iconst 0, 1) := by decide +kernel
theorem dX10_waveAt_32 : decode cX10_waveAt 32 = .ok (.ireturn, 1) := by decide +kernel
theorem dX10_quietIn_0 : decode cX10_quietIn 0 = .ok (.aload_n 0, 1) := by decide +kernel
theorem dX10_quietIn_1 : decode cX10_quietIn 1 = .ok (.aload_n 0, 1) := by decide +kernel
theorem dX10_quietIn_2 : decode cX10_quietIn 2 = .ok (.iload_n 1, 1) := by decide +kernel
theorem dX10_quietIn_3 : decode cX10_quietIn 3 = .ok (.iload_n 2, 1) := by decide +kernel
theorem dX10_quietIn_4 : decode cX10_quietIn 4 = .ok (.invokevirtual 363, 3) := by decide +kernel
theorem dX10_quietIn_7 : decode cX10_quietIn 7 = .ok (.iload_n 3, 1) := by decide +kernel
theorem dX10_quietIn_8 : decode cX10_quietIn 8 = .ok (.invokestatic 385, 3) := by decide +kernel
theorem dX10_quietIn_11 : decode cX10_quietIn 11 = .ok (.ifCond .eq 19, 3) := by decide +kernel
theorem dX10_quietIn_14 : decode cX10_quietIn 14 = .ok (.iload 4, 2) := by decide +kernel
theorem dX10_quietIn_16 : decode cX10_quietIn 16 = .ok (.iconst 1, 1) := by decide +kernel
theorem dX10_quietIn_17 : decode cX10_quietIn 17 = .ok (.sipush 200, 3) := by decide +kernel
theorem dX10_quietIn_20 : decode cX10_quietIn 20 = .ok (.invokestatic 93, 3) := by decide +kernel
theorem dX10_quietIn_23 : decode cX10_quietIn 23 = .ok (.ifCond .eq 7, 3) := by decide +kernel
theorem dX10_quietIn_26 : decode cX10_quietIn 26 = .ok (.iconst 1, 1) := by decide +kernel
theorem dX10_quietIn_27 : decode cX10_quietIn 27 = .ok (.goto 4, 3) := by decide +kernel
theorem dX10_quietIn_30 : decode cX10_quietIn 30 = .ok (.iconst 0, 1) := by decide +kernel
theorem dX10_quietIn_31 : decode cX10_quietIn 31 = .ok (.invokevirtual 359, 3) := by decide +kernel
theorem dX10_quietIn_34 : decode cX10_quietIn 34 = .ok (.ifCond .ne 5, 3) := by decide +kernel
theorem dX10_quietIn_37 : decode cX10_quietIn 37 = .ok (.iconst 0, 1) := by decide +kernel
theorem dX10_quietIn_38 : decode cX10_quietIn 38 = .ok (.ireturn, 1) := by decide +kernel
theorem dX10_quietIn_39 : decode cX10_quietIn 39 = .ok (.iconst 0, 1) := by decide +kernel
theorem dX10_quietIn_40 : decode cX10_quietIn 40 = .ok (.istore 5, 2) := by decide +kernel
theorem dX10_quietIn_42 : decode cX10_quietIn 42 = .ok (.iload 5, 2) := by decide +kernel
theorem dX10_quietIn_44 : decode cX10_quietIn 44 = .ok (.iload 4, 2) := by decide +kernel
theorem dX10_quietIn_46 : decode cX10_quietIn 46 = .ok (.if_icmp .gt 38, 3) := by decide +kernel
theorem dX10_quietIn_49 : decode cX10_quietIn 49 = .ok (.aload_n 0, 1) := by decide +kernel
theorem dX10_quietIn_50 : decode cX10_quietIn 50 = .ok (.aload_n 0, 1) := by decide +kernel
theorem dX10_quietIn_51 : decode cX10_quietIn 51 = .ok (.getfield 23, 3) := by decide +kernel
theorem dX10_quietIn_54 : decode cX10_quietIn 54 = .ok (.iload_n 1, 1) := by decide +kernel
theorem dX10_quietIn_55 : decode cX10_quietIn 55 = .ok (.iload_n 2, 1) := by decide +kernel
theorem dX10_quietIn_56 : decode cX10_quietIn 56 = .ok (.aload_n 0, 1) := by decide +kernel
theorem dX10_quietIn_57 : decode cX10_quietIn 57 = .ok (.getfield 23, 3) := by decide +kernel
theorem dX10_quietIn_60 : decode cX10_quietIn 60 = .ok (.iconst 0, 1) := by decide +kernel
theorem dX10_quietIn_61 : decode cX10_quietIn 61 = .ok (.iaload, 1) := by decide +kernel
theorem dX10_quietIn_62 : decode cX10_quietIn 62 = .ok (.iload 5, 2) := by decide +kernel
theorem dX10_quietIn_64 : decode cX10_quietIn 64 = .ok (.iadd, 1) := by decide +kernel
theorem dX10_quietIn_65 : decode cX10_quietIn 65 = .ok (.invokevirtual 337, 3) := by decide +kernel
theorem dX10_quietIn_68 : decode cX10_quietIn 68 = .ok (.invokestatic 262, 3) := by decide +kernel
theorem dX10_quietIn_71 : decode cX10_quietIn 71 = .ok (.iload_n 3, 1) := by decide +kernel
theorem dX10_quietIn_72 : decode cX10_quietIn 72 = .ok (.if_icmp .gt 6, 3) := by decide +kernel
theorem dX10_quietIn_75 : decode cX10_quietIn 75 = .ok (.iload 5, 2) := by decide +kernel
theorem dX10_quietIn_77 : decode cX10_quietIn 77 = .ok (.ireturn, 1) := by decide +kernel
theorem dX10_quietIn_78 : decode cX10_quietIn 78 = .ok (.iinc 5 1, 3) := by decide +kernel
theorem dX10_quietIn_81 : decode cX10_quietIn 81 = .ok (.goto (-39), 3) := by decide +kernel
theorem dX10_quietIn_84 : decode cX10_quietIn 84 = .ok (.iconst (-1), 1) := by decide +kernel
theorem dX10_quietIn_85 : decode cX10_quietIn 85 = .ok (.ireturn, 1) := by decide +kernel
theorem dX10_laysNodes_0 : decode cX10_laysNodes 0 = .ok (.iconst 0, 1) := by decide +kernel
theorem dX10_laysNodes_1 : decode cX10_laysNodes 1 = .ok (.istore 4, 2) := by decide +kernel
theorem dX10_laysNodes_3 : decode cX10_laysNodes 3 = .ok (.iconst 0, 1) := by decide +kernel
theorem dX10_laysNodes_4 : decode cX10_laysNodes 4 = .ok (.istore 5, 2) := by decide +kernel
theorem dX10_laysNodes_6 : decode cX10_laysNodes 6 = .ok (.iload 5, 2) := by decide +kernel
theorem dX10_laysNodes_8 : decode cX10_laysNodes 8 = .ok (.aload_n 0, 1) := by decide +kernel
theorem dX10_laysNodes_9 : decode cX10_laysNodes 9 = .ok (.getfield 17, 3) := by decide +kernel
theorem dX10_laysNodes_12 : decode cX10_laysNodes 12 = .ok (.iconst 1, 1) := by decide +kernel
theorem dX10_laysNodes_13 : decode cX10_laysNodes 13 = .ok (.iaload, 1) := by decide +kernel
theorem dX10_laysNodes_14 : decode cX10_laysNodes 14 = .ok (.if_icmp .ge 87, 3) := by decide +kernel
theorem dX10_laysNodes_17 : decode cX10_laysNodes 17 = .ok (.iconst 0, 1) := by decide +kernel
theorem dX10_laysNodes_18 : decode cX10_laysNodes 18 = .ok (.istore 6, 2) := by decide +kernel
theorem dX10_laysNodes_20 : decode cX10_laysNodes 20 = .ok (.iload 6, 2) := by decide +kernel
theorem dX10_laysNodes_22 : decode cX10_laysNodes 22 = .ok (.aload_n 0, 1) := by decide +kernel
theorem dX10_laysNodes_23 : decode cX10_laysNodes 23 = .ok (.getfield 17, 3) := by decide +kernel
theorem dX10_laysNodes_26 : decode cX10_laysNodes 26 = .ok (.iconst 0, 1) := by decide +kernel
theorem dX10_laysNodes_27 : decode cX10_laysNodes 27 = .ok (.iaload, 1) := by decide +kernel
theorem dX10_laysNodes_28 : decode cX10_laysNodes 28 = .ok (.if_icmp .ge 67, 3) := by decide +kernel
theorem dX10_laysNodes_31 : decode cX10_laysNodes 31 = .ok (.aload_n 0, 1) := by decide +kernel
theorem dX10_laysNodes_32 : decode cX10_laysNodes 32 = .ok (.getfield 48, 3) := by decide +kernel
theorem dX10_laysNodes_35 : decode cX10_laysNodes 35 = .ok (.aload_n 0, 1) := by decide +kernel
theorem dX10_laysNodes_36 : decode cX10_laysNodes 36 = .ok (.getfield 17, 3) := by decide +kernel
theorem dX10_laysNodes_39 : decode cX10_laysNodes 39 = .ok (.iconst 0, 1) := by decide +kernel
theorem dX10_laysNodes_40 : decode cX10_laysNodes 40 = .ok (.iaload, 1) := by decide +kernel
theorem dX10_laysNodes_41 : decode cX10_laysNodes 41 = .ok (.iload 5, 2) := by decide +kernel
theorem dX10_laysNodes_43 : decode cX10_laysNodes 43 = .ok (.imul, 1) := by decide +kernel
theorem dX10_laysNodes_44 : decode cX10_laysNodes 44 = .ok (.iload 6, 2) := by decide +kernel
theorem dX10_laysNodes_46 : decode cX10_laysNodes 46 = .ok (.iadd, 1) := by decide +kernel
theorem dX10_laysNodes_47 : decode cX10_laysNodes 47 = .ok (.aload_n 0, 1) := by decide +kernel
theorem dX10_laysNodes_48 : decode cX10_laysNodes 48 = .ok (.aload_n 1, 1) := by decide +kernel
theorem dX10_laysNodes_49 : decode cX10_laysNodes 49 = .ok (.iload 6, 2) := by decide +kernel
theorem dX10_laysNodes_51 : decode cX10_laysNodes 51 = .ok (.iload 5, 2) := by decide +kernel
theorem dX10_laysNodes_53 : decode cX10_laysNodes 53 = .ok (.iload_n 2, 1) := by decide +kernel
theorem dX10_laysNodes_54 : decode cX10_laysNodes 54 = .ok (.iload_n 3, 1) := by decide +kernel
theorem dX10_laysNodes_55 : decode cX10_laysNodes 55 = .ok (.invokevirtual 388, 3) := by decide +kernel
theorem dX10_laysNodes_58 : decode cX10_laysNodes 58 = .ok (.ifCond .eq 7, 3) := by decide +kernel
theorem dX10_laysNodes_61 : decode cX10_laysNodes 61 = .ok (.iconst 1, 1) := by decide +kernel
theorem dX10_laysNodes_62 : decode cX10_laysNodes 62 = .ok (.goto 4, 3) := by decide +kernel
theorem dX10_laysNodes_65 : decode cX10_laysNodes 65 = .ok (.iconst 0, 1) := by decide +kernel
theorem dX10_laysNodes_66 : decode cX10_laysNodes 66 = .ok (.iastore, 1) := by decide +kernel
theorem dX10_laysNodes_67 : decode cX10_laysNodes 67 = .ok (.iload 4, 2) := by decide +kernel
theorem dX10_laysNodes_69 : decode cX10_laysNodes 69 = .ok (.aload_n 0, 1) := by decide +kernel
theorem dX10_laysNodes_70 : decode cX10_laysNodes 70 = .ok (.getfield 48, 3) := by decide +kernel
theorem dX10_laysNodes_73 : decode cX10_laysNodes 73 = .ok (.aload_n 0, 1) := by decide +kernel
theorem dX10_laysNodes_74 : decode cX10_laysNodes 74 = .ok (.getfield 17, 3) := by decide +kernel
theorem dX10_laysNodes_77 : decode cX10_laysNodes 77 = .ok (.iconst 0, 1) := by decide +kernel
theorem dX10_laysNodes_78 : decode cX10_laysNodes 78 = .ok (.iaload, 1) := by decide +kernel
theorem dX10_laysNodes_79 : decode cX10_laysNodes 79 = .ok (.iload 5, 2) := by decide +kernel
theorem dX10_laysNodes_81 : decode cX10_laysNodes 81 = .ok (.imul, 1) := by decide +kernel
theorem dX10_laysNodes_82 : decode cX10_laysNodes 82 = .ok (.iload 6, 2) := by decide +kernel
theorem dX10_laysNodes_84 : decode cX10_laysNodes 84 = .ok (.iadd, 1) := by decide +kernel
theorem dX10_laysNodes_85 : decode cX10_laysNodes 85 = .ok (.iaload, 1) := by decide +kernel
theorem dX10_laysNodes_86 : decode cX10_laysNodes 86 = .ok (.iadd, 1) := by decide +kernel
theorem dX10_laysNodes_87 : decode cX10_laysNodes 87 = .ok (.istore 4, 2) := by decide +kernel
theorem dX10_laysNodes_89 : decode cX10_laysNodes 89 = .ok (.iinc 6 1, 3) := by decide +kernel
theorem dX10_laysNodes_92 : decode cX10_laysNodes 92 = .ok (.goto (-72), 3) := by decide +kernel
theorem dX10_laysNodes_95 : decode cX10_laysNodes 95 = .ok (.iinc 5 1, 3) := by decide +kernel
theorem dX10_laysNodes_98 : decode cX10_laysNodes 98 = .ok (.goto (-92), 3) := by decide +kernel
theorem dX10_laysNodes_101 : decode cX10_laysNodes 101 = .ok (.iload 4, 2) := by decide +kernel
theorem dX10_laysNodes_103 : decode cX10_laysNodes 103 = .ok (.ireturn, 1) := by decide +kernel
theorem dX10_isNode_0 : decode cX10_isNode 0 = .ok (.aload_n 0, 1) := by decide +kernel
theorem dX10_isNode_1 : decode cX10_isNode 1 = .ok (.aload_n 0, 1) := by decide +kernel
theorem dX10_isNode_2 : decode cX10_isNode 2 = .ok (.iload_n 1, 1) := by decide +kernel
theorem dX10_isNode_3 : decode cX10_isNode 3 = .ok (.iload_n 2, 1) := by decide +kernel
theorem dX10_isNode_4 : decode cX10_isNode 4 = .ok (.invokevirtual 363, 3) := by decide +kernel
theorem dX10_isNode_7 : decode cX10_isNode 7 = .ok (.iload_n 3, 1) := by decide +kernel
theorem dX10_isNode_8 : decode cX10_isNode 8 = .ok (.invokestatic 379, 3) := by decide +kernel
theorem dX10_isNode_11 : decode cX10_isNode 11 = .ok (.ifCond .eq 15, 3) := by decide +kernel
theorem dX10_isNode_14 : decode cX10_isNode 14 = .ok (.iload 4, 2) := by decide +kernel
theorem dX10_isNode_16 : decode cX10_isNode 16 = .ok (.invokestatic 385, 3) := by decide +kernel
theorem dX10_isNode_19 : decode cX10_isNode 19 = .ok (.ifCond .eq 7, 3) := by decide +kernel
theorem dX10_isNode_22 : decode cX10_isNode 22 = .ok (.iconst 1, 1) := by decide +kernel
theorem dX10_isNode_23 : decode cX10_isNode 23 = .ok (.goto 4, 3) := by decide +kernel
theorem dX10_isNode_26 : decode cX10_isNode 26 = .ok (.iconst 0, 1) := by decide +kernel
theorem dX10_isNode_27 : decode cX10_isNode 27 = .ok (.invokevirtual 359, 3) := by decide +kernel
theorem dX10_isNode_30 : decode cX10_isNode 30 = .ok (.ifCond .eq 23, 3) := by decide +kernel
theorem dX10_isNode_33 : decode cX10_isNode 33 = .ok (.aload_n 0, 1) := by decide +kernel
theorem dX10_isNode_34 : decode cX10_isNode 34 = .ok (.aload_n 0, 1) := by decide +kernel
