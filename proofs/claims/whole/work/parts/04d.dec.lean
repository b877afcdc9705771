theorem dX10_isNode_35 : decode cX10_isNode 35 = .ok (.getfield 23, 3) := by decide +kernel
theorem dX10_isNode_38 : decode cX10_isNode 38 = .ok (.iload_n 1, 1) := by decide +kernel
theorem dX10_isNode_39 : decode cX10_isNode 39 = .ok (.iload_n 2, 1) := by decide +kernel
theorem dX10_isNode_40 : decode cX10_isNode 40 = .ok (.iload_n 3, 1) := by decide +kernel
theorem dX10_isNode_41 : decode cX10_isNode 41 = .ok (.iload 4, 2) := by decide +kernel
theorem dX10_isNode_43 : decode cX10_isNode 43 = .ok (.invokevirtual 388, 3) := by decide +kernel
theorem dX10_isNode_46 : decode cX10_isNode 46 = .ok (.ifCond .eq 7, 3) := by decide +kernel
theorem dX10_isNode_49 : decode cX10_isNode 49 = .ok (.iconst 1, 1) := by decide +kernel
theorem dX10_isNode_50 : decode cX10_isNode 50 = .ok (.goto 4, 3) := by decide +kernel
theorem dX10_isNode_53 : decode cX10_isNode 53 = .ok (.iconst 0, 1) := by decide +kernel
theorem dX10_isNode_54 : decode cX10_isNode 54 = .ok (.ireturn, 1) := by decide +kernel
theorem dX10_nodes_0 : decode cX10_nodes 0 = .ok (.aload_n 0, 1) := by decide +kernel
theorem dX10_nodes_1 : decode cX10_nodes 1 = .ok (.iload_n 1, 1) := by decide +kernel
theorem dX10_nodes_2 : decode cX10_nodes 2 = .ok (.invokestatic 379, 3) := by decide +kernel
theorem dX10_nodes_5 : decode cX10_nodes 5 = .ok (.ifCond .eq 14, 3) := by decide +kernel
theorem dX10_nodes_8 : decode cX10_nodes 8 = .ok (.iload_n 2, 1) := by decide +kernel
theorem dX10_nodes_9 : decode cX10_nodes 9 = .ok (.invokestatic 385, 3) := by decide +kernel
theorem dX10_nodes_12 : decode cX10_nodes 12 = .ok (.ifCond .eq 7, 3) := by decide +kernel
theorem dX10_nodes_15 : decode cX10_nodes 15 = .ok (.iconst 1, 1) := by decide +kernel
theorem dX10_nodes_16 : decode cX10_nodes 16 = .ok (.goto 4, 3) := by decide +kernel
theorem dX10_nodes_19 : decode cX10_nodes 19 = .ok (.iconst 0, 1) := by decide +kernel
theorem dX10_nodes_20 : decode cX10_nodes 20 = .ok (.invokevirtual 349, 3) := by decide +kernel
theorem dX10_nodes_23 : decode cX10_nodes 23 = .ok (.ifCond .eq 16, 3) := by decide +kernel
theorem dX10_nodes_26 : decode cX10_nodes 26 = .ok (.aload_n 0, 1) := by decide +kernel
theorem dX10_nodes_27 : decode cX10_nodes 27 = .ok (.aload_n 0, 1) := by decide +kernel
theorem dX10_nodes_28 : decode cX10_nodes 28 = .ok (.getfield 23, 3) := by decide +kernel
theorem dX10_nodes_31 : decode cX10_nodes 31 = .ok (.iload_n 1, 1) := by decide +kernel
theorem dX10_nodes_32 : decode cX10_nodes 32 = .ok (.iload_n 2, 1) := by decide +kernel
theorem dX10_nodes_33 : decode cX10_nodes 33 = .ok (.invokevirtual 392, 3) := by decide +kernel
theorem dX10_nodes_36 : decode cX10_nodes 36 = .ok (.goto 4, 3) := by decide +kernel
theorem dX10_nodes_39 : decode cX10_nodes 39 = .ok (.iconst 0, 1) := by decide +kernel
theorem dX10_nodes_40 : decode cX10_nodes 40 = .ok (.ireturn, 1) := by decide +kernel
theorem dX10_nodeRows_0 : decode cX10_nodeRows 0 = .ok (.aload_n 0, 1) := by decide +kernel
theorem dX10_nodeRows_1 : decode cX10_nodeRows 1 = .ok (.aload_n 0, 1) := by decide +kernel
theorem dX10_nodeRows_2 : decode cX10_nodeRows 2 = .ok (.iload_n 1, 1) := by decide +kernel
theorem dX10_nodeRows_3 : decode cX10_nodeRows 3 = .ok (.invokevirtual 343, 3) := by decide +kernel
theorem dX10_nodeRows_6 : decode cX10_nodeRows 6 = .ok (.iload_n 2, 1) := by decide +kernel
theorem dX10_nodeRows_7 : decode cX10_nodeRows 7 = .ok (.invokestatic 379, 3) := by decide +kernel
theorem dX10_nodeRows_10 : decode cX10_nodeRows 10 = .ok (.ifCond .eq 14, 3) := by decide +kernel
theorem dX10_nodeRows_13 : decode cX10_nodeRows 13 = .ok (.iload_n 3, 1) := by decide +kernel
theorem dX10_nodeRows_14 : decode cX10_nodeRows 14 = .ok (.invokestatic 385, 3) := by decide +kernel
theorem dX10_nodeRows_17 : decode cX10_nodeRows 17 = .ok (.ifCond .eq 7, 3) := by decide +kernel
theorem dX10_nodeRows_20 : decode cX10_nodeRows 20 = .ok (.iconst 1, 1) := by decide +kernel
theorem dX10_nodeRows_21 : decode cX10_nodeRows 21 = .ok (.goto 4, 3) := by decide +kernel
theorem dX10_nodeRows_24 : decode cX10_nodeRows 24 = .ok (.iconst 0, 1) := by decide +kernel
theorem dX10_nodeRows_25 : decode cX10_nodeRows 25 = .ok (.invokevirtual 359, 3) := by decide +kernel
theorem dX10_nodeRows_28 : decode cX10_nodeRows 28 = .ok (.ifCond .ne 5, 3) := by decide +kernel
theorem dX10_nodeRows_31 : decode cX10_nodeRows 31 = .ok (.iconst 0, 1) := by decide +kernel
theorem dX10_nodeRows_32 : decode cX10_nodeRows 32 = .ok (.ireturn, 1) := by decide +kernel
theorem dX10_nodeRows_33 : decode cX10_nodeRows 33 = .ok (.iconst 0, 1) := by decide +kernel
theorem dX10_nodeRows_34 : decode cX10_nodeRows 34 = .ok (.istore 4, 2) := by decide +kernel
theorem dX10_nodeRows_36 : decode cX10_nodeRows 36 = .ok (.iconst 0, 1) := by decide +kernel
theorem dX10_nodeRows_37 : decode cX10_nodeRows 37 = .ok (.istore 5, 2) := by decide +kernel
theorem dX10_nodeRows_39 : decode cX10_nodeRows 39 = .ok (.iload 5, 2) := by decide +kernel
theorem dX10_nodeRows_41 : decode cX10_nodeRows 41 = .ok (.aload_n 0, 1) := by decide +kernel
theorem dX10_nodeRows_42 : decode cX10_nodeRows 42 = .ok (.getfield 17, 3) := by decide +kernel
theorem dX10_nodeRows_45 : decode cX10_nodeRows 45 = .ok (.iconst 0, 1) := by decide +kernel
theorem dX10_nodeRows_46 : decode cX10_nodeRows 46 = .ok (.iaload, 1) := by decide +kernel
theorem dX10_nodeRows_47 : decode cX10_nodeRows 47 = .ok (.if_icmp .ge 38, 3) := by decide +kernel
theorem dX10_nodeRows_50 : decode cX10_nodeRows 50 = .ok (.iload 4, 2) := by decide +kernel
theorem dX10_nodeRows_52 : decode cX10_nodeRows 52 = .ok (.aload_n 0, 1) := by decide +kernel
theorem dX10_nodeRows_53 : decode cX10_nodeRows 53 = .ok (.aload_n 0, 1) := by decide +kernel
theorem dX10_nodeRows_54 : decode cX10_nodeRows 54 = .ok (.getfield 23, 3) := by decide +kernel
theorem dX10_nodeRows_57 : decode cX10_nodeRows 57 = .ok (.iload 5, 2) := by decide +kernel
theorem dX10_nodeRows_59 : decode cX10_nodeRows 59 = .ok (.iload_n 1, 1) := by decide +kernel
theorem dX10_nodeRows_60 : decode cX10_nodeRows 60 = .ok (.iload_n 2, 1) := by decide +kernel
theorem dX10_nodeRows_61 : decode cX10_nodeRows 61 = .ok (.iload_n 3, 1) := by decide +kernel
theorem dX10_nodeRows_62 : decode cX10_nodeRows 62 = .ok (.invokevirtual 388, 3) := by decide +kernel
theorem dX10_nodeRows_65 : decode cX10_nodeRows 65 = .ok (.ifCond .eq 10, 3) := by decide +kernel
theorem dX10_nodeRows_68 : decode cX10_nodeRows 68 = .ok (.iconst 1, 1) := by decide +kernel
theorem dX10_nodeRows_69 : decode cX10_nodeRows 69 = .ok (.iload 5, 2) := by decide +kernel
theorem dX10_nodeRows_71 : decode cX10_nodeRows 71 = .ok (.ishl, 1) := by decide +kernel
theorem dX10_nodeRows_72 : decode cX10_nodeRows 72 = .ok (.goto 4, 3) := by decide +kernel
theorem dX10_nodeRows_75 : decode cX10_nodeRows 75 = .ok (.iconst 0, 1) := by decide +kernel
theorem dX10_nodeRows_76 : decode cX10_nodeRows 76 = .ok (.ior, 1) := by decide +kernel
theorem dX10_nodeRows_77 : decode cX10_nodeRows 77 = .ok (.istore 4, 2) := by decide +kernel
theorem dX10_nodeRows_79 : decode cX10_nodeRows 79 = .ok (.iinc 5 1, 3) := by decide +kernel
theorem dX10_nodeRows_82 : decode cX10_nodeRows 82 = .ok (.goto (-43), 3) := by decide +kernel
theorem dX10_nodeRows_85 : decode cX10_nodeRows 85 = .ok (.iload 4, 2) := by decide +kernel
theorem dX10_nodeRows_87 : decode cX10_nodeRows 87 = .ok (.ireturn, 1) := by decide +kernel
theorem dX10_crossesOne_0 : decode cX10_crossesOne 0 = .ok (.aload_n 0, 1) := by decide +kernel
theorem dX10_crossesOne_1 : decode cX10_crossesOne 1 = .ok (.iload_n 1, 1) := by decide +kernel
theorem dX10_crossesOne_2 : decode cX10_crossesOne 2 = .ok (.iload_n 2, 1) := by decide +kernel
theorem dX10_crossesOne_3 : decode cX10_crossesOne 3 = .ok (.invokevirtual 363, 3) := by decide +kernel
theorem dX10_crossesOne_6 : decode cX10_crossesOne 6 = .ok (.ifCond .eq 21, 3) := by decide +kernel
theorem dX10_crossesOne_9 : decode cX10_crossesOne 9 = .ok (.aload_n 0, 1) := by decide +kernel
theorem dX10_crossesOne_10 : decode cX10_crossesOne 10 = .ok (.getfield 48, 3) := by decide +kernel
theorem dX10_crossesOne_13 : decode cX10_crossesOne 13 = .ok (.aload_n 0, 1) := by decide +kernel
theorem dX10_crossesOne_14 : decode cX10_crossesOne 14 = .ok (.getfield 17, 3) := by decide +kernel
theorem dX10_crossesOne_17 : decode cX10_crossesOne 17 = .ok (.iconst 0, 1) := by decide +kernel
theorem dX10_crossesOne_18 : decode cX10_crossesOne 18 = .ok (.iaload, 1) := by decide +kernel
theorem dX10_crossesOne_19 : decode cX10_crossesOne 19 = .ok (.iload_n 2, 1) := by decide +kernel
theorem dX10_crossesOne_20 : decode cX10_crossesOne 20 = .ok (.imul, 1) := by decide +kernel
theorem dX10_crossesOne_21 : decode cX10_crossesOne 21 = .ok (.iload_n 1, 1) := by decide +kernel
theorem dX10_crossesOne_22 : decode cX10_crossesOne 22 = .ok (.iadd, 1) := by decide +kernel
theorem dX10_crossesOne_23 : decode cX10_crossesOne 23 = .ok (.iaload, 1) := by decide +kernel
theorem dX10_crossesOne_24 : decode cX10_crossesOne 24 = .ok (.ifCond .ne 4, 3) := by decide +kernel
theorem dX10_crossesOne_27 : decode cX10_crossesOne 27 = .ok (.return_, 1) := by decide +kernel
theorem dX10_crossesOne_28 : decode cX10_crossesOne 28 = .ok (.aload_n 0, 1) := by decide +kernel
theorem dX10_crossesOne_29 : decode cX10_crossesOne 29 = .ok (.getfield 48, 3) := by decide +kernel
theorem dX10_crossesOne_32 : decode cX10_crossesOne 32 = .ok (.aload_n 0, 1) := by decide +kernel
theorem dX10_crossesOne_33 : decode cX10_crossesOne 33 = .ok (.getfield 17, 3) := by decide +kernel
theorem dX10_crossesOne_36 : decode cX10_crossesOne 36 = .ok (.iconst 0, 1) := by decide +kernel
theorem dX10_crossesOne_37 : decode cX10_crossesOne 37 = .ok (.iaload, 1) := by decide +kernel
theorem dX10_crossesOne_38 : decode cX10_crossesOne 38 = .ok (.iload_n 2, 1) := by decide +kernel
theorem dX10_crossesOne_39 : decode cX10_crossesOne 39 = .ok (.imul, 1) := by decide +kernel
theorem dX10_crossesOne_40 : decode cX10_crossesOne 40 = .ok (.iload_n 1, 1) := by decide +kernel
theorem dX10_crossesOne_41 : decode cX10_crossesOne 41 = .ok (.iadd, 1) := by decide +kernel
theorem dX10_crossesOne_42 : decode cX10_crossesOne 42 = .ok (.iconst 0, 1) := by decide +kernel
theorem dX10_crossesOne_43 : decode cX10_crossesOne 43 = .ok (.iastore, 1) := by decide +kernel
theorem dX10_crossesOne_44 : decode cX10_crossesOne 44 = .ok (.aload_n 0, 1) := by decide +kernel
theorem dX10_crossesOne_45 : decode cX10_crossesOne 45 = .ok (.getfield 51, 3) := by decide +kernel
theorem dX10_crossesOne_48 : decode cX10_crossesOne 48 = .ok (.aload_n 0, 1) := by decide +kernel
theorem dX10_crossesOne_49 : decode cX10_crossesOne 49 = .ok (.getfield 395, 3) := by decide +kernel
theorem dX10_crossesOne_52 : decode cX10_crossesOne 52 = .ok (.aload_n 0, 1) := by decide +kernel
theorem dX10_crossesOne_53 : decode cX10_crossesOne 53 = .ok (.getfield 17, 3) := by decide +kernel
theorem dX10_crossesOne_56 : decode cX10_crossesOne 56 = .ok (.iconst 0, 1) := by decide +kernel
theorem dX10_crossesOne_57 : decode cX10_crossesOne 57 = .ok (.iaload, 1) := by decide +kernel
theorem dX10_crossesOne_58 : decode cX10_crossesOne 58 = .ok (.iload_n 2, 1) := by decide +kernel
theorem dX10_crossesOne_59 : decode cX10_crossesOne 59 = .ok (.imul, 1) := by decide +kernel
theorem dX10_crossesOne_60 : decode cX10_crossesOne 60 = .ok (.iload_n 1, 1) := by decide +kernel
theorem dX10_crossesOne_61 : decode cX10_crossesOne 61 = .ok (.iadd, 1) := by decide +kernel
theorem dX10_crossesOne_62 : decode cX10_crossesOne 62 = .ok (.iastore, 1) := by decide +kernel
theorem dX10_crossesOne_63 : decode cX10_crossesOne 63 = .ok (.aload_n 0, 1) := by decide +kernel
theorem dX10_crossesOne_64 : decode cX10_crossesOne 64 = .ok (.dup, 1) := by decide +kernel
theorem dX10_crossesOne_65 : decode cX10_crossesOne 65 = .ok (.getfield 395, 3) := by decide +kernel
theorem dX10_crossesOne_68 : decode cX10_crossesOne 68 = .ok (.iconst 1, 1) := by decide +kernel
theorem dX10_crossesOne_69 : decode cX10_crossesOne 69 = .ok (.iadd, 1) := by decide +kernel
theorem dX10_crossesOne_70 : decode cX10_crossesOne 70 = .ok (.putfield 395, 3) := by decide +kernel
theorem dX10_crossesOne_73 : decode cX10_crossesOne 73 = .ok (.return_, 1) := by decide +kernel
theorem dX10_crosses_0 : decode cX10_crosses 0 = .ok (.aload_n 0, 1) := by decide +kernel
theorem dX10_crosses_1 : decode cX10_crosses 1 = .ok (.iconst 0, 1) := by decide +kernel
theorem dX10_crosses_2 : decode cX10_crosses 2 = .ok (.putfield 395, 3) := by decide +kernel
theorem dX10_crosses_5 : decode cX10_crosses 5 = .ok (.aload_n 0, 1) := by decide +kernel
theorem dX10_crosses_6 : decode cX10_crosses 6 = .ok (.iload_n 1, 1) := by decide +kernel
theorem dX10_crosses_7 : decode cX10_crosses 7 = .ok (.iload_n 2, 1) := by decide +kernel
theorem dX10_crosses_8 : decode cX10_crosses 8 = .ok (.invokevirtual 398, 3) := by decide +kernel
theorem dX10_crosses_11 : decode cX10_crosses 11 = .ok (.iconst 0, 1) := by decide +kernel
theorem dX10_crosses_12 : decode cX10_crosses 12 = .ok (.istore_n 3, 1) := by decide +kernel
theorem dX10_crosses_13 : decode cX10_crosses 13 = .ok (.iload_n 3, 1) := by decide +kernel
theorem dX10_crosses_14 : decode cX10_crosses 14 = .ok (.aload_n 0, 1) := by decide +kernel
theorem dX10_crosses_15 : decode cX10_crosses 15 = .ok (.getfield 395, 3) := by decide +kernel
theorem dX10_crosses_18 : decode cX10_crosses 18 = .ok (.if_icmp .ge 79, 3) := by decide +kernel
theorem dX10_crosses_21 : decode cX10_crosses 21 = .ok (.aload_n 0, 1) := by decide +kernel
theorem dX10_crosses_22 : decode cX10_crosses 22 = .ok (.getfield 51, 3) := by decide +kernel
theorem dX10_crosses_25 : decode cX10_crosses 25 = .ok (.iload_n 3, 1) := by decide +kernel
theorem dX10_crosses_26 : decode cX10_crosses 26 = .ok (.iaload, 1) := by decide +kernel
theorem dX10_crosses_27 : decode cX10_crosses 27 = .ok (.aload_n 0, 1) := by decide +kernel
theorem dX10_crosses_28 : decode cX10_crosses 28 = .ok (.getfield 17, 3) := by decide +kernel
theorem dX10_crosses_31 : decode cX10_crosses 31 = .ok (.iconst 0, 1) := by decide +kernel
theorem dX10_crosses_32 : decode cX10_crosses 32 = .ok (.iaload, 1) := by decide +kernel
theorem dX10_crosses_33 : decode cX10_crosses 33 = .ok (.irem, 1) := by decide +kernel
theorem dX10_crosses_34 : decode cX10_crosses 34 = .ok (.istore 4, 2) := by decide +kernel
theorem dX10_crosses_36 : decode cX10_crosses 36 = .ok (.aload_n 0, 1) := by decide +kernel
theorem dX10_crosses_37 : decode cX10_crosses 37 = .ok (.getfield 51, 3) := by decide +kernel
theorem dX10_crosses_40 : decode cX10_crosses 40 = .ok (.iload_n 3, 1) := by decide +kernel
theorem dX10_crosses_41 : decode cX10_crosses 41 = .ok (.iaload, 1) := by decide +kernel
theorem dX10_crosses_42 : decode cX10_crosses 42 = .ok (.aload_n 0, 1) := by decide +kernel
theorem dX10_crosses_43 : decode cX10_crosses 43 = .ok (.getfield 17, 3) := by decide +kernel
theorem dX10_crosses_46 : decode cX10_crosses 46 = .ok (.iconst 0, 1) := by decide +kernel
theorem dX10_crosses_47 : decode cX10_crosses 47 = .ok (.iaload, 1) := by decide +kernel
theorem dX10_crosses_48 : decode cX10_crosses 48 = .ok (.idiv, 1) := by decide +kernel
theorem dX10_crosses_49 : decode cX10_crosses 49 = .ok (.istore 5, 2) := by decide +kernel
theorem dX10_crosses_51 : decode cX10_crosses 51 = .ok (.aload_n 0, 1) := by decide +kernel
theorem dX10_crosses_52 : decode cX10_crosses 52 = .ok (.iload 4, 2) := by decide +kernel
theorem dX10_crosses_54 : decode cX10_crosses 54 = .ok (.iconst 1, 1) := by decide +kernel
theorem dX10_crosses_55 : decode cX10_crosses 55 = .ok (.isub, 1) := by decide +kernel
theorem dX10_crosses_56 : decode cX10_crosses 56 = .ok (.iload 5, 2) := by decide +kernel
theorem dX10_crosses_58 : decode cX10_crosses 58 = .ok (.invokevirtual 398, 3) := by decide +kernel
theorem dX10_crosses_61 : decode cX10_crosses 61 = .ok (.aload_n 0, 1) := by decide +kernel
theorem dX10_crosses_62 : decode cX10_crosses 62 = .ok (.iload 4, 2) := by decide +kernel
theorem dX10_crosses_64 : decode cX10_crosses 64 = .ok (.iconst 1, 1) := by decide +kernel
theorem dX10_crosses_65 : decode cX10_crosses 65 = .ok (.iadd, 1) := by decide +kernel
theorem dX10_crosses_66 : decode cX10_crosses 66 = .ok (.iload 5, 2) := by decide +kernel
theorem dX10_crosses_68 : decode cX10_crosses 68 = .ok (.invokevirtual 398, 3) := by decide +kernel
theorem dX10_crosses_71 : decode cX10_crosses 71 = .ok (.aload_n 0, 1) := by decide +kernel
theorem dX10_crosses_72 : decode cX10_crosses 72 = .ok (.iload 4, 2) := by decide +kernel
theorem dX10_crosses_74 : decode cX10_crosses 74 = .ok (.iload 5, 2) := by decide +kernel
theorem dX10_crosses_76 : decode cX10_crosses 76 = .ok (.iconst 1, 1) := by decide +kernel
theorem dX10_crosses_77 : decode cX10_crosses 77 = .ok (.isub, 1) := by decide +kernel
theorem dX10_crosses_78 : decode cX10_crosses 78 = .ok (.invokevirtual 398, 3) := by decide +kernel
theorem dX10_crosses_81 : decode cX10_crosses 81 = .ok (.aload_n 0, 1) := by decide +kernel
theorem dX10_crosses_82 : decode cX10_crosses 82 = .ok (.iload 4, 2) := by decide +kernel
theorem dX10_crosses_84 : decode cX10_crosses 84 = .ok (.iload 5, 2) := by decide +kernel
theorem dX10_crosses_86 : decode cX10_crosses 86 = .ok (.iconst 1, 1) := by decide +kernel
theorem dX10_crosses_87 : decode cX10_crosses 87 = .ok (.iadd, 1) := by decide +kernel
theorem dX10_crosses_88 : decode cX10_crosses 88 = .ok (.invokevirtual 398, 3) := by decide +kernel
theorem dX10_crosses_91 : decode cX10_crosses 91 = .ok (.iinc 3 1, 3) := by decide +kernel
theorem dX10_crosses_94 : decode cX10_crosses 94 = .ok (.goto (-81), 3) := by decide +kernel
theorem dX10_crosses_97 : decode cX10_crosses 97 = .ok (.return_, 1) := by decide +kernel
theorem dX10_nodeGroups_0 : decode cX10_nodeGroups 0 = .ok (.aload_n 0, 1) := by decide +kernel
theorem dX10_nodeGroups_1 : decode cX10_nodeGroups 1 = .ok (.iload_n 1, 1) := by decide +kernel
theorem dX10_nodeGroups_2 : decode cX10_nodeGroups 2 = .ok (.invokestatic 379, 3) := by decide +kernel
theorem dX10_nodeGroups_5 : decode cX10_nodeGroups 5 = .ok (.ifCond .eq 14, 3) := by decide +kernel
theorem dX10_nodeGroups_8 : decode cX10_nodeGroups 8 = .ok (.iload_n 2, 1) := by decide +kernel
theorem dX10_nodeGroups_9 : decode cX10_nodeGroups 9 = .ok (.invokestatic 385, 3) := by decide +kernel
theorem dX10_nodeGroups_12 : decode cX10_nodeGroups 12 = .ok (.ifCond .eq 7, 3) := by decide +kernel
theorem dX10_nodeGroups_15 : decode cX10_nodeGroups 15 = .ok (.iconst 1, 1) := by decide +kernel
theorem dX10_nodeGroups_16 : decode cX10_nodeGroups 16 = .ok (.goto 4, 3) := by decide +kernel
theorem dX10_nodeGroups_19 : decode cX10_nodeGroups 19 = .ok (.iconst 0, 1) := by decide +kernel
theorem dX10_nodeGroups_20 : decode cX10_nodeGroups 20 = .ok (.invokevirtual 349, 3) := by decide +kernel
theorem dX10_nodeGroups_23 : decode cX10_nodeGroups 23 = .ok (.ifCond .ne 5, 3) := by decide +kernel
theorem dX10_nodeGroups_26 : decode cX10_nodeGroups 26 = .ok (.iconst 0, 1) := by decide +kernel
theorem dX10_nodeGroups_27 : decode cX10_nodeGroups 27 = .ok (.ireturn, 1) := by decide +kernel
theorem dX10_nodeGroups_28 : decode cX10_nodeGroups 28 = .ok (.iconst 0, 1) := by decide +kernel
theorem dX10_nodeGroups_29 : decode cX10_nodeGroups 29 = .ok (.istore_n 3, 1) := by decide +kernel
theorem dX10_nodeGroups_30 : decode cX10_nodeGroups 30 = .ok (.aload_n 0, 1) := by decide +kernel
theorem dX10_nodeGroups_31 : decode cX10_nodeGroups 31 = .ok (.aload_n 0, 1) := by decide +kernel
theorem dX10_nodeGroups_32 : decode cX10_nodeGroups 32 = .ok (.getfield 23, 3) := by decide +kernel
theorem dX10_nodeGroups_35 : decode cX10_nodeGroups 35 = .ok (.iload_n 1, 1) := by decide +kernel
theorem dX10_nodeGroups_36 : decode cX10_nodeGroups 36 = .ok (.iload_n 2, 1) := by decide +kernel
theorem dX10_nodeGroups_37 : decode cX10_nodeGroups 37 = .ok (.invokevirtual 392, 3) := by decide +kernel
theorem dX10_nodeGroups_40 : decode cX10_nodeGroups 40 = .ok (.istore 4, 2) := by decide +kernel
theorem dX10_nodeGroups_42 : decode cX10_nodeGroups 42 = .ok (.iconst 0, 1) := by decide +kernel
theorem dX10_nodeGroups_43 : decode cX10_nodeGroups 43 = .ok (.istore 5, 2) := by decide +kernel
theorem dX10_nodeGroups_45 : decode cX10_nodeGroups 45 = .ok (.iload 5, 2) := by decide +kernel
theorem dX10_nodeGroups_47 : decode cX10_nodeGroups 47 = .ok (.aload_n 0, 1) := by decide +kernel
theorem dX10_nodeGroups_48 : decode cX10_nodeGroups 48 = .ok (.getfield 17, 3) := by decide +kernel
theorem dX10_nodeGroups_51 : decode cX10_nodeGroups 51 = .ok (.iconst 1, 1) := by decide +kernel
theorem dX10_nodeGroups_52 : decode cX10_nodeGroups 52 = .ok (.iaload, 1) := by decide +kernel
theorem dX10_nodeGroups_53 : decode cX10_nodeGroups 53 = .ok (.if_icmp .ge 57, 3) := by decide +kernel
theorem dX10_nodeGroups_56 : decode cX10_nodeGroups 56 = .ok (.iconst 0, 1) := by decide +kernel
theorem dX10_nodeGroups_57 : decode cX10_nodeGroups 57 = .ok (.istore 6, 2) := by decide +kernel
theorem dX10_nodeGroups_59 : decode cX10_nodeGroups 59 = .ok (.iload 6, 2) := by decide +kernel
theorem dX10_nodeGroups_61 : decode cX10_nodeGroups 61 = .ok (.aload_n 0, 1) := by decide +kernel
theorem dX10_nodeGroups_62 : decode cX10_nodeGroups 62 = .ok (.getfield 17, 3) := by decide +kernel
theorem dX10_nodeGroups_65 : decode cX10_nodeGroups 65 = .ok (.iconst 0, 1) := by decide +kernel
theorem dX10_nodeGroups_66 : decode cX10_nodeGroups 66 = .ok (.iaload, 1) := by decide +kernel
theorem dX10_nodeGroups_67 : decode cX10_nodeGroups 67 = .ok (.if_icmp .ge 37, 3) := by decide +kernel
theorem dX10_nodeGroups_70 : decode cX10_nodeGroups 70 = .ok (.iload_n 3, 1) := by decide +kernel
theorem dX10_nodeGroups_71 : decode cX10_nodeGroups 71 = .ok (.aload_n 0, 1) := by decide +kernel
theorem dX10_nodeGroups_72 : decode cX10_nodeGroups 72 = .ok (.getfield 48, 3) := by decide +kernel
theorem dX10_nodeGroups_75 : decode cX10_nodeGroups 75 = .ok (.aload_n 0, 1) := by decide +kernel
theorem dX10_nodeGroups_76 : decode cX10_nodeGroups 76 = .ok (.getfield 17, 3) := by decide +kernel
theorem dX10_nodeGroups_79 : decode cX10_nodeGroups 79 = .ok (.iconst 0, 1) := by decide +kernel
theorem dX10_nodeGroups_80 : decode cX10_nodeGroups 80 = .ok (.iaload, 1) := by decide +kernel
theorem dX10_nodeGroups_81 : decode cX10_nodeGroups 81 = .ok (.iload 5, 2) := by decide +kernel
theorem dX10_nodeGroups_83 : decode cX10_nodeGroups 83 = .ok (.imul, 1) := by decide +kernel
theorem dX10_nodeGroups_84 : decode cX10_nodeGroups 84 = .ok (.iload 6, 2) := by decide +kernel
theorem dX10_nodeGroups_86 : decode cX10_nodeGroups 86 = .ok (.iadd, 1) := by decide +kernel
theorem dX10_nodeGroups_87 : decode cX10_nodeGroups 87 = .ok (.iaload, 1) := by decide +kernel
theorem dX10_nodeGroups_88 : decode cX10_nodeGroups 88 = .ok (.iadd, 1) := by decide +kernel
theorem dX10_nodeGroups_89 : decode cX10_nodeGroups 89 = .ok (.istore_n 3, 1) := by decide +kernel
theorem dX10_nodeGroups_90 : decode cX10_nodeGroups 90 = .ok (.aload_n 0, 1) := by decide +kernel
theorem dX10_nodeGroups_91 : decode cX10_nodeGroups 91 = .ok (.iload 6, 2) := by decide +kernel
theorem dX10_nodeGroups_93 : decode cX10_nodeGroups 93 = .ok (.iload 5, 2) := by decide +kernel
theorem dX10_nodeGroups_95 : decode cX10_nodeGroups 95 = .ok (.invokevirtual 402, 3) := by decide +kernel
theorem dX10_nodeGroups_98 : decode cX10_nodeGroups 98 = .ok (.iinc 6 1, 3) := by decide +kernel
theorem dX10_nodeGroups_101 : decode cX10_nodeGroups 101 = .ok (.goto (-42), 3) := by decide +kernel
theorem dX10_nodeGroups_104 : decode cX10_nodeGroups 104 = .ok (.iinc 5 1, 3) := by decide +kernel
theorem dX10_nodeGroups_107 : decode cX10_nodeGroups 107 = .ok (.goto (-62), 3) := by decide +kernel
theorem dX10_nodeGroups_110 : decode cX10_nodeGroups 110 = .ok (.iload_n 3, 1) := by decide +kernel
theorem dX10_nodeGroups_111 : decode cX10_nodeGroups 111 = .ok (.ireturn, 1) := by decide +kernel
theorem dX10_cellCount_0 : decode cX10_cellCount 0 = .ok (.aload_n 0, 1) := by decide +kernel
theorem dX10_cellCount_1 : decode cX10_cellCount 1 = .ok (.getfield 17, 3) := by decide +kernel
theorem dX10_cellCount_4 : decode cX10_cellCount 4 = .ok (.iconst 0, 1) := by decide +kernel
theorem dX10_cellCount_5 : decode cX10_cellCount 5 = .ok (.iaload, 1) := by decide +kernel
theorem dX10_cellCount_6 : decode cX10_cellCount 6 = .ok (.aload_n 0, 1) := by decide +kernel
theorem dX10_cellCount_7 : decode cX10_cellCount 7 = .ok (.getfield 17, 3) := by decide +kernel
theorem dX10_cellCount_10 : decode cX10_cellCount 10 = .ok (.iconst 1, 1) := by decide +kernel
theorem dX10_cellCount_11 : decode cX10_cellCount 11 = .ok (.iaload, 1) := by decide +kernel
theorem dX10_cellCount_12 : decode cX10_cellCount 12 = .ok (.imul, 1) := by decide +kernel
theorem dX10_cellCount_13 : decode cX10_cellCount 13 = .ok (.ireturn, 1) := by decide +kernel
theorem dX10_laysEnergies_0 : decode cX10_laysEnergies 0 = .ok (.lconst 0, 1) := by decide +kernel
theorem dX10_laysEnergies_1 : decode cX10_laysEnergies 1 = .ok (.lstore_n 2, 1) := by decide +kernel
theorem dX10_laysEnergies_2 : decode cX10_laysEnergies 2 = .ok (.iconst 0, 1) := by decide +kernel
theorem dX10_laysEnergies_3 : decode cX10_laysEnergies 3 = .ok (.istore 4, 2) := by decide +kernel
theorem dX10_laysEnergies_5 : decode cX10_laysEnergies 5 = .ok (.iload 4, 2) := by decide +kernel
theorem dX10_laysEnergies_7 : decode cX10_laysEnergies 7 = .ok (.aload_n 0, 1) := by decide +kernel
theorem dX10_laysEnergies_8 : decode cX10_laysEnergies 8 = .ok (.invokevirtual 373, 3) := by decide +kernel
theorem dX10_laysEnergies_11 : decode cX10_laysEnergies 11 = .ok (.if_icmp .ge 55, 3) := by decide +kernel
theorem dX10_laysEnergies_14 : decode cX10_laysEnergies 14 = .ok (.aload_n 0, 1) := by decide +kernel
theorem dX10_laysEnergies_15 : decode cX10_laysEnergies 15 = .ok (.getfield 54, 3) := by decide +kernel
theorem dX10_laysEnergies_18 : decode cX10_laysEnergies 18 = .ok (.iload 4, 2) := by decide +kernel
theorem dX10_laysEnergies_20 : decode cX10_laysEnergies 20 = .ok (.aload_n 0, 1) := by decide +kernel
theorem dX10_laysEnergies_21 : decode cX10_laysEnergies 21 = .ok (.aload_n 0, 1) := by decide +kernel
theorem dX10_laysEnergies_22 : decode cX10_laysEnergies 22 = .ok (.getfield 23, 3) := by decide +kernel
theorem dX10_laysEnergies_25 : decode cX10_laysEnergies 25 = .ok (.iload 4, 2) := by decide +kernel
theorem dX10_laysEnergies_27 : decode cX10_laysEnergies 27 = .ok (.aload_n 0, 1) := by decide +kernel
theorem dX10_laysEnergies_28 : decode cX10_laysEnergies 28 = .ok (.getfield 17, 3) := by decide +kernel
theorem dX10_laysEnergies_31 : decode cX10_laysEnergies 31 = .ok (.iconst 0, 1) := by decide +kernel
theorem dX10_laysEnergies_32 : decode cX10_laysEnergies 32 = .ok (.iaload, 1) := by decide +kernel
theorem dX10_laysEnergies_33 : decode cX10_laysEnergies 33 = .ok (.irem, 1) := by decide +kernel
theorem dX10_laysEnergies_34 : decode cX10_laysEnergies 34 = .ok (.iload 4, 2) := by decide +kernel
theorem dX10_laysEnergies_36 : decode cX10_laysEnergies 36 = .ok (.aload_n 0, 1) := by decide +kernel
theorem dX10_laysEnergies_37 : decode cX10_laysEnergies 37 = .ok (.getfield 17, 3) := by decide +kernel
theorem dX10_laysEnergies_40 : decode cX10_laysEnergies 40 = .ok (.iconst 0, 1) := by decide +kernel
theorem dX10_laysEnergies_41 : decode cX10_laysEnergies 41 = .ok (.iaload, 1) := by decide +kernel
theorem dX10_laysEnergies_42 : decode cX10_laysEnergies 42 = .ok (.idiv, 1) := by decide +kernel
theorem dX10_laysEnergies_43 : decode cX10_laysEnergies 43 = .ok (.iload_n 1, 1) := by decide +kernel
theorem dX10_laysEnergies_44 : decode cX10_laysEnergies 44 = .ok (.invokevirtual 405, 3) := by decide +kernel
theorem dX10_laysEnergies_47 : decode cX10_laysEnergies 47 = .ok (.lastore, 1) := by decide +kernel
theorem dX10_laysEnergies_48 : decode cX10_laysEnergies 48 = .ok (.lload_n 2, 1) := by decide +kernel
theorem dX10_laysEnergies_49 : decode cX10_laysEnergies 49 = .ok (.aload_n 0, 1) := by decide +kernel
theorem dX10_laysEnergies_50 : decode cX10_laysEnergies 50 = .ok (.getfield 54, 3) := by decide +kernel
theorem dX10_laysEnergies_53 : decode cX10_laysEnergies 53 = .ok (.iload 4, 2) := by decide +kernel
theorem dX10_laysEnergies_55 : decode cX10_laysEnergies 55 = .ok (.laload, 1) := by decide +kernel
theorem dX10_laysEnergies_56 : decode cX10_laysEnergies 56 = .ok (.invokestatic 409, 3) := by decide +kernel
theorem dX10_laysEnergies_59 : decode cX10_laysEnergies 59 = .ok (.lstore_n 2, 1) := by decide +kernel
theorem dX10_laysEnergies_60 : decode cX10_laysEnergies 60 = .ok (.iinc 4 1, 3) := by decide +kernel
theorem dX10_laysEnergies_63 : decode cX10_laysEnergies 63 = .ok (.goto (-58), 3) := by decide +kernel
theorem dX10_laysEnergies_66 : decode cX10_laysEnergies 66 = .ok (.lload_n 2, 1) := by decide +kernel
theorem dX10_laysEnergies_67 : decode cX10_laysEnergies 67 = .ok (.lreturn, 1) := by decide +kernel
theorem dX10_energy_0 : decode cX10_energy 0 = .ok (.aload_n 0, 1) := by decide +kernel
theorem dX10_energy_1 : decode cX10_energy 1 = .ok (.aload_n 0, 1) := by decide +kernel
theorem dX10_energy_2 : decode cX10_energy 2 = .ok (.iload_n 1, 1) := by decide +kernel
theorem dX10_energy_3 : decode cX10_energy 3 = .ok (.iload_n 2, 1) := by decide +kernel
theorem dX10_energy_4 : decode cX10_energy 4 = .ok (.invokevirtual 363, 3) := by decide +kernel
theorem dX10_energy_7 : decode cX10_energy 7 = .ok (.iload_n 3, 1) := by decide +kernel
theorem dX10_energy_8 : decode cX10_energy 8 = .ok (.invokestatic 379, 3) := by decide +kernel
theorem dX10_energy_11 : decode cX10_energy 11 = .ok (.invokevirtual 359, 3) := by decide +kernel
theorem dX10_energy_14 : decode cX10_energy 14 = .ok (.ifCond .eq 17, 3) := by decide +kernel
theorem dX10_energy_17 : decode cX10_energy 17 = .ok (.aload_n 0, 1) := by decide +kernel
theorem dX10_energy_18 : decode cX10_energy 18 = .ok (.aload_n 0, 1) := by decide +kernel
theorem dX10_energy_19 : decode cX10_energy 19 = .ok (.getfield 23, 3) := by decide +kernel
theorem dX10_energy_22 : decode cX10_energy 22 = .ok (.iload_n 1, 1) := by decide +kernel
theorem dX10_energy_23 : decode cX10_energy 23 = .ok (.iload_n 2, 1) := by decide +kernel
theorem dX10_energy_24 : decode cX10_energy 24 = .ok (.iload_n 3, 1) := by decide +kernel
theorem dX10_energy_25 : decode cX10_energy 25 = .ok (.invokevirtual 405, 3) := by decide +kernel
theorem dX10_energy_28 : decode cX10_energy 28 = .ok (.goto 4, 3) := by decide +kernel
theorem dX10_energy_31 : decode cX10_energy 31 = .ok (.lconst 0, 1) := by decide +kernel
theorem dX10_energy_32 : decode cX10_energy 32 = .ok (.lreturn, 1) := by decide +kernel
theorem dX10_rowEnergy_0 : decode cX10_rowEnergy 0 = .ok (.aload_n 0, 1) := by decide +kernel
theorem dX10_rowEnergy_1 : decode cX10_rowEnergy 1 = .ok (.aload_n 0, 1) := by decide +kernel
theorem dX10_rowEnergy_2 : decode cX10_rowEnergy 2 = .ok (.iload_n 1, 1) := by decide +kernel
theorem dX10_rowEnergy_3 : decode cX10_rowEnergy 3 = .ok (.invokevirtual 343, 3) := by decide +kernel
theorem dX10_rowEnergy_6 : decode cX10_rowEnergy 6 = .ok (.iload_n 2, 1) := by decide +kernel
theorem dX10_rowEnergy_7 : decode cX10_rowEnergy 7 = .ok (.invokestatic 379, 3) := by decide +kernel
theorem dX10_rowEnergy_10 : decode cX10_rowEnergy 10 = .ok (.invokevirtual 359, 3) := by decide +kernel
theorem dX10_rowEnergy_13 : decode cX10_rowEnergy 13 = .ok (.ifCond .ne 5, 3) := by decide +kernel
theorem dX10_rowEnergy_16 : decode cX10_rowEnergy 16 = .ok (.lconst 0, 1) := by decide +kernel
theorem dX10_rowEnergy_17 : decode cX10_rowEnergy 17 = .ok (.lreturn, 1) := by decide +kernel
theorem dX10_rowEnergy_18 : decode cX10_rowEnergy 18 = .ok (.lconst 0, 1) := by decide +kernel
theorem dX10_rowEnergy_19 : decode cX10_rowEnergy 19 = .ok (.lstore_n 3, 1) := by decide +kernel
theorem dX10_rowEnergy_20 : decode cX10_rowEnergy 20 = .ok (.iconst 0, 1) := by decide +kernel
theorem dX10_rowEnergy_21 : decode cX10_rowEnergy 21 = .ok (.istore 5, 2) := by decide +kernel
theorem dX10_rowEnergy_23 : decode cX10_rowEnergy 23 = .ok (.iload 5, 2) := by decide +kernel
theorem dX10_rowEnergy_25 : decode cX10_rowEnergy 25 = .ok (.aload_n 0, 1) := by decide +kernel
theorem dX10_rowEnergy_26 : decode cX10_rowEnergy 26 = .ok (.getfield 17, 3) := by decide +kernel
theorem dX10_rowEnergy_29 : decode cX10_rowEnergy 29 = .ok (.iconst 0, 1) := by decide +kernel
theorem dX10_rowEnergy_30 : decode cX10_rowEnergy 30 = .ok (.iaload, 1) := by decide +kernel
theorem dX10_rowEnergy_31 : decode cX10_rowEnergy 31 = .ok (.if_icmp .ge 24, 3) := by decide +kernel
theorem dX10_rowEnergy_34 : decode cX10_rowEnergy 34 = .ok (.lload_n 3, 1) := by decide +kernel
theorem dX10_rowEnergy_35 : decode cX10_rowEnergy 35 = .ok (.aload_n 0, 1) := by decide +kernel
theorem dX10_rowEnergy_36 : decode cX10_rowEnergy 36 = .ok (.aload_n 0, 1) := by decide +kernel
theorem dX10_rowEnergy_37 : decode cX10_rowEnergy 37 = .ok (.getfield 23, 3) := by decide +kernel
theorem dX10_rowEnergy_40 : decode cX10_rowEnergy 40 = .ok (.iload 5, 2) := by decide +kernel
theorem dX10_rowEnergy_42 : decode cX10_rowEnergy 42 = .ok (.iload_n 1, 1) := by decide +kernel
theorem dX10_rowEnergy_43 : decode cX10_rowEnergy 43 = .ok (.iload_n 2, 1) := by decide +kernel
theorem dX10_rowEnergy_44 : decode cX10_rowEnergy 44 = .ok (.invokevirtual 405, 3) := by decide +kernel
theorem dX10_rowEnergy_47 : decode cX10_rowEnergy 47 = .ok (.ladd, 1) := by decide +kernel
theorem dX10_rowEnergy_48 : decode cX10_rowEnergy 48 = .ok (.lstore_n 3, 1) := by decide +kernel
theorem dX10_rowEnergy_49 : decode cX10_rowEnergy 49 = .ok (.iinc 5 1, 3) := by decide +kernel
theorem dX10_rowEnergy_52 : decode cX10_rowEnergy 52 = .ok (.goto (-29), 3) := by decide +kernel
theorem dX10_rowEnergy_55 : decode cX10_rowEnergy 55 = .ok (.lload_n 3, 1) := by decide +kernel
theorem dX10_rowEnergy_56 : decode cX10_rowEnergy 56 = .ok (.lreturn, 1) := by decide +kernel
theorem dX10_allEnergy_0 : decode cX10_allEnergy 0 = .ok (.aload_n 0, 1) := by decide +kernel
theorem dX10_allEnergy_1 : decode cX10_allEnergy 1 = .ok (.iload_n 1, 1) := by decide +kernel
theorem dX10_allEnergy_2 : decode cX10_allEnergy 2 = .ok (.invokestatic 379, 3) := by decide +kernel
theorem dX10_allEnergy_5 : decode cX10_allEnergy 5 = .ok (.invokevirtual 349, 3) := by decide +kernel
theorem dX10_allEnergy_8 : decode cX10_allEnergy 8 = .ok (.ifCond .ne 5, 3) := by decide +kernel
theorem dX10_allEnergy_11 : decode cX10_allEnergy 11 = .ok (.lconst 0, 1) := by decide +kernel
theorem dX10_allEnergy_12 : decode cX10_allEnergy 12 = .ok (.lreturn, 1) := by decide +kernel
theorem dX10_allEnergy_13 : decode cX10_allEnergy 13 = .ok (.aload_n 0, 1) := by decide +kernel
theorem dX10_allEnergy_14 : decode cX10_allEnergy 14 = .ok (.iload_n 1, 1) := by decide +kernel
theorem dX10_allEnergy_15 : decode cX10_allEnergy 15 = .ok (.invokevirtual 412, 3) := by decide +kernel
theorem dX10_allEnergy_18 : decode cX10_allEnergy 18 = .ok (.lstore_n 2, 1) := by decide +kernel
theorem dX10_allEnergy_19 : decode cX10_allEnergy 19 = .ok (.lconst 0, 1) := by decide +kernel
theorem dX10_allEnergy_20 : decode cX10_allEnergy 20 = .ok (.lstore 4, 2) := by decide +kernel
theorem dX10_allEnergy_22 : decode cX10_allEnergy 22 = .ok (.iconst 0, 1) := by decide +kernel
theorem dX10_allEnergy_23 : decode cX10_allEnergy 23 = .ok (.istore 6, 2) := by decide +kernel
theorem dX10_allEnergy_25 : decode cX10_allEnergy 25 = .ok (.iload 6, 2) := by decide +kernel
theorem dX10_allEnergy_27 : decode cX10_allEnergy 27 = .ok (.aload_n 0, 1) := by decide +kernel
theorem dX10_allEnergy_28 : decode cX10_allEnergy 28 = .ok (.invokevirtual 373, 3) := by decide +kernel
theorem dX10_allEnergy_31 : decode cX10_allEnergy 31 = .ok (.if_icmp .ge 21, 3) := by decide +kernel
theorem dX10_allEnergy_34 : decode cX10_allEnergy 34 = .ok (.lload 4, 2) := by decide +kernel
theorem dX10_allEnergy_36 : decode cX10_allEnergy 36 = .ok (.aload_n 0, 1) := by decide +kernel
theorem dX10_allEnergy_37 : decode cX10_allEnergy 37 = .ok (.getfield 54, 3) := by decide +kernel
theorem dX10_allEnergy_40 : decode cX10_allEnergy 40 = .ok (.iload 6, 2) := by decide +kernel
theorem dX10_allEnergy_42 : decode cX10_allEnergy 42 = .ok (.laload, 1) := by decide +kernel
theorem dX10_allEnergy_43 : decode cX10_allEnergy 43 = .ok (.ladd, 1) := by decide +kernel
theorem dX10_allEnergy_44 : decode cX10_allEnergy 44 = .ok (.lstore 4, 2) := by decide +kernel
theorem dX10_allEnergy_46 : decode cX10_allEnergy 46 = .ok (.iinc 6 1, 3) := by decide +kernel
theorem dX10_allEnergy_49 : decode cX10_allEnergy 49 = .ok (.goto (-24), 3) := by decide +kernel
theorem dX10_allEnergy_52 : decode cX10_allEnergy 52 = .ok (.lload 4, 2) := by decide +kernel
theorem dX10_allEnergy_54 : decode cX10_allEnergy 54 = .ok (.lreturn, 1) := by decide +kernel
theorem dX10_strongest_0 : decode cX10_strongest 0 = .ok (.aload_n 0, 1) := by decide +kernel
theorem dX10_strongest_1 : decode cX10_strongest 1 = .ok (.iload_n 1, 1) := by decide +kernel
theorem dX10_strongest_2 : decode cX10_strongest 2 = .ok (.iconst 0, 1) := by decide +kernel
theorem dX10_strongest_3 : decode cX10_strongest 3 = .ok (.aload_n 0, 1) := by decide +kernel
theorem dX10_strongest_4 : decode cX10_strongest 4 = .ok (.invokevirtual 373, 3) := by decide +kernel
theorem dX10_strongest_7 : decode cX10_strongest 7 = .ok (.iconst 1, 1) := by decide +kernel
theorem dX10_strongest_8 : decode cX10_strongest 8 = .ok (.isub, 1) := by decide +kernel
theorem dX10_strongest_9 : decode cX10_strongest 9 = .ok (.invokestatic 93, 3) := by decide +kernel
theorem dX10_strongest_12 : decode cX10_strongest 12 = .ok (.iload_n 2, 1) := by decide +kernel
theorem dX10_strongest_13 : decode cX10_strongest 13 = .ok (.invokestatic 379, 3) := by decide +kernel
theorem dX10_strongest_16 : decode cX10_strongest 16 = .ok (.invokevirtual 359, 3) := by decide +kernel
theorem dX10_strongest_19 : decode cX10_strongest 19 = .ok (.ifCond .ne 5, 3) := by decide +kernel
theorem dX10_strongest_22 : decode cX10_strongest 22 = .ok (.iconst 0, 1) := by decide +kernel
theorem dX10_strongest_23 : decode cX10_strongest 23 = .ok (.ireturn, 1) := by decide +kernel
theorem dX10_strongest_24 : decode cX10_strongest 24 = .ok (.aload_n 0, 1) := by decide +kernel
theorem dX10_strongest_25 : decode cX10_strongest 25 = .ok (.iload_n 2, 1) := by decide +kernel
theorem dX10_strongest_26 : decode cX10_strongest 26 = .ok (.invokevirtual 412, 3) := by decide +kernel
theorem dX10_strongest_29 : decode cX10_strongest 29 = .ok (.lstore_n 3, 1) := by decide +kernel
theorem dX10_strongest_30 : decode cX10_strongest 30 = .ok (.iconst 0, 1) := by decide +kernel
theorem dX10_strongest_31 : decode cX10_strongest 31 = .ok (.istore 5, 2) := by decide +kernel
theorem dX10_strongest_33 : decode cX10_strongest 33 = .ok (.iload 5, 2) := by decide +kernel
theorem dX10_strongest_35 : decode cX10_strongest 35 = .ok (.aload_n 0, 1) := by decide +kernel
theorem dX10_strongest_36 : decode cX10_strongest 36 = .ok (.invokevirtual 373, 3) := by decide +kernel
theorem dX10_strongest_39 : decode cX10_strongest 39 = .ok (.if_icmp .ge 92, 3) := by decide +kernel
theorem dX10_strongest_42 : decode cX10_strongest 42 = .ok (.iconst 0, 1) := by decide +kernel
theorem dX10_strongest_43 : decode cX10_strongest 43 = .ok (.istore 6, 2) := by decide +kernel
theorem dX10_strongest_45 : decode cX10_strongest 45 = .ok (.iconst 0, 1) := by decide +kernel
theorem dX10_strongest_46 : decode cX10_strongest 46 = .ok (.istore 7, 2) := by decide +kernel
theorem dX10_strongest_48 : decode cX10_strongest 48 = .ok (.iload 7, 2) := by decide +kernel
theorem dX10_strongest_50 : decode cX10_strongest 50 = .ok (.aload_n 0, 1) := by decide +kernel
theorem dX10_strongest_51 : decode cX10_strongest 51 = .ok (.invokevirtual 373, 3) := by decide +kernel
theorem dX10_strongest_54 : decode cX10_strongest 54 = .ok (.if_icmp .ge 62, 3) := by decide +kernel
theorem dX10_strongest_57 : decode cX10_strongest 57 = .ok (.iload 6, 2) := by decide +kernel
theorem dX10_strongest_59 : decode cX10_strongest 59 = .ok (.aload_n 0, 1) := by decide +kernel
theorem dX10_strongest_60 : decode cX10_strongest 60 = .ok (.getfield 54, 3) := by decide +kernel
theorem dX10_strongest_63 : decode cX10_strongest 63 = .ok (.iload 7, 2) := by decide +kernel
theorem dX10_strongest_65 : decode cX10_strongest 65 = .ok (.laload, 1) := by decide +kernel
theorem dX10_strongest_66 : decode cX10_strongest 66 = .ok (.aload_n 0, 1) := by decide +kernel
theorem dX10_strongest_67 : decode cX10_strongest 67 = .ok (.getfield 54, 3) := by decide +kernel
theorem dX10_strongest_70 : decode cX10_strongest 70 = .ok (.iload 5, 2) := by decide +kernel
theorem dX10_strongest_72 : decode cX10_strongest 72 = .ok (.laload, 1) := by decide +kernel
theorem dX10_strongest_73 : decode cX10_strongest 73 = .ok (.lcmp, 1) := by decide +kernel
theorem dX10_strongest_74 : decode cX10_strongest 74 = .ok (.ifCond .gt 28, 3) := by decide +kernel
theorem dX10_strongest_77 : decode cX10_strongest 77 = .ok (.aload_n 0, 1) := by decide +kernel
theorem dX10_strongest_78 : decode cX10_strongest 78 = .ok (.getfield 54, 3) := by decide +kernel
theorem dX10_strongest_81 : decode cX10_strongest 81 = .ok (.iload 7, 2) := by decide +kernel
theorem dX10_strongest_83 : decode cX10_strongest 83 = .ok (.laload, 1) := by decide +kernel
theorem dX10_strongest_84 : decode cX10_strongest 84 = .ok (.aload_n 0, 1) := by decide +kernel
theorem dX10_strongest_85 : decode cX10_strongest 85 = .ok (.getfield 54, 3) := by decide +kernel
theorem dX10_strongest_88 : decode cX10_strongest 88 = .ok (.iload 5, 2) := by decide +kernel
theorem dX10_strongest_90 : decode cX10_strongest 90 = .ok (.laload, 1) := by decide +kernel
theorem dX10_strongest_91 : decode cX10_strongest 91 = .ok (.lcmp, 1) := by decide +kernel
theorem dX10_strongest_92 : decode cX10_strongest 92 = .ok (.ifCond .ne 14, 3) := by decide +kernel
theorem dX10_strongest_95 : decode cX10_strongest 95 = .ok (.iload 7, 2) := by decide +kernel
theorem dX10_strongest_97 : decode cX10_strongest 97 = .ok (.iload 5, 2) := by decide +kernel
theorem dX10_strongest_99 : decode cX10_strongest 99 = .ok (.if_icmp .ge 7, 3) := by decide +kernel
theorem dX10_strongest_102 : decode cX10_strongest 102 = .ok (.iconst 1, 1) := by decide +kernel
theorem dX10_strongest_103 : decode cX10_strongest 103 = .ok (.goto 4, 3) := by decide +kernel
theorem dX10_strongest_106 : decode cX10_strongest 106 = .ok (.iconst 0, 1) := by decide +kernel
theorem dX10_strongest_107 : decode cX10_strongest 107 = .ok (.iadd, 1) := by decide +kernel
theorem dX10_strongest_108 : decode cX10_strongest 108 = .ok (.istore 6, 2) := by decide +kernel
theorem dX10_strongest_110 : decode cX10_strongest 110 = .ok (.iinc 7 1, 3) := by decide +kernel
theorem dX10_strongest_113 : decode cX10_strongest 113 = .ok (.goto (-65), 3) := by decide +kernel
theorem dX10_strongest_116 : decode cX10_strongest 116 = .ok (.iload 6, 2) := by decide +kernel
theorem dX10_strongest_118 : decode cX10_strongest 118 = .ok (.iload_n 1, 1) := by decide +kernel
theorem dX10_strongest_119 : decode cX10_strongest 119 = .ok (.if_icmp .ne 6, 3) := by decide +kernel
theorem dX10_strongest_122 : decode cX10_strongest 122 = .ok (.iload 5, 2) := by decide +kernel
theorem dX10_strongest_124 : decode cX10_strongest 124 = .ok (.ireturn, 1) := by decide +kernel
theorem dX10_strongest_125 : decode cX10_strongest 125 = .ok (.iinc 5 1, 3) := by decide +kernel
theorem dX10_strongest_128 : decode cX10_strongest 128 = .ok (.goto (-95), 3) := by decide +kernel
theorem dX10_strongest_131 : decode cX10_strongest 131 = .ok (.iconst (-1), 1) := by decide +kernel
theorem dX10_strongest_132 : decode cX10_strongest 132 = .ok (.ireturn, 1) := by decide +kernel
theorem dX10_isMarked_0 : decode cX10_isMarked 0 = .ok (.lload_n 1, 1) := by decide +kernel
theorem dX10_isMarked_1 : decode cX10_isMarked 1 = .ok (.lconst 0, 1) := by decide +kernel
theorem dX10_isMarked_2 : decode cX10_isMarked 2 = .ok (.lcmp, 1) := by decide +kernel
theorem dX10_isMarked_3 : decode cX10_isMarked 3 = .ok (.ifCond .le 21, 3) := by decide +kernel
theorem dX10_isMarked_6 : decode cX10_isMarked 6 = .ok (.ldc2_w 416, 3) := by decide +kernel
theorem dX10_isMarked_9 : decode cX10_isMarked 9 = .ok (.lload_n 1, 1) := by decide +kernel
theorem dX10_isMarked_10 : decode cX10_isMarked 10 = .ok (.lmul, 1) := by decide +kernel
theorem dX10_isMarked_11 : decode cX10_isMarked 11 = .ok (.iload 5, 2) := by decide +kernel
theorem dX10_isMarked_13 : decode cX10_isMarked 13 = .ok (.i2l, 1) := by decide +kernel
theorem dX10_isMarked_14 : decode cX10_isMarked 14 = .ok (.lload_n 3, 1) := by decide +kernel
theorem dX10_isMarked_15 : decode cX10_isMarked 15 = .ok (.lmul, 1) := by decide +kernel
theorem dX10_isMarked_16 : decode cX10_isMarked 16 = .ok (.lcmp, 1) := by decide +kernel
theorem dX10_isMarked_17 : decode cX10_isMarked 17 = .ok (.ifCond .lt 7, 3) := by decide +kernel
theorem dX10_isMarked_20 : decode cX10_isMarked 20 = .ok (.iconst 1, 1) := by decide +kernel
theorem dX10_isMarked_21 : decode cX10_isMarked 21 = .ok (.goto 4, 3) := by decide +kernel
theorem dX10_isMarked_24 : decode cX10_isMarked 24 = .ok (.iconst 0, 1) := by decide +kernel
theorem dX10_isMarked_25 : decode cX10_isMarked 25 = .ok (.ireturn, 1) := by decide +kernel
theorem dX10_marks_0 : decode cX10_marks 0 = .ok (.aload_n 0, 1) := by decide +kernel
theorem dX10_marks_1 : decode cX10_marks 1 = .ok (.iload_n 1, 1) := by decide +kernel
theorem dX10_marks_2 : decode cX10_marks 2 = .ok (.invokestatic 379, 3) := by decide +kernel
theorem dX10_marks_5 : decode cX10_marks 5 = .ok (.ifCond .eq 14, 3) := by decide +kernel
theorem dX10_marks_8 : decode cX10_marks 8 = .ok (.iload_n 2, 1) := by decide +kernel
theorem dX10_marks_9 : decode cX10_marks 9 = .ok (.invokestatic 418, 3) := by decide +kernel
theorem dX10_marks_12 : decode cX10_marks 12 = .ok (.ifCond .eq 7, 3) := by decide +kernel
theorem dX10_marks_15 : decode cX10_marks 15 = .ok (.iconst 1, 1) := by decide +kernel
theorem dX10_marks_16 : decode cX10_marks 16 = .ok (.goto 4, 3) := by decide +kernel
theorem dX10_marks_19 : decode cX10_marks 19 = .ok (.iconst 0, 1) := by decide +kernel
theorem dX10_marks_20 : decode cX10_marks 20 = .ok (.invokevirtual 349, 3) := by decide +kernel
theorem dX10_marks_23 : decode cX10_marks 23 = .ok (.ifCond .ne 5, 3) := by decide +kernel
theorem dX10_marks_26 : decode cX10_marks 26 = .ok (.iconst 0, 1) := by decide +kernel
theorem dX10_marks_27 : decode cX10_marks 27 = .ok (.ireturn, 1) := by decide +kernel
theorem dX10_marks_28 : decode cX10_marks 28 = .ok (.aload_n 0, 1) := by decide +kernel
theorem dX10_marks_29 : decode cX10_marks 29 = .ok (.iload_n 1, 1) := by decide +kernel
theorem dX10_marks_30 : decode cX10_marks 30 = .ok (.invokevirtual 412, 3) := by decide +kernel
theorem dX10_marks_33 : decode cX10_marks 33 = .ok (.lstore_n 3, 1) := by decide +kernel
theorem dX10_marks_34 : decode cX10_marks 34 = .ok (.iconst 0, 1) := by decide +kernel
theorem dX10_marks_35 : decode cX10_marks 35 = .ok (.istore 5, 2) := by decide +kernel
theorem dX10_marks_37 : decode cX10_marks 37 = .ok (.iconst 0, 1) := by decide +kernel
theorem dX10_marks_38 : decode cX10_marks 38 = .ok (.istore 6, 2) := by decide +kernel
theorem dX10_marks_40 : decode cX10_marks 40 = .ok (.iload 6, 2) := by decide +kernel
theorem dX10_marks_42 : decode cX10_marks 42 = .ok (.aload_n 0, 1) := by decide +kernel
theorem dX10_marks_43 : decode cX10_marks 43 = .ok (.invokevirtual 373, 3) := by decide +kernel
theorem dX10_marks_46 : decode cX10_marks 46 = .ok (.if_icmp .ge 35, 3) := by decide +kernel
theorem dX10_marks_49 : decode cX10_marks 49 = .ok (.iload 5, 2) := by decide +kernel
theorem dX10_marks_51 : decode cX10_marks 51 = .ok (.aload_n 0, 1) := by decide +kernel
theorem dX10_marks_52 : decode cX10_marks 52 = .ok (.aload_n 0, 1) := by decide +kernel
theorem dX10_marks_53 : decode cX10_marks 53 = .ok (.getfield 54, 3) := by decide +kernel
theorem dX10_marks_56 : decode cX10_marks 56 = .ok (.iload 6, 2) := by decide +kernel
theorem dX10_marks_58 : decode cX10_marks 58 = .ok (.laload, 1) := by decide +kernel
theorem dX10_marks_59 : decode cX10_marks 59 = .ok (.lload_n 3, 1) := by decide +kernel
theorem dX10_marks_60 : decode cX10_marks 60 = .ok (.iload_n 2, 1) := by decide +kernel
theorem dX10_marks_61 : decode cX10_marks 61 = .ok (.invokevirtual 421, 3) := by decide +kernel
theorem dX10_marks_64 : decode cX10_marks 64 = .ok (.ifCond .eq 7, 3) := by decide +kernel
theorem dX10_marks_67 : decode cX10_marks 67 = .ok (.iconst 1, 1) := by decide +kernel
theorem dX10_marks_68 : decode cX10_marks 68 = .ok (.goto 4, 3) := by decide +kernel
theorem dX10_marks_71 : decode cX10_marks 71 = .ok (.iconst 0, 1) := by decide +kernel
theorem dX10_marks_72 : decode cX10_marks 72 = .ok (.iadd, 1) := by decide +kernel
theorem dX10_marks_73 : decode cX10_marks 73 = .ok (.istore 5, 2) := by decide +kernel
theorem dX10_marks_75 : decode cX10_marks 75 = .ok (.iinc 6 1, 3) := by decide +kernel
theorem dX10_marks_78 : decode cX10_marks 78 = .ok (.goto (-38), 3) := by decide +kernel
theorem dX10_marks_81 : decode cX10_marks 81 = .ok (.iload 5, 2) := by decide +kernel
theorem dX10_marks_83 : decode cX10_marks 83 = .ok (.ireturn, 1) := by decide +kernel
theorem dX10_isMark_0 : decode cX10_isMark 0 = .ok (.aload_n 0, 1) := by decide +kernel
theorem dX10_isMark_1 : decode cX10_isMark 1 = .ok (.aload_n 0, 1) := by decide +kernel
theorem dX10_isMark_2 : decode cX10_isMark 2 = .ok (.iload_n 1, 1) := by decide +kernel
theorem dX10_isMark_3 : decode cX10_isMark 3 = .ok (.iload_n 2, 1) := by decide +kernel
theorem dX10_isMark_4 : decode cX10_isMark 4 = .ok (.invokevirtual 363, 3) := by decide +kernel
theorem dX10_isMark_7 : decode cX10_isMark 7 = .ok (.iload_n 3, 1) := by decide +kernel
theorem dX10_isMark_8 : decode cX10_isMark 8 = .ok (.invokestatic 379, 3) := by decide +kernel
theorem dX10_isMark_11 : decode cX10_isMark 11 = .ok (.ifCond .eq 15, 3) := by decide +kernel
theorem dX10_isMark_14 : decode cX10_isMark 14 = .ok (.iload 4, 2) := by decide +kernel
theorem dX10_isMark_16 : decode cX10_isMark 16 = .ok (.invokestatic 418, 3) := by decide +kernel
theorem dX10_isMark_19 : decode cX10_isMark 19 = .ok (.ifCond .eq 7, 3) := by decide +kernel
theorem dX10_isMark_22 : decode cX10_isMark 22 = .ok (.iconst 1, 1) := by decide +kernel
theorem dX10_isMark_23 : decode cX10_isMark 23 = .ok (.goto 4, 3) := by decide +kernel
theorem dX10_isMark_26 : decode cX10_isMark 26 = .ok (.iconst 0, 1) := by decide +kernel
theorem dX10_isMark_27 : decode cX10_isMark 27 = .ok (.invokevirtual 359, 3) := by decide +kernel
theorem dX10_isMark_30 : decode cX10_isMark 30 = .ok (.ifCond .ne 5, 3) := by decide +kernel
theorem dX10_isMark_33 : decode cX10_isMark 33 = .ok (.iconst 0, 1) := by decide +kernel
theorem dX10_isMark_34 : decode cX10_isMark 34 = .ok (.ireturn, 1) := by decide +kernel
theorem dX10_isMark_35 : decode cX10_isMark 35 = .ok (.aload_n 0, 1) := by decide +kernel
theorem dX10_isMark_36 : decode cX10_isMark 36 = .ok (.iload_n 3, 1) := by decide +kernel
theorem dX10_isMark_37 : decode cX10_isMark 37 = .ok (.invokevirtual 412, 3) := by decide +kernel
theorem dX10_isMark_40 : decode cX10_isMark 40 = .ok (.lstore 5, 2) := by decide +kernel
theorem dX10_isMark_42 : decode cX10_isMark 42 = .ok (.aload_n 0, 1) := by decide +kernel
theorem dX10_isMark_43 : decode cX10_isMark 43 = .ok (.aload_n 0, 1) := by decide +kernel
theorem dX10_isMark_44 : decode cX10_isMark 44 = .ok (.getfield 54, 3) := by decide +kernel
theorem dX10_isMark_47 : decode cX10_isMark 47 = .ok (.aload_n 0, 1) := by decide +kernel
theorem dX10_isMark_48 : decode cX10_isMark 48 = .ok (.getfield 17, 3) := by decide +kernel
theorem dX10_isMark_51 : decode cX10_isMark 51 = .ok (.iconst 0, 1) := by decide +kernel
theorem dX10_isMark_52 : decode cX10_isMark 52 = .ok (.iaload, 1) := by decide +kernel
theorem dX10_isMark_53 : decode cX10_isMark 53 = .ok (.iload_n 2, 1) := by decide +kernel
theorem dX10_isMark_54 : decode cX10_isMark 54 = .ok (.imul, 1) := by decide +kernel
theorem dX10_isMark_55 : decode cX10_isMark 55 = .ok (.iload_n 1, 1) := by decide +kernel
theorem dX10_isMark_56 : decode cX10_isMark 56 = .ok (.iadd, 1) := by decide +kernel
theorem dX10_isMark_57 : decode cX10_isMark 57 = .ok (.laload, 1) := by decide +kernel
theorem dX10_isMark_58 : decode cX10_isMark 58 = .ok (.lload 5, 2) := by decide +kernel
theorem dX10_isMark_60 : decode cX10_isMark 60 = .ok (.iload 4, 2) := by decide +kernel
theorem dX10_isMark_62 : decode cX10_isMark 62 = .ok (.invokevirtual 421, 3) := by decide +kernel
theorem dX10_isMark_65 : decode cX10_isMark 65 = .ok (.ireturn, 1) := by decide +kernel
theorem dX10_laysColumn_0 : decode cX10_laysColumn 0 = .ok (.iconst 0, 1) := by decide +kernel
theorem dX10_laysColumn_1 : decode cX10_laysColumn 1 = .ok (.istore_n 3, 1) := by decide +kernel
theorem dX10_laysColumn_2 : decode cX10_laysColumn 2 = .ok (.iload_n 3, 1) := by decide +kernel
theorem dX10_laysColumn_3 : decode cX10_laysColumn 3 = .ok (.aload_n 0, 1) := by decide +kernel
theorem dX10_laysColumn_4 : decode cX10_laysColumn 4 = .ok (.getfield 17, 3) := by decide +kernel
theorem dX10_laysColumn_7 : decode cX10_laysColumn 7 = .ok (.iconst 1, 1) := by decide +kernel
theorem dX10_laysColumn_8 : decode cX10_laysColumn 8 = .ok (.iaload, 1) := by decide +kernel
theorem dX10_laysColumn_9 : decode cX10_laysColumn 9 = .ok (.if_icmp .ge 26, 3) := by decide +kernel
theorem dX10_laysColumn_12 : decode cX10_laysColumn 12 = .ok (.aload_n 0, 1) := by decide +kernel
theorem dX10_laysColumn_13 : decode cX10_laysColumn 13 = .ok (.getfield 58, 3) := by decide +kernel
theorem dX10_laysColumn_16 : decode cX10_laysColumn 16 = .ok (.iload_n 3, 1) := by decide +kernel
theorem dX10_laysColumn_17 : decode cX10_laysColumn 17 = .ok (.aload_n 0, 1) := by decide +kernel
theorem dX10_laysColumn_18 : decode cX10_laysColumn 18 = .ok (.aload_n 0, 1) := by decide +kernel
theorem dX10_laysColumn_19 : decode cX10_laysColumn 19 = .ok (.getfield 23, 3) := by decide +kernel
theorem dX10_laysColumn_22 : decode cX10_laysColumn 22 = .ok (.iload_n 1, 1) := by decide +kernel
theorem dX10_laysColumn_23 : decode cX10_laysColumn 23 = .ok (.iload_n 3, 1) := by decide +kernel
theorem dX10_laysColumn_24 : decode cX10_laysColumn 24 = .ok (.iload_n 2, 1) := by decide +kernel
theorem dX10_laysColumn_25 : decode cX10_laysColumn 25 = .ok (.invokevirtual 405, 3) := by decide +kernel
theorem dX10_laysColumn_28 : decode cX10_laysColumn 28 = .ok (.lastore, 1) := by decide +kernel
theorem dX10_laysColumn_29 : decode cX10_laysColumn 29 = .ok (.iinc 3 1, 3) := by decide +kernel
theorem dX10_laysColumn_32 : decode cX10_laysColumn 32 = .ok (.goto (-30), 3) := by decide +kernel
theorem dX10_laysColumn_35 : decode cX10_laysColumn 35 = .ok (.return_, 1) := by decide +kernel
theorem dX10_fringes_0 : decode cX10_fringes 0 = .ok (.aload_n 0, 1) := by decide +kernel
theorem dX10_fringes_1 : decode cX10_fringes 1 = .ok (.aload_n 0, 1) := by decide +kernel
theorem dX10_fringes_2 : decode cX10_fringes 2 = .ok (.iload_n 1, 1) := by decide +kernel
theorem dX10_fringes_3 : decode cX10_fringes 3 = .ok (.invokevirtual 340, 3) := by decide +kernel
theorem dX10_fringes_6 : decode cX10_fringes 6 = .ok (.iload_n 2, 1) := by decide +kernel
theorem dX10_fringes_7 : decode cX10_fringes 7 = .ok (.invokestatic 379, 3) := by decide +kernel
theorem dX10_fringes_10 : decode cX10_fringes 10 = .ok (.invokevirtual 359, 3) := by decide +kernel
theorem dX10_fringes_13 : decode cX10_fringes 13 = .ok (.ifCond .ne 5, 3) := by decide +kernel
theorem dX10_fringes_16 : decode cX10_fringes 16 = .ok (.iconst 0, 1) := by decide +kernel
theorem dX10_fringes_17 : decode cX10_fringes 17 = .ok (.ireturn, 1) := by decide +kernel
theorem dX10_fringes_18 : decode cX10_fringes 18 = .ok (.aload_n 0, 1) := by decide +kernel
theorem dX10_fringes_19 : decode cX10_fringes 19 = .ok (.iload_n 1, 1) := by decide +kernel
theorem dX10_fringes_20 : decode cX10_fringes 20 = .ok (.iload_n 2, 1) := by decide +kernel
theorem dX10_fringes_21 : decode cX10_fringes 21 = .ok (.invokevirtual 425, 3) := by decide +kernel
theorem dX10_fringes_24 : decode cX10_fringes 24 = .ok (.iconst 0, 1) := by decide +kernel
theorem dX10_fringes_25 : decode cX10_fringes 25 = .ok (.istore_n 3, 1) := by decide +kernel
theorem dX10_fringes_26 : decode cX10_fringes 26 = .ok (.iconst 0, 1) := by decide +kernel
theorem dX10_fringes_27 : decode cX10_fringes 27 = .ok (.istore 4, 2) := by decide +kernel
theorem dX10_fringes_29 : decode cX10_fringes 29 = .ok (.iload 4, 2) := by decide +kernel
theorem dX10_fringes_31 : decode cX10_fringes 31 = .ok (.aload_n 0, 1) := by decide +kernel
theorem dX10_fringes_32 : decode cX10_fringes 32 = .ok (.getfield 17, 3) := by decide +kernel
theorem dX10_fringes_35 : decode cX10_fringes 35 = .ok (.iconst 1, 1) := by decide +kernel
theorem dX10_fringes_36 : decode cX10_fringes 36 = .ok (.iaload, 1) := by decide +kernel
theorem dX10_fringes_37 : decode cX10_fringes 37 = .ok (.if_icmp .ge 75, 3) := by decide +kernel
theorem dX10_fringes_40 : decode cX10_fringes 40 = .ok (.iload_n 3, 1) := by decide +kernel
theorem dX10_fringes_41 : decode cX10_fringes 41 = .ok (.iload 4, 2) := by decide +kernel
theorem dX10_fringes_43 : decode cX10_fringes 43 = .ok (.ifCond .eq 23, 3) := by decide +kernel
theorem dX10_fringes_46 : decode cX10_fringes 46 = .ok (.aload_n 0, 1) := by decide +kernel
theorem dX10_fringes_47 : decode cX10_fringes 47 = .ok (.getfield 58, 3) := by decide +kernel
theorem dX10_fringes_50 : decode cX10_fringes 50 = .ok (.iload 4, 2) := by decide +kernel
theorem dX10_fringes_52 : decode cX10_fringes 52 = .ok (.laload, 1) := by decide +kernel
theorem dX10_fringes_53 : decode cX10_fringes 53 = .ok (.aload_n 0, 1) := by decide +kernel
theorem dX10_fringes_54 : decode cX10_fringes 54 = .ok (.getfield 58, 3) := by decide +kernel
theorem dX10_fringes_57 : decode cX10_fringes 57 = .ok (.iload 4, 2) := by decide +kernel
theorem dX10_fringes_59 : decode cX10_fringes 59 = .ok (.iconst 1, 1) := by decide +kernel
theorem dX10_fringes_60 : decode cX10_fringes 60 = .ok (.isub, 1) := by decide +kernel
theorem dX10_fringes_61 : decode cX10_fringes 61 = .ok (.laload, 1) := by decide +kernel
theorem dX10_fringes_62 : decode cX10_fringes 62 = .ok (.lcmp, 1) := by decide +kernel
theorem dX10_fringes_63 : decode cX10_fringes 63 = .ok (.ifCond .le 40, 3) := by decide +kernel
theorem dX10_fringes_66 : decode cX10_fringes 66 = .ok (.iload 4, 2) := by decide +kernel
theorem dX10_fringes_68 : decode cX10_fringes 68 = .ok (.aload_n 0, 1) := by decide +kernel
theorem dX10_fringes_69 : decode cX10_fringes 69 = .ok (.getfield 17, 3) := by decide +kernel
theorem dX10_fringes_72 : decode cX10_fringes 72 = .ok (.iconst 1, 1) := by decide +kernel
theorem dX10_fringes_73 : decode cX10_fringes 73 = .ok (.iaload, 1) := by decide +kernel
theorem dX10_fringes_74 : decode cX10_fringes 74 = .ok (.iconst 1, 1) := by decide +kernel
theorem dX10_fringes_75 : decode cX10_fringes 75 = .ok (.isub, 1) := by decide +kernel
theorem dX10_fringes_76 : decode cX10_fringes 76 = .ok (.if_icmp .eq 23, 3) := by decide +kernel
theorem dX10_fringes_79 : decode cX10_fringes 79 = .ok (.aload_n 0, 1) := by decide +kernel
theorem dX10_fringes_80 : decode cX10_fringes 80 = .ok (.getfield 58, 3) := by decide +kernel
theorem dX10_fringes_83 : decode cX10_fringes 83 = .ok (.iload 4, 2) := by decide +kernel
theorem dX10_fringes_85 : decode cX10_fringes 85 = .ok (.laload, 1) := by decide +kernel
theorem dX10_fringes_86 : decode cX10_fringes 86 = .ok (.aload_n 0, 1) := by decide +kernel
theorem dX10_fringes_87 : decode cX10_fringes 87 = .ok (.getfield 58, 3) := by decide +kernel
theorem dX10_fringes_90 : decode cX10_fringes 90 = .ok (.iload 4, 2) := by decide +kernel
theorem dX10_fringes_92 : decode cX10_fringes 92 = .ok (.iconst 1, 1) := by decide +kernel
theorem dX10_fringes_93 : decode cX10_fringes 93 = .ok (.iadd, 1) := by decide +kernel
theorem dX10_fringes_94 : decode cX10_fringes 94 = .ok (.laload, 1) := by decide +kernel
theorem dX10_fringes_95 : decode cX10_fringes 95 = .ok (.lcmp, 1) := by decide +kernel
theorem dX10_fringes_96 : decode cX10_fringes 96 = .ok (.ifCond .le 7, 3) := by decide +kernel
theorem dX10_fringes_99 : decode cX10_fringes 99 = .ok (.iconst 1, 1) := by decide +kernel
theorem dX10_fringes_100 : decode cX10_fringes 100 = .ok (.goto 4, 3) := by decide +kernel
theorem dX10_fringes_103 : decode cX10_fringes 103 = .ok (.iconst 0, 1) := by decide +kernel
theorem dX10_fringes_104 : decode cX10_fringes 104 = .ok (.iadd, 1) := by decide +kernel
theorem dX10_fringes_105 : decode cX10_fringes 105 = .ok (.istore_n 3, 1) := by decide +kernel
theorem dX10_fringes_106 : decode cX10_fringes 106 = .ok (.iinc 4 1, 3) := by decide +kernel
theorem dX10_fringes_109 : decode cX10_fringes 109 = .ok (.goto (-80), 3) := by decide +kernel
theorem dX10_fringes_112 : decode cX10_fringes 112 = .ok (.iload_n 3, 1) := by decide +kernel
theorem dX10_fringes_113 : decode cX10_fringes 113 = .ok (.ireturn, 1) := by decide +kernel
theorem dX10_visibility_0 : decode cX10_visibility 0 = .ok (.aload_n 0, 1) := by decide +kernel
theorem dX10_visibility_1 : decode cX10_visibility 1 = .ok (.aload_n 0, 1) := by decide +kernel
theorem dX10_visibility_2 : decode cX10_visibility 2 = .ok (.iload_n 1, 1) := by decide +kernel
theorem dX10_visibility_3 : decode cX10_visibility 3 = .ok (.invokevirtual 340, 3) := by decide +kernel
theorem dX10_visibility_6 : decode cX10_visibility 6 = .ok (.iload_n 2, 1) := by decide +kernel
theorem dX10_visibility_7 : decode cX10_visibility 7 = .ok (.invokestatic 379, 3) := by decide +kernel
theorem dX10_visibility_10 : decode cX10_visibility 10 = .ok (.invokevirtual 359, 3) := by decide +kernel
theorem dX10_visibility_13 : decode cX10_visibility 13 = .ok (.ifCond .ne 5, 3) := by decide +kernel
theorem dX10_visibility_16 : decode cX10_visibility 16 = .ok (.fconst 0, 1) := by decide +kernel
theorem dX10_visibility_17 : decode cX10_visibility 17 = .ok (.freturn, 1) := by decide +kernel
theorem dX10_visibility_18 : decode cX10_visibility 18 = .ok (.aload_n 0, 1) := by decide +kernel
theorem dX10_visibility_19 : decode cX10_visibility 19 = .ok (.iload_n 1, 1) := by decide +kernel
theorem dX10_visibility_20 : decode cX10_visibility 20 = .ok (.iload_n 2, 1) := by decide +kernel
theorem dX10_visibility_21 : decode cX10_visibility 21 = .ok (.invokevirtual 425, 3) := by decide +kernel
theorem dX10_visibility_24 : decode cX10_visibility 24 = .ok (.aload_n 0, 1) := by decide +kernel
theorem dX10_visibility_25 : decode cX10_visibility 25 = .ok (.getfield 58, 3) := by decide +kernel
theorem dX10_visibility_28 : decode cX10_visibility 28 = .ok (.iconst 0, 1) := by decide +kernel
theorem dX10_visibility_29 : decode cX10_visibility 29 = .ok (.laload, 1) := by decide +kernel
theorem dX10_visibility_30 : decode cX10_visibility 30 = .ok (.lstore_n 3, 1) := by decide +kernel
theorem dX10_visibility_31 : decode cX10_visibility 31 = .ok (.aload_n 0, 1) := by decide +kernel
theorem dX10_visibility_32 : decode cX10_visibility 32 = .ok (.getfield 58, 3) := by decide +kernel
theorem dX10_visibility_35 : decode cX10_visibility 35 = .ok (.iconst 0, 1) := by decide +kernel
theorem dX10_visibility_36 : decode cX10_visibility 36 = .ok (.laload, 1) := by decide +kernel
theorem dX10_visibility_37 : decode cX10_visibility 37 = .ok (.lstore 5, 2) := by decide +kernel
theorem dX10_visibility_39 : decode cX10_visibility 39 = .ok (.iconst 1, 1) := by decide +kernel
theorem dX10_visibility_40 : decode cX10_visibility 40 = .ok (.istore 7, 2) := by decide +kernel
theorem dX10_visibility_42 : decode cX10_visibility 42 = .ok (.iload 7, 2) := by decide +kernel
theorem dX10_visibility_44 : decode cX10_visibility 44 = .ok (.aload_n 0, 1) := by decide +kernel
theorem dX10_visibility_45 : decode cX10_visibility 45 = .ok (.getfield 17, 3) := by decide +kernel
theorem dX10_visibility_48 : decode cX10_visibility 48 = .ok (.iconst 1, 1) := by decide +kernel
theorem dX10_visibility_49 : decode cX10_visibility 49 = .ok (.iaload, 1) := by decide +kernel
theorem dX10_visibility_50 : decode cX10_visibility 50 = .ok (.if_icmp .ge 35, 3) := by decide +kernel
theorem dX10_visibility_53 : decode cX10_visibility 53 = .ok (.lload_n 3, 1) := by decide +kernel
theorem dX10_visibility_54 : decode cX10_visibility 54 = .ok (.aload_n 0, 1) := by decide +kernel
theorem dX10_visibility_55 : decode cX10_visibility 55 = .ok (.getfield 58, 3) := by decide +kernel
theorem dX10_visibility_58 : decode cX10_visibility 58 = .ok (.iload 7, 2) := by decide +kernel
theorem dX10_visibility_60 : decode cX10_visibility 60 = .ok (.laload, 1) := by decide +kernel
theorem dX10_visibility_61 : decode cX10_visibility 61 = .ok (.invokestatic 409, 3) := by decide +kernel
theorem dX10_visibility_64 : decode cX10_visibility 64 = .ok (.lstore_n 3, 1) := by decide +kernel
theorem dX10_visibility_65 : decode cX10_visibility 65 = .ok (.lload 5, 2) := by decide +kernel
theorem dX10_visibility_67 : decode cX10_visibility 67 = .ok (.aload_n 0, 1) := by decide +kernel
theorem dX10_visibility_68 : decode cX10_visibility 68 = .ok (.getfield 58, 3) := by decide +kernel
theorem dX10_visibility_71 : decode cX10_visibility 71 = .ok (.iload 7, 2) := by decide +kernel
theorem dX10_visibility_73 : decode cX10_visibility 73 = .ok (.laload, 1) := by decide +kernel
theorem dX10_visibility_74 : decode cX10_visibility 74 = .ok (.invokestatic 428, 3) := by decide +kernel
theorem dX10_visibility_77 : decode cX10_visibility 77 = .ok (.lstore 5, 2) := by decide +kernel
theorem dX10_visibility_79 : decode cX10_visibility 79 = .ok (.iinc 7 1, 3) := by decide +kernel
theorem dX10_visibility_82 : decode cX10_visibility 82 = .ok (.goto (-40), 3) := by decide +kernel
theorem dX10_visibility_85 : decode cX10_visibility 85 = .ok (.lload_n 3, 1) := by decide +kernel
theorem dX10_visibility_86 : decode cX10_visibility 86 = .ok (.lconst 0, 1) := by decide +kernel
theorem dX10_visibility_87 : decode cX10_visibility 87 = .ok (.lcmp, 1) := by decide +kernel
theorem dX10_visibility_88 : decode cX10_visibility 88 = .ok (.ifCond .ne 7, 3) := by decide +kernel
theorem dX10_visibility_91 : decode cX10_visibility 91 = .ok (.fconst 0, 1) := by decide +kernel
theorem dX10_visibility_92 : decode cX10_visibility 92 = .ok (.goto 14, 3) := by decide +kernel
theorem dX10_visibility_95 : decode cX10_visibility 95 = .ok (.lload_n 3, 1) := by decide +kernel
theorem dX10_visibility_96 : decode cX10_visibility 96 = .ok (.lload 5, 2) := by decide +kernel
theorem dX10_visibility_98 : decode cX10_visibility 98 = .ok (.lsub, 1) := by decide +kernel
theorem dX10_visibility_99 : decode cX10_visibility 99 = .ok (.l2f, 1) := by decide +kernel
theorem dX10_visibility_100 : decode cX10_visibility 100 = .ok (.lload_n 3, 1) := by decide +kernel
theorem dX10_visibility_101 : decode cX10_visibility 101 = .ok (.lload 5, 2) := by decide +kernel
theorem dX10_visibility_103 : decode cX10_visibility 103 = .ok (.ladd, 1) := by decide +kernel
theorem dX10_visibility_104 : decode cX10_visibility 104 = .ok (.l2f, 1) := by decide +kernel
theorem dX10_visibility_105 : decode cX10_visibility 105 = .ok (.fdiv, 1) := by decide +kernel
theorem dX10_visibility_106 : decode cX10_visibility 106 = .ok (.freturn, 1) := by decide +kernel
theorem dX10_writesByte_0 : decode cX10_writesByte 0 = .ok (.aload_n 0, 1) := by decide +kernel
theorem dX10_writesByte_1 : decode cX10_writesByte 1 = .ok (.getfield 61, 3) := by decide +kernel
theorem dX10_writesByte_4 : decode cX10_writesByte 4 = .ok (.aload_n 0, 1) := by decide +kernel
theorem dX10_writesByte_5 : decode cX10_writesByte 5 = .ok (.getfield 430, 3) := by decide +kernel
theorem dX10_writesByte_8 : decode cX10_writesByte 8 = .ok (.iload_n 1, 1) := by decide +kernel
theorem dX10_writesByte_9 : decode cX10_writesByte 9 = .ok (.iastore, 1) := by decide +kernel
theorem dX10_writesByte_10 : decode cX10_writesByte 10 = .ok (.aload_n 0, 1) := by decide +kernel
theorem dX10_writesByte_11 : decode cX10_writesByte 11 = .ok (.dup, 1) := by decide +kernel
theorem dX10_writesByte_12 : decode cX10_writesByte 12 = .ok (.getfield 430, 3) := by decide +kernel
theorem dX10_writesByte_15 : decode cX10_writesByte 15 = .ok (.iconst 1, 1) := by decide +kernel
theorem dX10_writesByte_16 : decode cX10_writesByte 16 = .ok (.iadd, 1) := by decide +kernel
theorem dX10_writesByte_17 : decode cX10_writesByte 17 = .ok (.putfield 430, 3) := by decide +kernel
theorem dX10_writesByte_20 : decode cX10_writesByte 20 = .ok (.return_, 1) := by decide +kernel
theorem dX10_writesNumber_0 : decode cX10_writesNumber 0 = .ok (.iload_n 1, 1) := by decide +kernel
theorem dX10_writesNumber_1 : decode cX10_writesNumber 1 = .ok (.ifCond .ge 9, 3) := by decide +kernel
theorem dX10_writesNumber_4 : decode cX10_writesNumber 4 = .ok (.aload_n 0, 1) := by decide +kernel
theorem dX10_writesNumber_5 : decode cX10_writesNumber 5 = .ok (.bipush 45, 2) := by decide +kernel
theorem dX10_writesNumber_7 : decode cX10_writesNumber 7 = .ok (.invokevirtual 433, 3) := by decide +kernel
theorem dX10_writesNumber_10 : decode cX10_writesNumber 10 = .ok (.iload_n 1, 1) := by decide +kernel
theorem dX10_writesNumber_11 : decode cX10_writesNumber 11 = .ok (.invokestatic 262, 3) := by decide +kernel
theorem dX10_writesNumber_14 : decode cX10_writesNumber 14 = .ok (.istore_n 2, 1) := by decide +kernel
theorem dX10_writesNumber_15 : decode cX10_writesNumber 15 = .ok (.iconst 1, 1) := by decide +kernel
theorem dX10_writesNumber_16 : decode cX10_writesNumber 16 = .ok (.istore_n 3, 1) := by decide +kernel
theorem dX10_writesNumber_17 : decode cX10_writesNumber 17 = .ok (.iload_n 2, 1) := by decide +kernel
theorem dX10_writesNumber_18 : decode cX10_writesNumber 18 = .ok (.iload_n 3, 1) := by decide +kernel
theorem dX10_writesNumber_19 : decode cX10_writesNumber 19 = .ok (.idiv, 1) := by decide +kernel
theorem dX10_writesNumber_20 : decode cX10_writesNumber 20 = .ok (.bipush 10, 2) := by decide +kernel
theorem dX10_writesNumber_22 : decode cX10_writesNumber 22 = .ok (.if_icmp .lt 11, 3) := by decide +kernel
theorem dX10_writesNumber_25 : decode cX10_writesNumber 25 = .ok (.iload_n 3, 1) := by decide +kernel
theorem dX10_writesNumber_26 : decode cX10_writesNumber 26 = .ok (.bipush 10, 2) := by decide +kernel
theorem dX10_writesNumber_28 : decode cX10_writesNumber 28 = .ok (.imul, 1) := by decide +kernel
theorem dX10_writesNumber_29 : decode cX10_writesNumber 29 = .ok (.istore_n 3, 1) := by decide +kernel
theorem dX10_writesNumber_30 : decode cX10_writesNumber 30 = .ok (.goto (-13), 3) := by decide +kernel
theorem dX10_writesNumber_33 : decode cX10_writesNumber 33 = .ok (.iload_n 3, 1) := by decide +kernel
theorem dX10_writesNumber_34 : decode cX10_writesNumber 34 = .ok (.ifCond .le 24, 3) := by decide +kernel
theorem dX10_writesNumber_37 : decode cX10_writesNumber 37 = .ok (.aload_n 0, 1) := by decide +kernel
theorem dX10_writesNumber_38 : decode cX10_writesNumber 38 = .ok (.bipush 48, 2) := by decide +kernel
theorem dX10_writesNumber_40 : decode cX10_writesNumber 40 = .ok (.iload_n 2, 1) := by decide +kernel
theorem dX10_writesNumber_41 : decode cX10_writesNumber 41 = .ok (.iload_n 3, 1) := by decide +kernel
theorem dX10_writesNumber_42 : decode cX10_writesNumber 42 = .ok (.idiv, 1) := by decide +kernel
theorem dX10_writesNumber_43 : decode cX10_writesNumber 43 = .ok (.bipush 10, 2) := by decide +kernel
theorem dX10_writesNumber_45 : decode cX10_writesNumber 45 = .ok (.irem, 1) := by decide +kernel
theorem dX10_writesNumber_46 : decode cX10_writesNumber 46 = .ok (.iadd, 1) := by decide +kernel
theorem dX10_writesNumber_47 : decode cX10_writesNumber 47 = .ok (.invokevirtual 433, 3) := by decide +kernel
theorem dX10_writesNumber_50 : decode cX10_writesNumber 50 = .ok (.iload_n 3, 1) := by decide +kernel
theorem dX10_writesNumber_51 : decode cX10_writesNumber 51 = .ok (.bipush 10, 2) := by decide +kernel
theorem dX10_writesNumber_53 : decode cX10_writesNumber 53 = .ok (.idiv, 1) := by decide +kernel
theorem dX10_writesNumber_54 : decode cX10_writesNumber 54 = .ok (.istore_n 3, 1) := by decide +kernel
theorem dX10_writesNumber_55 : decode cX10_writesNumber 55 = .ok (.goto (-22), 3) := by decide +kernel
theorem dX10_writesNumber_58 : decode cX10_writesNumber 58 = .ok (.return_, 1) := by decide +kernel
theorem dX10_writeRow_0 : decode cX10_writeRow 0 = .ok (.aload_n 0, 1) := by decide +kernel
theorem dX10_writeRow_1 : decode cX10_writeRow 1 = .ok (.aload_n 0, 1) := by decide +kernel
theorem dX10_writeRow_2 : decode cX10_writeRow 2 = .ok (.iload_n 1, 1) := by decide +kernel
theorem dX10_writeRow_3 : decode cX10_writeRow 3 = .ok (.invokevirtual 343, 3) := by decide +kernel
theorem dX10_writeRow_6 : decode cX10_writeRow 6 = .ok (.invokevirtual 349, 3) := by decide +kernel
theorem dX10_writeRow_9 : decode cX10_writeRow 9 = .ok (.ifCond .ne 5, 3) := by decide +kernel
theorem dX10_writeRow_12 : decode cX10_writeRow 12 = .ok (.iconst 0, 1) := by decide +kernel
theorem dX10_writeRow_13 : decode cX10_writeRow 13 = .ok (.ireturn, 1) := by decide +kernel
theorem dX10_writeRow_14 : decode cX10_writeRow 14 = .ok (.aload_n 0, 1) := by decide +kernel
theorem dX10_writeRow_15 : decode cX10_writeRow 15 = .ok (.iconst 0, 1) := by decide +kernel
theorem dX10_writeRow_16 : decode cX10_writeRow 16 = .ok (.putfield 430, 3) := by decide +kernel
theorem dX10_writeRow_19 : decode cX10_writeRow 19 = .ok (.iconst 0, 1) := by decide +kernel
theorem dX10_writeRow_20 : decode cX10_writeRow 20 = .ok (.istore_n 2, 1) := by decide +kernel
theorem dX10_writeRow_21 : decode cX10_writeRow 21 = .ok (.iload_n 2, 1) := by decide +kernel
theorem dX10_writeRow_22 : decode cX10_writeRow 22 = .ok (.aload_n 0, 1) := by decide +kernel
theorem dX10_writeRow_23 : decode cX10_writeRow 23 = .ok (.getfield 17, 3) := by decide +kernel
theorem dX10_writeRow_26 : decode cX10_writeRow 26 = .ok (.iconst 0, 1) := by decide +kernel
theorem dX10_writeRow_27 : decode cX10_writeRow 27 = .ok (.iaload, 1) := by decide +kernel
theorem dX10_writeRow_28 : decode cX10_writeRow 28 = .ok (.if_icmp .ge 39, 3) := by decide +kernel
theorem dX10_writeRow_31 : decode cX10_writeRow 31 = .ok (.iload_n 2, 1) := by decide +kernel
theorem dX10_writeRow_32 : decode cX10_writeRow 32 = .ok (.ifCond .le 9, 3) := by decide +kernel
theorem dX10_writeRow_35 : decode cX10_writeRow 35 = .ok (.aload_n 0, 1) := by decide +kernel
theorem dX10_writeRow_36 : decode cX10_writeRow 36 = .ok (.bipush 44, 2) := by decide +kernel
theorem dX10_writeRow_38 : decode cX10_writeRow 38 = .ok (.invokevirtual 433, 3) := by decide +kernel
theorem dX10_writeRow_41 : decode cX10_writeRow 41 = .ok (.aload_n 0, 1) := by decide +kernel
theorem dX10_writeRow_42 : decode cX10_writeRow 42 = .ok (.aload_n 0, 1) := by decide +kernel
theorem dX10_writeRow_43 : decode cX10_writeRow 43 = .ok (.aload_n 0, 1) := by decide +kernel
theorem dX10_writeRow_44 : decode cX10_writeRow 44 = .ok (.getfield 23, 3) := by decide +kernel
theorem dX10_writeRow_47 : decode cX10_writeRow 47 = .ok (.iload_n 2, 1) := by decide +kernel
theorem dX10_writeRow_48 : decode cX10_writeRow 48 = .ok (.iload_n 1, 1) := by decide +kernel
theorem dX10_writeRow_49 : decode cX10_writeRow 49 = .ok (.aload_n 0, 1) := by decide +kernel
theorem dX10_writeRow_50 : decode cX10_writeRow 50 = .ok (.getfield 23, 3) := by decide +kernel
theorem dX10_writeRow_53 : decode cX10_writeRow 53 = .ok (.iconst 0, 1) := by decide +kernel
theorem dX10_writeRow_54 : decode cX10_writeRow 54 = .ok (.iaload, 1) := by decide +kernel
theorem dX10_writeRow_55 : decode cX10_writeRow 55 = .ok (.invokevirtual 337, 3) := by decide +kernel
theorem dX10_writeRow_58 : decode cX10_writeRow 58 = .ok (.invokevirtual 436, 3) := by decide +kernel
theorem dX10_writeRow_61 : decode cX10_writeRow 61 = .ok (.iinc 2 1, 3) := by decide +kernel
theorem dX10_writeRow_64 : decode cX10_writeRow 64 = .ok (.goto (-43), 3) := by decide +kernel
theorem dX10_writeRow_67 : decode cX10_writeRow 67 = .ok (.aload_n 0, 1) := by decide +kernel
theorem dX10_writeRow_68 : decode cX10_writeRow 68 = .ok (.getfield 430, 3) := by decide +kernel
theorem dX10_writeRow_71 : decode cX10_writeRow 71 = .ok (.ireturn, 1) := by decide +kernel
theorem dX10_writeMap_0 : decode cX10_writeMap 0 = .ok (.aload_n 0, 1) := by decide +kernel
theorem dX10_writeMap_1 : decode cX10_writeMap 1 = .ok (.iload_n 1, 1) := by decide +kernel
theorem dX10_writeMap_2 : decode cX10_writeMap 2 = .ok (.invokestatic 379, 3) := by decide +kernel
theorem dX10_writeMap_5 : decode cX10_writeMap 5 = .ok (.invokevirtual 349, 3) := by decide +kernel
theorem dX10_writeMap_8 : decode cX10_writeMap 8 = .ok (.ifCond .ne 5, 3) := by decide +kernel
theorem dX10_writeMap_11 : decode cX10_writeMap 11 = .ok (.iconst 0, 1) := by decide +kernel
theorem dX10_writeMap_12 : decode cX10_writeMap 12 = .ok (.ireturn, 1) := by decide +kernel
theorem dX10_writeMap_13 : decode cX10_writeMap 13 = .ok (.aload_n 0, 1) := by decide +kernel
theorem dX10_writeMap_14 : decode cX10_writeMap 14 = .ok (.iload_n 1, 1) := by decide +kernel
theorem dX10_writeMap_15 : decode cX10_writeMap 15 = .ok (.invokevirtual 412, 3) := by decide +kernel
theorem dX10_writeMap_18 : decode cX10_writeMap 18 = .ok (.lstore_n 2, 1) := by decide +kernel
theorem dX10_writeMap_19 : decode cX10_writeMap 19 = .ok (.aload_n 0, 1) := by decide +kernel
theorem dX10_writeMap_20 : decode cX10_writeMap 20 = .ok (.iconst 0, 1) := by decide +kernel
theorem dX10_writeMap_21 : decode cX10_writeMap 21 = .ok (.putfield 430, 3) := by decide +kernel
theorem dX10_writeMap_24 : decode cX10_writeMap 24 = .ok (.iconst 0, 1) := by decide +kernel
theorem dX10_writeMap_25 : decode cX10_writeMap 25 = .ok (.istore 4, 2) := by decide +kernel
theorem dX10_writeMap_27 : decode cX10_writeMap 27 = .ok (.iload 4, 2) := by decide +kernel
theorem dX10_writeMap_29 : decode cX10_writeMap 29 = .ok (.aload_n 0, 1) := by decide +kernel
theorem dX10_writeMap_30 : decode cX10_writeMap 30 = .ok (.invokevirtual 373, 3) := by decide +kernel
theorem dX10_writeMap_33 : decode cX10_writeMap 33 = .ok (.if_icmp .ge 60, 3) := by decide +kernel
theorem dX10_writeMap_36 : decode cX10_writeMap 36 = .ok (.iload 4, 2) := by decide +kernel
theorem dX10_writeMap_38 : decode cX10_writeMap 38 = .ok (.ifCond .le 21, 3) := by decide +kernel
theorem dX10_writeMap_41 : decode cX10_writeMap 41 = .ok (.iload 4, 2) := by decide +kernel
theorem dX10_writeMap_43 : decode cX10_writeMap 43 = .ok (.aload_n 0, 1) := by decide +kernel
theorem dX10_writeMap_44 : decode cX10_writeMap 44 = .ok (.getfield 17, 3) := by decide +kernel
theorem dX10_writeMap_47 : decode cX10_writeMap 47 = .ok (.iconst 0, 1) := by decide +kernel
theorem dX10_writeMap_48 : decode cX10_writeMap 48 = .ok (.iaload, 1) := by decide +kernel
theorem dX10_writeMap_49 : decode cX10_writeMap 49 = .ok (.irem, 1) := by decide +kernel
theorem dX10_writeMap_50 : decode cX10_writeMap 50 = .ok (.ifCond .ne 9, 3) := by decide +kernel
theorem dX10_writeMap_53 : decode cX10_writeMap 53 = .ok (.aload_n 0, 1) := by decide +kernel
theorem dX10_writeMap_54 : decode cX10_writeMap 54 = .ok (.bipush 59, 2) := by decide +kernel
theorem dX10_writeMap_56 : decode cX10_writeMap 56 = .ok (.invokevirtual 433, 3) := by decide +kernel
theorem dX10_writeMap_59 : decode cX10_writeMap 59 = .ok (.aload_n 0, 1) := by decide +kernel
theorem dX10_writeMap_60 : decode cX10_writeMap 60 = .ok (.lload_n 2, 1) := by decide +kernel
theorem dX10_writeMap_61 : decode cX10_writeMap 61 = .ok (.lconst 0, 1) := by decide +kernel
theorem dX10_writeMap_62 : decode cX10_writeMap 62 = .ok (.lcmp, 1) := by decide +kernel
theorem dX10_writeMap_63 : decode cX10_writeMap 63 = .ok (.ifCond .ne 7, 3) := by decide +kernel
theorem dX10_writeMap_66 : decode cX10_writeMap 66 = .ok (.iconst 0, 1) := by decide +kernel
theorem dX10_writeMap_67 : decode cX10_writeMap 67 = .ok (.goto 17, 3) := by decide +kernel
theorem dX10_writeMap_70 : decode cX10_writeMap 70 = .ok (.ldc2_w 439, 3) := by decide +kernel
theorem dX10_writeMap_73 : decode cX10_writeMap 73 = .ok (.aload_n 0, 1) := by decide +kernel
theorem dX10_writeMap_74 : decode cX10_writeMap 74 = .ok (.getfield 54, 3) := by decide +kernel
theorem dX10_writeMap_77 : decode cX10_writeMap 77 = .ok (.iload 4, 2) := by decide +kernel
theorem dX10_writeMap_79 : decode cX10_writeMap 79 = .ok (.laload, 1) := by decide +kernel
theorem dX10_writeMap_80 : decode cX10_writeMap 80 = .ok (.lmul, 1) := by decide +kernel
theorem dX10_writeMap_81 : decode cX10_writeMap 81 = .ok (.lload_n 2, 1) := by decide +kernel
theorem dX10_writeMap_82 : decode cX10_writeMap 82 = .ok (.ldiv, 1) := by decide +kernel
theorem dX10_writeMap_83 : decode cX10_writeMap 83 = .ok (.l2i, 1) := by decide +kernel
theorem dX10_writeMap_84 : decode cX10_writeMap 84 = .ok (.invokevirtual 436, 3) := by decide +kernel
theorem dX10_writeMap_87 : decode cX10_writeMap 87 = .ok (.iinc 4 1, 3) := by decide +kernel
theorem dX10_writeMap_90 : decode cX10_writeMap 90 = .ok (.goto (-63), 3) := by decide +kernel
theorem dX10_writeMap_93 : decode cX10_writeMap 93 = .ok (.aload_n 0, 1) := by decide +kernel
theorem dX10_writeMap_94 : decode cX10_writeMap 94 = .ok (.getfield 430, 3) := by decide +kernel
theorem dX10_writeMap_97 : decode cX10_writeMap 97 = .ok (.ireturn, 1) := by decide +kernel
theorem dX10_textByte_0 : decode cX10_textByte 0 = .ok (.aload_n 0, 1) := by decide +kernel
theorem dX10_textByte_1 : decode cX10_textByte 1 = .ok (.iload_n 1, 1) := by decide +kernel
theorem dX10_textByte_2 : decode cX10_textByte 2 = .ok (.iconst 0, 1) := by decide +kernel
theorem dX10_textByte_3 : decode cX10_textByte 3 = .ok (.aload_n 0, 1) := by decide +kernel
theorem dX10_textByte_4 : decode cX10_textByte 4 = .ok (.getfield 430, 3) := by decide +kernel
theorem dX10_textByte_7 : decode cX10_textByte 7 = .ok (.iconst 1, 1) := by decide +kernel
theorem dX10_textByte_8 : decode cX10_textByte 8 = .ok (.isub, 1) := by decide +kernel
theorem dX10_textByte_9 : decode cX10_textByte 9 = .ok (.invokestatic 93, 3) := by decide +kernel
theorem dX10_textByte_12 : decode cX10_textByte 12 = .ok (.ifCond .eq 7, 3) := by decide +kernel
theorem dX10_textByte_15 : decode cX10_textByte 15 = .ok (.iconst 0, 1) := by decide +kernel
theorem dX10_textByte_16 : decode cX10_textByte 16 = .ok (.goto 4, 3) := by decide +kernel
theorem dX10_textByte_19 : decode cX10_textByte 19 = .ok (.iconst 1, 1) := by decide +kernel
theorem dX10_textByte_20 : decode cX10_textByte 20 = .ok (.putfield 64, 3) := by decide +kernel
theorem dX10_textByte_23 : decode cX10_textByte 23 = .ok (.aload_n 0, 1) := by decide +kernel
theorem dX10_textByte_24 : decode cX10_textByte 24 = .ok (.getfield 64, 3) := by decide +kernel
theorem dX10_textByte_27 : decode cX10_textByte 27 = .ok (.ifCond .ne 12, 3) := by decide +kernel
theorem dX10_textByte_30 : decode cX10_textByte 30 = .ok (.aload_n 0, 1) := by decide +kernel
theorem dX10_textByte_31 : decode cX10_textByte 31 = .ok (.getfield 61, 3) := by decide +kernel
theorem dX10_textByte_34 : decode cX10_textByte 34 = .ok (.iload_n 1, 1) := by decide +kernel
theorem dX10_textByte_35 : decode cX10_textByte 35 = .ok (.iaload, 1) := by decide +kernel
theorem dX10_textByte_36 : decode cX10_textByte 36 = .ok (.goto 4, 3) := by decide +kernel
theorem dX10_textByte_39 : decode cX10_textByte 39 = .ok (.iconst 0, 1) := by decide +kernel
theorem dX10_textByte_40 : decode cX10_textByte 40 = .ok (.ireturn, 1) := by decide +kernel
theorem dX10_tries_0 : decode cX10_tries 0 = .ok (.aload_n 0, 1) := by decide +kernel
theorem dX10_tries_1 : decode cX10_tries 1 = .ok (.getfield 23, 3) := by decide +kernel
theorem dX10_tries_4 : decode cX10_tries 4 = .ok (.iconst 0, 1) := by decide +kernel
theorem dX10_tries_5 : decode cX10_tries 5 = .ok (.aload_n 0, 1) := by decide +kernel
theorem dX10_tries_6 : decode cX10_tries 6 = .ok (.getfield 29, 3) := by decide +kernel
theorem dX10_tries_9 : decode cX10_tries 9 = .ok (.iconst 0, 1) := by decide +kernel
theorem dX10_tries_10 : decode cX10_tries 10 = .ok (.invokestatic 245, 3) := by decide +kernel
theorem dX10_tries_13 : decode cX10_tries 13 = .ok (.aload_n 0, 1) := by decide +kernel
theorem dX10_tries_14 : decode cX10_tries 14 = .ok (.getfield 29, 3) := by decide +kernel
theorem dX10_tries_17 : decode cX10_tries 17 = .ok (.iload_n 1, 1) := by decide +kernel
theorem dX10_tries_18 : decode cX10_tries 18 = .ok (.iload_n 2, 1) := by decide +kernel
theorem dX10_tries_19 : decode cX10_tries 19 = .ok (.iastore, 1) := by decide +kernel
theorem dX10_tries_20 : decode cX10_tries 20 = .ok (.return_, 1) := by decide +kernel
theorem dX10_nodesIfOff_0 : decode cX10_nodesIfOff 0 = .ok (.aload_n 0, 1) := by decide +kernel
theorem dX10_nodesIfOff_1 : decode cX10_nodesIfOff 1 = .ok (.aload_n 0, 1) := by decide +kernel
theorem dX10_nodesIfOff_2 : decode cX10_nodesIfOff 2 = .ok (.iload_n 1, 1) := by decide +kernel
theorem dX10_nodesIfOff_3 : decode cX10_nodesIfOff 3 = .ok (.invokevirtual 353, 3) := by decide +kernel
theorem dX10_nodesIfOff_6 : decode cX10_nodesIfOff 6 = .ok (.iload_n 2, 1) := by decide +kernel
theorem dX10_nodesIfOff_7 : decode cX10_nodesIfOff 7 = .ok (.invokestatic 379, 3) := by decide +kernel
theorem dX10_nodesIfOff_10 : decode cX10_nodesIfOff 10 = .ok (.ifCond .eq 14, 3) := by decide +kernel
theorem dX10_nodesIfOff_13 : decode cX10_nodesIfOff 13 = .ok (.iload_n 3, 1) := by decide +kernel
theorem dX10_nodesIfOff_14 : decode cX10_nodesIfOff 14 = .ok (.invokestatic 385, 3) := by decide +kernel
theorem dX10_nodesIfOff_17 : decode cX10_nodesIfOff 17 = .ok (.ifCond .eq 7, 3) := by decide +kernel
theorem dX10_nodesIfOff_20 : decode cX10_nodesIfOff 20 = .ok (.iconst 1, 1) := by decide +kernel
theorem dX10_nodesIfOff_21 : decode cX10_nodesIfOff 21 = .ok (.goto 4, 3) := by decide +kernel
theorem dX10_nodesIfOff_24 : decode cX10_nodesIfOff 24 = .ok (.iconst 0, 1) := by decide +kernel
theorem dX10_nodesIfOff_25 : decode cX10_nodesIfOff 25 = .ok (.invokevirtual 359, 3) := by decide +kernel
theorem dX10_nodesIfOff_28 : decode cX10_nodesIfOff 28 = .ok (.ifCond .ne 5, 3) := by decide +kernel
theorem dX10_nodesIfOff_31 : decode cX10_nodesIfOff 31 = .ok (.iconst 0, 1) := by decide +kernel
theorem dX10_nodesIfOff_32 : decode cX10_nodesIfOff 32 = .ok (.ireturn, 1) := by decide +kernel
theorem dX10_nodesIfOff_33 : decode cX10_nodesIfOff 33 = .ok (.aload_n 0, 1) := by decide +kernel
theorem dX10_nodesIfOff_34 : decode cX10_nodesIfOff 34 = .ok (.iconst 2, 1) := by decide +kernel
theorem dX10_nodesIfOff_35 : decode cX10_nodesIfOff 35 = .ok (.iload_n 1, 1) := by decide +kernel
theorem dX10_nodesIfOff_36 : decode cX10_nodesIfOff 36 = .ok (.iadd, 1) := by decide +kernel
theorem dX10_nodesIfOff_37 : decode cX10_nodesIfOff 37 = .ok (.iconst 0, 1) := by decide +kernel
theorem dX10_nodesIfOff_38 : decode cX10_nodesIfOff 38 = .ok (.invokevirtual 441, 3) := by decide +kernel
theorem dX10_nodesIfOff_41 : decode cX10_nodesIfOff 41 = .ok (.aload_n 0, 1) := by decide +kernel
theorem dX10_nodesIfOff_42 : decode cX10_nodesIfOff 42 = .ok (.aload_n 0, 1) := by decide +kernel
theorem dX10_nodesIfOff_43 : decode cX10_nodesIfOff 43 = .ok (.getfield 29, 3) := by decide +kernel
theorem dX10_nodesIfOff_46 : decode cX10_nodesIfOff 46 = .ok (.iload_n 2, 1) := by decide +kernel
theorem dX10_nodesIfOff_47 : decode cX10_nodesIfOff 47 = .ok (.iload_n 3, 1) := by decide +kernel
theorem dX10_nodesIfOff_48 : decode cX10_nodesIfOff 48 = .ok (.invokevirtual 392, 3) := by decide +kernel
theorem dX10_nodesIfOff_51 : decode cX10_nodesIfOff 51 = .ok (.ireturn, 1) := by decide +kernel
theorem dX10_bestPhase_0 : decode cX10_bestPhase 0 = .ok (.aload_n 0, 1) := by decide +kernel
theorem dX10_bestPhase_1 : decode cX10_bestPhase 1 = .ok (.aload_n 0, 1) := by decide +kernel
theorem dX10_bestPhase_2 : decode cX10_bestPhase 2 = .ok (.iload_n 1, 1) := by decide +kernel
theorem dX10_bestPhase_3 : decode cX10_bestPhase 3 = .ok (.invokevirtual 353, 3) := by decide +kernel
theorem dX10_bestPhase_6 : decode cX10_bestPhase 6 = .ok (.ifCond .eq 16, 3) := by decide +kernel
theorem dX10_bestPhase_9 : decode cX10_bestPhase 9 = .ok (.aload_n 0, 1) := by decide +kernel
theorem dX10_bestPhase_10 : decode cX10_bestPhase 10 = .ok (.iload_n 2, 1) := by decide +kernel
theorem dX10_bestPhase_11 : decode cX10_bestPhase 11 = .ok (.iload_n 3, 1) := by decide +kernel
theorem dX10_bestPhase_12 : decode cX10_bestPhase 12 = .ok (.invokevirtual 363, 3) := by decide +kernel
theorem dX10_bestPhase_15 : decode cX10_bestPhase 15 = .ok (.ifCond .eq 7, 3) := by decide +kernel
theorem dX10_bestPhase_18 : decode cX10_bestPhase 18 = .ok (.iconst 1, 1) := by decide +kernel
theorem dX10_bestPhase_19 : decode cX10_bestPhase 19 = .ok (.goto 4, 3) := by decide +kernel
theorem dX10_bestPhase_22 : decode cX10_bestPhase 22 = .ok (.iconst 0, 1) := by decide +kernel
theorem dX10_bestPhase_23 : decode cX10_bestPhase 23 = .ok (.iload 4, 2) := by decide +kernel
theorem dX10_bestPhase_25 : decode cX10_bestPhase 25 = .ok (.invokestatic 379, 3) := by decide +kernel
theorem dX10_bestPhase_28 : decode cX10_bestPhase 28 = .ok (.invokevirtual 359, 3) := by decide +kernel
theorem dX10_bestPhase_31 : decode cX10_bestPhase 31 = .ok (.ifCond .ne 5, 3) := by decide +kernel
theorem dX10_bestPhase_34 : decode cX10_bestPhase 34 = .ok (.iconst 0, 1) := by decide +kernel
theorem dX10_bestPhase_35 : decode cX10_bestPhase 35 = .ok (.ireturn, 1) := by decide +kernel
theorem dX10_bestPhase_36 : decode cX10_bestPhase 36 = .ok (.iconst (-1), 1) := by decide +kernel
theorem dX10_bestPhase_37 : decode cX10_bestPhase 37 = .ok (.istore 5, 2) := by decide +kernel
theorem dX10_bestPhase_39 : decode cX10_bestPhase 39 = .ok (.lconst 0, 1) := by decide +kernel
theorem dX10_bestPhase_40 : decode cX10_bestPhase 40 = .ok (.lstore 6, 2) := by decide +kernel
theorem dX10_bestPhase_42 : decode cX10_bestPhase 42 = .ok (.iconst 0, 1) := by decide +kernel
theorem dX10_bestPhase_43 : decode cX10_bestPhase 43 = .ok (.istore 8, 2) := by decide +kernel
theorem dX10_bestPhase_45 : decode cX10_bestPhase 45 = .ok (.iload 8, 2) := by decide +kernel
theorem dX10_bestPhase_47 : decode cX10_bestPhase 47 = .ok (.sipush 360, 3) := by decide +kernel
theorem dX10_bestPhase_50 : decode cX10_bestPhase 50 = .ok (.if_icmp .ge 58, 3) := by decide +kernel
theorem dX10_bestPhase_53 : decode cX10_bestPhase 53 = .ok (.aload_n 0, 1) := by decide +kernel
theorem dX10_bestPhase_54 : decode cX10_bestPhase 54 = .ok (.bipush 10, 2) := by decide +kernel
theorem dX10_bestPhase_56 : decode cX10_bestPhase 56 = .ok (.iload_n 1, 1) := by decide +kernel
theorem dX10_bestPhase_57 : decode cX10_bestPhase 57 = .ok (.iadd, 1) := by decide +kernel
theorem dX10_bestPhase_58 : decode cX10_bestPhase 58 = .ok (.iload 8, 2) := by decide +kernel
theorem dX10_bestPhase_60 : decode cX10_bestPhase 60 = .ok (.invokevirtual 441, 3) := by decide +kernel
theorem dX10_bestPhase_63 : decode cX10_bestPhase 63 = .ok (.aload_n 0, 1) := by decide +kernel
theorem dX10_bestPhase_64 : decode cX10_bestPhase 64 = .ok (.aload_n 0, 1) := by decide +kernel
theorem dX10_bestPhase_65 : decode cX10_bestPhase 65 = .ok (.getfield 29, 3) := by decide +kernel
theorem dX10_bestPhase_68 : decode cX10_bestPhase 68 = .ok (.iload_n 2, 1) := by decide +kernel
theorem dX10_bestPhase_69 : decode cX10_bestPhase 69 = .ok (.iload_n 3, 1) := by decide +kernel
theorem dX10_bestPhase_70 : decode cX10_bestPhase 70 = .ok (.iload 4, 2) := by decide +kernel
theorem dX10_bestPhase_72 : decode cX10_bestPhase 72 = .ok (.invokevirtual 405, 3) := by decide +kernel
theorem dX10_bestPhase_75 : decode cX10_bestPhase 75 = .ok (.lstore 9, 2) := by decide +kernel
theorem dX10_bestPhase_77 : decode cX10_bestPhase 77 = .ok (.iload 5, 2) := by decide +kernel
theorem dX10_bestPhase_79 : decode cX10_bestPhase 79 = .ok (.iconst (-1), 1) := by decide +kernel
theorem dX10_bestPhase_80 : decode cX10_bestPhase 80 = .ok (.if_icmp .eq 14, 3) := by decide +kernel
theorem dX10_bestPhase_83 : decode cX10_bestPhase 83 = .ok (.lload 9, 2) := by decide +kernel
theorem dX10_bestPhase_85 : decode cX10_bestPhase 85 = .ok (.lload 6, 2) := by decide +kernel
theorem dX10_bestPhase_87 : decode cX10_bestPhase 87 = .ok (.lcmp, 1) := by decide +kernel
theorem dX10_bestPhase_88 : decode cX10_bestPhase 88 = .ok (.ifCond .lt 6, 3) := by decide +kernel
theorem dX10_bestPhase_91 : decode cX10_bestPhase 91 = .ok (.goto 11, 3) := by decide +kernel
theorem dX10_bestPhase_94 : decode cX10_bestPhase 94 = .ok (.iload 8, 2) := by decide +kernel
theorem dX10_bestPhase_96 : decode cX10_bestPhase 96 = .ok (.istore 5, 2) := by decide +kernel
theorem dX10_bestPhase_98 : decode cX10_bestPhase 98 = .ok (.lload 9, 2) := by decide +kernel
theorem dX10_bestPhase_100 : decode cX10_bestPhase 100 = .ok (.lstore 6, 2) := by decide +kernel
theorem dX10_bestPhase_102 : decode cX10_bestPhase 102 = .ok (.iinc 8 15, 3) := by decide +kernel
theorem dX10_bestPhase_105 : decode cX10_bestPhase 105 = .ok (.goto (-60), 3) := by decide +kernel
theorem dX10_bestPhase_108 : decode cX10_bestPhase 108 = .ok (.iload 5, 2) := by decide +kernel
theorem dX10_bestPhase_110 : decode cX10_bestPhase 110 = .ok (.ireturn, 1) := by decide +kernel
theorem dX10_bestPlace_0 : decode cX10_bestPlace 0 = .ok (.aload_n 0, 1) := by decide +kernel
theorem dX10_bestPlace_1 : decode cX10_bestPlace 1 = .ok (.aload_n 0, 1) := by decide +kernel
theorem dX10_bestPlace_2 : decode cX10_bestPlace 2 = .ok (.iload_n 1, 1) := by decide +kernel
theorem dX10_bestPlace_3 : decode cX10_bestPlace 3 = .ok (.invokevirtual 353, 3) := by decide +kernel
theorem dX10_bestPlace_6 : decode cX10_bestPlace 6 = .ok (.ifCond .eq 16, 3) := by decide +kernel
theorem dX10_bestPlace_9 : decode cX10_bestPlace 9 = .ok (.aload_n 0, 1) := by decide +kernel
theorem dX10_bestPlace_10 : decode cX10_bestPlace 10 = .ok (.iload_n 2, 1) := by decide +kernel
theorem dX10_bestPlace_11 : decode cX10_bestPlace 11 = .ok (.iload_n 3, 1) := by decide +kernel
theorem dX10_bestPlace_12 : decode cX10_bestPlace 12 = .ok (.invokevirtual 363, 3) := by decide +kernel
theorem dX10_bestPlace_15 : decode cX10_bestPlace 15 = .ok (.ifCond .eq 7, 3) := by decide +kernel
theorem dX10_bestPlace_18 : decode cX10_bestPlace 18 = .ok (.iconst 1, 1) := by decide +kernel
theorem dX10_bestPlace_19 : decode cX10_bestPlace 19 = .ok (.goto 4, 3) := by decide +kernel
theorem dX10_bestPlace_22 : decode cX10_bestPlace 22 = .ok (.iconst 0, 1) := by decide +kernel
theorem dX10_bestPlace_23 : decode cX10_bestPlace 23 = .ok (.iload 4, 2) := by decide +kernel
theorem dX10_bestPlace_25 : decode cX10_bestPlace 25 = .ok (.invokestatic 379, 3) := by decide +kernel
theorem dX10_bestPlace_28 : decode cX10_bestPlace 28 = .ok (.invokevirtual 359, 3) := by decide +kernel
theorem dX10_bestPlace_31 : decode cX10_bestPlace 31 = .ok (.ifCond .ne 5, 3) := by decide +kernel
theorem dX10_bestPlace_34 : decode cX10_bestPlace 34 = .ok (.iconst 0, 1) := by decide +kernel
theorem dX10_bestPlace_35 : decode cX10_bestPlace 35 = .ok (.ireturn, 1) := by decide +kernel
theorem dX10_bestPlace_36 : decode cX10_bestPlace 36 = .ok (.iconst (-1), 1) := by decide +kernel
theorem dX10_bestPlace_37 : decode cX10_bestPlace 37 = .ok (.istore 5, 2) := by decide +kernel
theorem dX10_bestPlace_39 : decode cX10_bestPlace 39 = .ok (.lconst 0, 1) := by decide +kernel
theorem dX10_bestPlace_40 : decode cX10_bestPlace 40 = .ok (.lstore 6, 2) := by decide +kernel
theorem dX10_bestPlace_42 : decode cX10_bestPlace 42 = .ok (.iconst 0, 1) := by decide +kernel
theorem dX10_bestPlace_43 : decode cX10_bestPlace 43 = .ok (.istore 8, 2) := by decide +kernel
theorem dX10_bestPlace_45 : decode cX10_bestPlace 45 = .ok (.iload 8, 2) := by decide +kernel
theorem dX10_bestPlace_47 : decode cX10_bestPlace 47 = .ok (.aload_n 0, 1) := by decide +kernel
theorem dX10_bestPlace_48 : decode cX10_bestPlace 48 = .ok (.invokevirtual 373, 3) := by decide +kernel
theorem dX10_bestPlace_51 : decode cX10_bestPlace 51 = .ok (.if_icmp .ge 83, 3) := by decide +kernel
theorem dX10_bestPlace_54 : decode cX10_bestPlace 54 = .ok (.aload_n 0, 1) := by decide +kernel
theorem dX10_bestPlace_55 : decode cX10_bestPlace 55 = .ok (.bipush 14, 2) := by decide +kernel
theorem dX10_bestPlace_57 : decode cX10_bestPlace 57 = .ok (.iload_n 1, 1) := by decide +kernel
theorem dX10_bestPlace_58 : decode cX10_bestPlace 58 = .ok (.iadd, 1) := by decide +kernel
theorem dX10_bestPlace_59 : decode cX10_bestPlace 59 = .ok (.iload 8, 2) := by decide +kernel
theorem dX10_bestPlace_61 : decode cX10_bestPlace 61 = .ok (.aload_n 0, 1) := by decide +kernel
theorem dX10_bestPlace_62 : decode cX10_bestPlace 62 = .ok (.getfield 17, 3) := by decide +kernel
theorem dX10_bestPlace_65 : decode cX10_bestPlace 65 = .ok (.iconst 0, 1) := by decide +kernel
theorem dX10_bestPlace_66 : decode cX10_bestPlace 66 = .ok (.iaload, 1) := by decide +kernel
theorem dX10_bestPlace_67 : decode cX10_bestPlace 67 = .ok (.irem, 1) := by decide +kernel
theorem dX10_bestPlace_68 : decode cX10_bestPlace 68 = .ok (.invokevirtual 441, 3) := by decide +kernel
theorem dX10_bestPlace_71 : decode cX10_bestPlace 71 = .ok (.aload_n 0, 1) := by decide +kernel
theorem dX10_bestPlace_72 : decode cX10_bestPlace 72 = .ok (.getfield 29, 3) := by decide +kernel
theorem dX10_bestPlace_75 : decode cX10_bestPlace 75 = .ok (.bipush 18, 2) := by decide +kernel
theorem dX10_bestPlace_77 : decode cX10_bestPlace 77 = .ok (.iload_n 1, 1) := by decide +kernel
theorem dX10_bestPlace_78 : decode cX10_bestPlace 78 = .ok (.iadd, 1) := by decide +kernel
theorem dX10_bestPlace_79 : decode cX10_bestPlace 79 = .ok (.iload 8, 2) := by decide +kernel
theorem dX10_bestPlace_81 : decode cX10_bestPlace 81 = .ok (.aload_n 0, 1) := by decide +kernel
theorem dX10_bestPlace_82 : decode cX10_bestPlace 82 = .ok (.getfield 17, 3) := by decide +kernel
theorem dX10_bestPlace_85 : decode cX10_bestPlace 85 = .ok (.iconst 0, 1) := by decide +kernel
theorem dX10_bestPlace_86 : decode cX10_bestPlace 86 = .ok (.iaload, 1) := by decide +kernel
theorem dX10_bestPlace_87 : decode cX10_bestPlace 87 = .ok (.idiv, 1) := by decide +kernel
theorem dX10_bestPlace_88 : decode cX10_bestPlace 88 = .ok (.iastore, 1) := by decide +kernel
theorem dX10_bestPlace_89 : decode cX10_bestPlace 89 = .ok (.aload_n 0, 1) := by decide +kernel
theorem dX10_bestPlace_90 : decode cX10_bestPlace 90 = .ok (.aload_n 0, 1) := by decide +kernel
theorem dX10_bestPlace_91 : decode cX10_bestPlace 91 = .ok (.getfield 29, 3) := by decide +kernel
theorem dX10_bestPlace_94 : decode cX10_bestPlace 94 = .ok (.iload_n 2, 1) := by decide +kernel
theorem dX10_bestPlace_95 : decode cX10_bestPlace 95 = .ok (.iload_n 3, 1) := by decide +kernel
theorem dX10_bestPlace_96 : decode cX10_bestPlace 96 = .ok (.iload 4, 2) := by decide +kernel
theorem dX10_bestPlace_98 : decode cX10_bestPlace 98 = .ok (.invokevirtual 405, 3) := by decide +kernel
theorem dX10_bestPlace_101 : decode cX10_bestPlace 101 = .ok (.lstore 9, 2) := by decide +kernel
theorem dX10_bestPlace_103 : decode cX10_bestPlace 103 = .ok (.iload 5, 2) := by decide +kernel
theorem dX10_bestPlace_105 : decode cX10_bestPlace 105 = .ok (.iconst (-1), 1) := by decide +kernel
theorem dX10_bestPlace_106 : decode cX10_bestPlace 106 = .ok (.if_icmp .eq 14, 3) := by decide +kernel
theorem dX10_bestPlace_109 : decode cX10_bestPlace 109 = .ok (.lload 9, 2) := by decide +kernel
theorem dX10_bestPlace_111 : decode cX10_bestPlace 111 = .ok (.lload 6, 2) := by decide +kernel
theorem dX10_bestPlace_113 : decode cX10_bestPlace 113 = .ok (.lcmp, 1) := by decide +kernel
theorem dX10_bestPlace_114 : decode cX10_bestPlace 114 = .ok (.ifCond .lt 6, 3) := by decide +kernel
theorem dX10_bestPlace_117 : decode cX10_bestPlace 117 = .ok (.goto 11, 3) := by decide +kernel
theorem dX10_bestPlace_120 : decode cX10_bestPlace 120 = .ok (.iload 8, 2) := by decide +kernel
theorem dX10_bestPlace_122 : decode cX10_bestPlace 122 = .ok (.istore 5, 2) := by decide +kernel
theorem dX10_bestPlace_124 : decode cX10_bestPlace 124 = .ok (.lload 9, 2) := by decide +kernel
theorem dX10_bestPlace_126 : decode cX10_bestPlace 126 = .ok (.lstore 6, 2) := by decide +kernel
theorem dX10_bestPlace_128 : decode cX10_bestPlace 128 = .ok (.iinc 8 1, 3) := by decide +kernel
theorem dX10_bestPlace_131 : decode cX10_bestPlace 131 = .ok (.goto (-86), 3) := by decide +kernel
theorem dX10_bestPlace_134 : decode cX10_bestPlace 134 = .ok (.iload 5, 2) := by decide +kernel
theorem dX10_bestPlace_136 : decode cX10_bestPlace 136 = .ok (.ireturn, 1) := by decide +kernel
theorem dX10_turnedEnergy_0 : decode cX10_turnedEnergy 0 = .ok (.aload_n 0, 1) := by decide +kernel
theorem dX10_turnedEnergy_1 : decode cX10_turnedEnergy 1 = .ok (.iconst 1, 1) := by decide +kernel
theorem dX10_turnedEnergy_2 : decode cX10_turnedEnergy 2 = .ok (.aload_n 0, 1) := by decide +kernel
theorem dX10_turnedEnergy_3 : decode cX10_turnedEnergy 3 = .ok (.getfield 23, 3) := by decide +kernel
theorem dX10_turnedEnergy_6 : decode cX10_turnedEnergy 6 = .ok (.iconst 1, 1) := by decide +kernel
theorem dX10_turnedEnergy_7 : decode cX10_turnedEnergy 7 = .ok (.iaload, 1) := by decide +kernel
theorem dX10_turnedEnergy_8 : decode cX10_turnedEnergy 8 = .ok (.iconst 1, 1) := by decide +kernel
theorem dX10_turnedEnergy_9 : decode cX10_turnedEnergy 9 = .ok (.iload_n 3, 1) := by decide +kernel
theorem dX10_turnedEnergy_10 : decode cX10_turnedEnergy 10 = .ok (.ishl, 1) := by decide +kernel
theorem dX10_turnedEnergy_11 : decode cX10_turnedEnergy 11 = .ok (.ixor, 1) := by decide +kernel
theorem dX10_turnedEnergy_12 : decode cX10_turnedEnergy 12 = .ok (.invokevirtual 441, 3) := by decide +kernel
theorem dX10_turnedEnergy_15 : decode cX10_turnedEnergy 15 = .ok (.aload_n 0, 1) := by decide +kernel
theorem dX10_turnedEnergy_16 : decode cX10_turnedEnergy 16 = .ok (.aload_n 0, 1) := by decide +kernel
theorem dX10_turnedEnergy_17 : decode cX10_turnedEnergy 17 = .ok (.getfield 29, 3) := by decide +kernel
theorem dX10_turnedEnergy_20 : decode cX10_turnedEnergy 20 = .ok (.iload_n 1, 1) := by decide +kernel
theorem dX10_turnedEnergy_21 : decode cX10_turnedEnergy 21 = .ok (.iload_n 2, 1) := by decide +kernel
theorem dX10_turnedEnergy_22 : decode cX10_turnedEnergy 22 = .ok (.iload 4, 2) := by decide +kernel
theorem dX10_turnedEnergy_24 : decode cX10_turnedEnergy 24 = .ok (.invokevirtual 405, 3) := by decide +kernel
theorem dX10_turnedEnergy_27 : decode cX10_turnedEnergy 27 = .ok (.lreturn, 1) := by decide +kernel
theorem dX10_energyIfTurned_0 : decode cX10_energyIfTurned 0 = .ok (.aload_n 0, 1) := by decide +kernel
theorem dX10_energyIfTurned_1 : decode cX10_energyIfTurned 1 = .ok (.aload_n 0, 1) := by decide +kernel
theorem dX10_energyIfTurned_2 : decode cX10_energyIfTurned 2 = .ok (.iload_n 1, 1) := by decide +kernel
theorem dX10_energyIfTurned_3 : decode cX10_energyIfTurned 3 = .ok (.iload_n 2, 1) := by decide +kernel
theorem dX10_energyIfTurned_4 : decode cX10_energyIfTurned 4 = .ok (.invokevirtual 363, 3) := by decide +kernel
theorem dX10_energyIfTurned_7 : decode cX10_energyIfTurned 7 = .ok (.ifCond .eq 15, 3) := by decide +kernel
theorem dX10_energyIfTurned_10 : decode cX10_energyIfTurned 10 = .ok (.aload_n 0, 1) := by decide +kernel
theorem dX10_energyIfTurned_11 : decode cX10_energyIfTurned 11 = .ok (.iload_n 3, 1) := by decide +kernel
theorem dX10_energyIfTurned_12 : decode cX10_energyIfTurned 12 = .ok (.invokevirtual 343, 3) := by decide +kernel
theorem dX10_energyIfTurned_15 : decode cX10_energyIfTurned 15 = .ok (.ifCond .eq 7, 3) := by decide +kernel
theorem dX10_energyIfTurned_18 : decode cX10_energyIfTurned 18 = .ok (.iconst 1, 1) := by decide +kernel
theorem dX10_energyIfTurned_19 : decode cX10_energyIfTurned 19 = .ok (.goto 4, 3) := by decide +kernel
theorem dX10_energyIfTurned_22 : decode cX10_energyIfTurned 22 = .ok (.iconst 0, 1) := by decide +kernel
theorem dX10_energyIfTurned_23 : decode cX10_energyIfTurned 23 = .ok (.iload 4, 2) := by decide +kernel
theorem dX10_energyIfTurned_25 : decode cX10_energyIfTurned 25 = .ok (.invokestatic 379, 3) := by decide +kernel
theorem dX10_energyIfTurned_28 : decode cX10_energyIfTurned 28 = .ok (.invokevirtual 359, 3) := by decide +kernel
theorem dX10_energyIfTurned_31 : decode cX10_energyIfTurned 31 = .ok (.ifCond .ne 5, 3) := by decide +kernel
theorem dX10_energyIfTurned_34 : decode cX10_energyIfTurned 34 = .ok (.lconst 0, 1) := by decide +kernel
theorem dX10_energyIfTurned_35 : decode cX10_energyIfTurned 35 = .ok (.lreturn, 1) := by decide +kernel
theorem dX10_energyIfTurned_36 : decode cX10_energyIfTurned 36 = .ok (.aload_n 0, 1) := by decide +kernel
theorem dX10_energyIfTurned_37 : decode cX10_energyIfTurned 37 = .ok (.invokevirtual 273, 3) := by decide +kernel
theorem dX10_energyIfTurned_40 : decode cX10_energyIfTurned 40 = .ok (.ifCond .eq 15, 3) := by decide +kernel
theorem dX10_energyIfTurned_43 : decode cX10_energyIfTurned 43 = .ok (.aload_n 0, 1) := by decide +kernel
theorem dX10_energyIfTurned_44 : decode cX10_energyIfTurned 44 = .ok (.iload_n 1, 1) := by decide +kernel
theorem dX10_energyIfTurned_45 : decode cX10_energyIfTurned 45 = .ok (.iload_n 2, 1) := by decide +kernel
theorem dX10_energyIfTurned_46 : decode cX10_energyIfTurned 46 = .ok (.iload_n 3, 1) := by decide +kernel
theorem dX10_energyIfTurned_47 : decode cX10_energyIfTurned 47 = .ok (.iload 4, 2) := by decide +kernel
theorem dX10_energyIfTurned_49 : decode cX10_energyIfTurned 49 = .ok (.invokevirtual 444, 3) := by decide +kernel
theorem dX10_energyIfTurned_52 : decode cX10_energyIfTurned 52 = .ok (.goto 6, 3) := by decide +kernel
theorem dX10_energyIfTurned_55 : decode cX10_energyIfTurned 55 = .ok (.ldc2_w 448, 3) := by decide +kernel
theorem dX10_energyIfTurned_58 : decode cX10_energyIfTurned 58 = .ok (.lreturn, 1) := by decide +kernel
theorem dX10_bestRow_0 : decode cX10_bestRow 0 = .ok (.aload_n 0, 1) := by decide +kernel
theorem dX10_bestRow_1 : decode cX10_bestRow 1 = .ok (.aload_n 0, 1) := by decide +kernel
theorem dX10_bestRow_2 : decode cX10_bestRow 2 = .ok (.iload_n 1, 1) := by decide +kernel
theorem dX10_bestRow_3 : decode cX10_bestRow 3 = .ok (.iload_n 2, 1) := by decide +kernel
theorem dX10_bestRow_4 : decode cX10_bestRow 4 = .ok (.invokevirtual 363, 3) := by decide +kernel
theorem dX10_bestRow_7 : decode cX10_bestRow 7 = .ok (.iload_n 3, 1) := by decide +kernel
theorem dX10_bestRow_8 : decode cX10_bestRow 8 = .ok (.invokestatic 379, 3) := by decide +kernel
theorem dX10_bestRow_11 : decode cX10_bestRow 11 = .ok (.invokevirtual 359, 3) := by decide +kernel
theorem dX10_bestRow_14 : decode cX10_bestRow 14 = .ok (.ifCond .eq 10, 3) := by decide +kernel
theorem dX10_bestRow_17 : decode cX10_bestRow 17 = .ok (.aload_n 0, 1) := by decide +kernel
theorem dX10_bestRow_18 : decode cX10_bestRow 18 = .ok (.invokevirtual 273, 3) := by decide +kernel
theorem dX10_bestRow_21 : decode cX10_bestRow 21 = .ok (.ifCond .ne 16, 3) := by decide +kernel
theorem dX10_bestRow_24 : decode cX10_bestRow 24 = .ok (.aload_n 0, 1) := by decide +kernel
theorem dX10_bestRow_25 : decode cX10_bestRow 25 = .ok (.getfield 64, 3) := by decide +kernel
theorem dX10_bestRow_28 : decode cX10_bestRow 28 = .ok (.ifCond .ne 7, 3) := by decide +kernel
theorem dX10_bestRow_31 : decode cX10_bestRow 31 = .ok (.iconst (-1), 1) := by decide +kernel
theorem dX10_bestRow_32 : decode cX10_bestRow 32 = .ok (.goto 4, 3) := by decide +kernel
theorem dX10_bestRow_35 : decode cX10_bestRow 35 = .ok (.iconst 0, 1) := by decide +kernel
theorem dX10_bestRow_36 : decode cX10_bestRow 36 = .ok (.ireturn, 1) := by decide +kernel
theorem dX10_bestRow_37 : decode cX10_bestRow 37 = .ok (.iconst 0, 1) := by decide +kernel
theorem dX10_bestRow_38 : decode cX10_bestRow 38 = .ok (.istore 4, 2) := by decide +kernel
theorem dX10_bestRow_40 : decode cX10_bestRow 40 = .ok (.aload_n 0, 1) := by decide +kernel
theorem dX10_bestRow_41 : decode cX10_bestRow 41 = .ok (.iload_n 1, 1) := by decide +kernel
theorem dX10_bestRow_42 : decode cX10_bestRow 42 = .ok (.iload_n 2, 1) := by decide +kernel
theorem dX10_bestRow_43 : decode cX10_bestRow 43 = .ok (.iconst 0, 1) := by decide +kernel
theorem dX10_bestRow_44 : decode cX10_bestRow 44 = .ok (.iload_n 3, 1) := by decide +kernel
theorem dX10_bestRow_45 : decode cX10_bestRow 45 = .ok (.invokevirtual 444, 3) := by decide +kernel
theorem dX10_bestRow_48 : decode cX10_bestRow 48 = .ok (.lstore 5, 2) := by decide +kernel
theorem dX10_bestRow_50 : decode cX10_bestRow 50 = .ok (.iconst 1, 1) := by decide +kernel
theorem dX10_bestRow_51 : decode cX10_bestRow 51 = .ok (.istore 7, 2) := by decide +kernel
theorem dX10_bestRow_53 : decode cX10_bestRow 53 = .ok (.iload 7, 2) := by decide +kernel
theorem dX10_bestRow_55 : decode cX10_bestRow 55 = .ok (.aload_n 0, 1) := by decide +kernel
theorem dX10_bestRow_56 : decode cX10_bestRow 56 = .ok (.getfield 17, 3) := by decide +kernel
theorem dX10_bestRow_59 : decode cX10_bestRow 59 = .ok (.iconst 1, 1) := by decide +kernel
theorem dX10_bestRow_60 : decode cX10_bestRow 60 = .ok (.iaload, 1) := by decide +kernel
theorem dX10_bestRow_61 : decode cX10_bestRow 61 = .ok (.if_icmp .ge 39, 3) := by decide +kernel
theorem dX10_bestRow_64 : decode cX10_bestRow 64 = .ok (.aload_n 0, 1) := by decide +kernel
theorem dX10_bestRow_65 : decode cX10_bestRow 65 = .ok (.iload_n 1, 1) := by decide +kernel
theorem dX10_bestRow_66 : decode cX10_bestRow 66 = .ok (.iload_n 2, 1) := by decide +kernel
theorem dX10_bestRow_67 : decode cX10_bestRow 67 = .ok (.iload 7, 2) := by decide +kernel
theorem dX10_bestRow_69 : decode cX10_bestRow 69 = .ok (.iload_n 3, 1) := by decide +kernel
theorem dX10_bestRow_70 : decode cX10_bestRow 70 = .ok (.invokevirtual 444, 3) := by decide +kernel
theorem dX10_bestRow_73 : decode cX10_bestRow 73 = .ok (.lstore 8, 2) := by decide +kernel
theorem dX10_bestRow_75 : decode cX10_bestRow 75 = .ok (.lload 8, 2) := by decide +kernel
theorem dX10_bestRow_77 : decode cX10_bestRow 77 = .ok (.lload 5, 2) := by decide +kernel
theorem dX10_bestRow_79 : decode cX10_bestRow 79 = .ok (.lcmp, 1) := by decide +kernel
theorem dX10_bestRow_80 : decode cX10_bestRow 80 = .ok (.ifCond .gt 6, 3) := by decide +kernel
theorem dX10_bestRow_83 : decode cX10_bestRow 83 = .ok (.goto 11, 3) := by decide +kernel
theorem dX10_bestRow_86 : decode cX10_bestRow 86 = .ok (.iload 7, 2) := by decide +kernel
theorem dX10_bestRow_88 : decode cX10_bestRow 88 = .ok (.istore 4, 2) := by decide +kernel
theorem dX10_bestRow_90 : decode cX10_bestRow 90 = .ok (.lload 8, 2) := by decide +kernel
theorem dX10_bestRow_92 : decode cX10_bestRow 92 = .ok (.lstore 5, 2) := by decide +kernel
theorem dX10_bestRow_94 : decode cX10_bestRow 94 = .ok (.iinc 7 1, 3) := by decide +kernel
theorem dX10_bestRow_97 : decode cX10_bestRow 97 = .ok (.goto (-44), 3) := by decide +kernel
theorem dX10_bestRow_100 : decode cX10_bestRow 100 = .ok (.iload 4, 2) := by decide +kernel
theorem dX10_bestRow_102 : decode cX10_bestRow 102 = .ok (.ireturn, 1) := by decide +kernel
theorem dX10_sets_0 : decode cX10_sets 0 = .ok (.aload_n 0, 1) := by decide +kernel
theorem dX10_sets_1 : decode cX10_sets 1 = .ok (.invokevirtual 450, 3) := by decide +kernel
theorem dX10_sets_4 : decode cX10_sets 4 = .ok (.aload_n 0, 1) := by decide +kernel
theorem dX10_sets_5 : decode cX10_sets 5 = .ok (.getfield 23, 3) := by decide +kernel
theorem dX10_sets_8 : decode cX10_sets 8 = .ok (.iload_n 1, 1) := by decide +kernel
theorem dX10_sets_9 : decode cX10_sets 9 = .ok (.iaload, 1) := by decide +kernel
theorem dX10_sets_10 : decode cX10_sets 10 = .ok (.istore_n 3, 1) := by decide +kernel
theorem dX10_sets_11 : decode cX10_sets 11 = .ok (.aload_n 0, 1) := by decide +kernel
theorem dX10_sets_12 : decode cX10_sets 12 = .ok (.getfield 23, 3) := by decide +kernel
theorem dX10_sets_15 : decode cX10_sets 15 = .ok (.iload_n 1, 1) := by decide +kernel
theorem dX10_sets_16 : decode cX10_sets 16 = .ok (.iload_n 2, 1) := by decide +kernel
theorem dX10_sets_17 : decode cX10_sets 17 = .ok (.iastore, 1) := by decide +kernel
theorem dX10_sets_18 : decode cX10_sets 18 = .ok (.iload_n 3, 1) := by decide +kernel
theorem dX10_sets_19 : decode cX10_sets 19 = .ok (.ireturn, 1) := by decide +kernel
theorem dX10_advance_0 : decode cX10_advance 0 = .ok (.aload_n 0, 1) := by decide +kernel
theorem dX10_advance_1 : decode cX10_advance 1 = .ok (.iload_n 1, 1) := by decide +kernel
theorem dX10_advance_2 : decode cX10_advance 2 = .ok (.iconst 1, 1) := by decide +kernel
theorem dX10_advance_3 : decode cX10_advance 3 = .ok (.sipush 999, 3) := by decide +kernel
theorem dX10_advance_6 : decode cX10_advance 6 = .ok (.invokestatic 93, 3) := by decide +kernel
theorem dX10_advance_9 : decode cX10_advance 9 = .ok (.ifCond .eq 21, 3) := by decide +kernel
theorem dX10_advance_12 : decode cX10_advance 12 = .ok (.aload_n 0, 1) := by decide +kernel
theorem dX10_advance_13 : decode cX10_advance 13 = .ok (.getfield 23, 3) := by decide +kernel
theorem dX10_advance_16 : decode cX10_advance 16 = .ok (.iconst 0, 1) := by decide +kernel
theorem dX10_advance_17 : decode cX10_advance 17 = .ok (.iaload, 1) := by decide +kernel
theorem dX10_advance_18 : decode cX10_advance 18 = .ok (.iload_n 1, 1) := by decide +kernel
theorem dX10_advance_19 : decode cX10_advance 19 = .ok (.iadd, 1) := by decide +kernel
theorem dX10_advance_20 : decode cX10_advance 20 = .ok (.sipush 9999, 3) := by decide +kernel
theorem dX10_advance_23 : decode cX10_advance 23 = .ok (.if_icmp .gt 7, 3) := by decide +kernel
theorem dX10_advance_26 : decode cX10_advance 26 = .ok (.iconst 1, 1) := by decide +kernel
theorem dX10_advance_27 : decode cX10_advance 27 = .ok (.goto 4, 3) := by decide +kernel
theorem dX10_advance_30 : decode cX10_advance 30 = .ok (.iconst 0, 1) := by decide +kernel
theorem dX10_advance_31 : decode cX10_advance 31 = .ok (.invokevirtual 349, 3) := by decide +kernel
theorem dX10_advance_34 : decode cX10_advance 34 = .ok (.ifCond .ne 5, 3) := by decide +kernel
theorem dX10_advance_37 : decode cX10_advance 37 = .ok (.iconst 0, 1) := by decide +kernel
theorem dX10_advance_38 : decode cX10_advance 38 = .ok (.ireturn, 1) := by decide +kernel
theorem dX10_advance_39 : decode cX10_advance 39 = .ok (.aload_n 0, 1) := by decide +kernel
theorem dX10_advance_40 : decode cX10_advance 40 = .ok (.iconst 0, 1) := by decide +kernel
theorem dX10_advance_41 : decode cX10_advance 41 = .ok (.aload_n 0, 1) := by decide +kernel
theorem dX10_advance_42 : decode cX10_advance 42 = .ok (.getfield 23, 3) := by decide +kernel
theorem dX10_advance_45 : decode cX10_advance 45 = .ok (.iconst 0, 1) := by decide +kernel
theorem dX10_advance_46 : decode cX10_advance 46 = .ok (.iaload, 1) := by decide +kernel
theorem dX10_advance_47 : decode cX10_advance 47 = .ok (.iload_n 1, 1) := by decide +kernel
theorem dX10_advance_48 : decode cX10_advance 48 = .ok (.iadd, 1) := by decide +kernel
theorem dX10_advance_49 : decode cX10_advance 49 = .ok (.invokevirtual 453, 3) := by decide +kernel
theorem dX10_advance_52 : decode cX10_advance 52 = .ok (.iload_n 1, 1) := by decide +kernel
theorem dX10_advance_53 : decode cX10_advance 53 = .ok (.iadd, 1) := by decide +kernel
theorem dX10_advance_54 : decode cX10_advance 54 = .ok (.ireturn, 1) := by decide +kernel
theorem dX10_setOn_0 : decode cX10_setOn 0 = .ok (.aload_n 0, 1) := by decide +kernel
theorem dX10_setOn_1 : decode cX10_setOn 1 = .ok (.aload_n 0, 1) := by decide +kernel
theorem dX10_setOn_2 : decode cX10_setOn 2 = .ok (.iload_n 1, 1) := by decide +kernel
theorem dX10_setOn_3 : decode cX10_setOn 3 = .ok (.invokevirtual 353, 3) := by decide +kernel
theorem dX10_setOn_6 : decode cX10_setOn 6 = .ok (.invokevirtual 349, 3) := by decide +kernel
theorem dX10_setOn_9 : decode cX10_setOn 9 = .ok (.ifCond .eq 27, 3) := by decide +kernel
theorem dX10_setOn_12 : decode cX10_setOn 12 = .ok (.aload_n 0, 1) := by decide +kernel
theorem dX10_setOn_13 : decode cX10_setOn 13 = .ok (.iconst 2, 1) := by decide +kernel
theorem dX10_setOn_14 : decode cX10_setOn 14 = .ok (.iload_n 1, 1) := by decide +kernel
theorem dX10_setOn_15 : decode cX10_setOn 15 = .ok (.iadd, 1) := by decide +kernel
theorem dX10_setOn_16 : decode cX10_setOn 16 = .ok (.iload_n 2, 1) := by decide +kernel
theorem dX10_setOn_17 : decode cX10_setOn 17 = .ok (.ifCond .eq 7, 3) := by decide +kernel
theorem dX10_setOn_20 : decode cX10_setOn 20 = .ok (.iconst 1, 1) := by decide +kernel
theorem dX10_setOn_21 : decode cX10_setOn 21 = .ok (.goto 4, 3) := by decide +kernel
theorem dX10_setOn_24 : decode cX10_setOn 24 = .ok (.iconst 0, 1) := by decide +kernel
theorem dX10_setOn_25 : decode cX10_setOn 25 = .ok (.invokevirtual 453, 3) := by decide +kernel
theorem dX10_setOn_28 : decode cX10_setOn 28 = .ok (.iconst 1, 1) := by decide +kernel
theorem dX10_setOn_29 : decode cX10_setOn 29 = .ok (.if_icmp .ne 7, 3) := by decide +kernel
theorem dX10_setOn_32 : decode cX10_setOn 32 = .ok (.iconst 1, 1) := by decide +kernel
theorem dX10_setOn_33 : decode cX10_setOn 33 = .ok (.goto 4, 3) := by decide +kernel
theorem dX10_setOn_36 : decode cX10_setOn 36 = .ok (.iconst 0, 1) := by decide +kernel
theorem dX10_setOn_37 : decode cX10_setOn 37 = .ok (.ireturn, 1) := by decide +kernel
theorem dX10_setPhase_0 : decode cX10_setPhase 0 = .ok (.aload_n 0, 1) := by decide +kernel
theorem dX10_setPhase_1 : decode cX10_setPhase 1 = .ok (.aload_n 0, 1) := by decide +kernel
theorem dX10_setPhase_2 : decode cX10_setPhase 2 = .ok (.iload_n 1, 1) := by decide +kernel
theorem dX10_setPhase_3 : decode cX10_setPhase 3 = .ok (.invokevirtual 353, 3) := by decide +kernel
theorem dX10_setPhase_6 : decode cX10_setPhase 6 = .ok (.iload_n 2, 1) := by decide +kernel
theorem dX10_setPhase_7 : decode cX10_setPhase 7 = .ok (.iconst 0, 1) := by decide +kernel
theorem dX10_setPhase_8 : decode cX10_setPhase 8 = .ok (.sipush 359, 3) := by decide +kernel
theorem dX10_setPhase_11 : decode cX10_setPhase 11 = .ok (.invokestatic 93, 3) := by decide +kernel
theorem dX10_setPhase_14 : decode cX10_setPhase 14 = .ok (.invokevirtual 359, 3) := by decide +kernel
theorem dX10_setPhase_17 : decode cX10_setPhase 17 = .ok (.ifCond .eq 15, 3) := by decide +kernel
theorem dX10_setPhase_20 : decode cX10_setPhase 20 = .ok (.aload_n 0, 1) := by decide +kernel
theorem dX10_setPhase_21 : decode cX10_setPhase 21 = .ok (.bipush 10, 2) := by decide +kernel
theorem dX10_setPhase_23 : decode cX10_setPhase 23 = .ok (.iload_n 1, 1) := by decide +kernel
theorem dX10_setPhase_24 : decode cX10_setPhase 24 = .ok (.iadd, 1) := by decide +kernel
theorem dX10_setPhase_25 : decode cX10_setPhase 25 = .ok (.iload_n 2, 1) := by decide +kernel
theorem dX10_setPhase_26 : decode cX10_setPhase 26 = .ok (.invokevirtual 453, 3) := by decide +kernel
theorem dX10_setPhase_29 : decode cX10_setPhase 29 = .ok (.goto 4, 3) := by decide +kernel
theorem dX10_setPhase_32 : decode cX10_setPhase 32 = .ok (.iconst 0, 1) := by decide +kernel
theorem dX10_setPhase_33 : decode cX10_setPhase 33 = .ok (.ireturn, 1) := by decide +kernel
theorem dX10_setAmp_0 : decode cX10_setAmp 0 = .ok (.aload_n 0, 1) := by decide +kernel
theorem dX10_setAmp_1 : decode cX10_setAmp 1 = .ok (.aload_n 0, 1) := by decide +kernel
theorem dX10_setAmp_2 : decode cX10_setAmp 2 = .ok (.iload_n 1, 1) := by decide +kernel
theorem dX10_setAmp_3 : decode cX10_setAmp 3 = .ok (.invokevirtual 353, 3) := by decide +kernel
theorem dX10_setAmp_6 : decode cX10_setAmp 6 = .ok (.iload_n 2, 1) := by decide +kernel
theorem dX10_setAmp_7 : decode cX10_setAmp 7 = .ok (.iconst 1, 1) := by decide +kernel
theorem dX10_setAmp_8 : decode cX10_setAmp 8 = .ok (.sipush 999, 3) := by decide +kernel
theorem dX10_setAmp_11 : decode cX10_setAmp 11 = .ok (.invokestatic 93, 3) := by decide +kernel
theorem dX10_setAmp_14 : decode cX10_setAmp 14 = .ok (.invokevirtual 359, 3) := by decide +kernel
theorem dX10_setAmp_17 : decode cX10_setAmp 17 = .ok (.ifCond .eq 15, 3) := by decide +kernel
theorem dX10_setAmp_20 : decode cX10_setAmp 20 = .ok (.aload_n 0, 1) := by decide +kernel
theorem dX10_setAmp_21 : decode cX10_setAmp 21 = .ok (.bipush 6, 2) := by decide +kernel
theorem dX10_setAmp_23 : decode cX10_setAmp 23 = .ok (.iload_n 1, 1) := by decide +kernel
theorem dX10_setAmp_24 : decode cX10_setAmp 24 = .ok (.iadd, 1) := by decide +kernel
theorem dX10_setAmp_25 : decode cX10_setAmp 25 = .ok (.iload_n 2, 1) := by decide +kernel
theorem dX10_setAmp_26 : decode cX10_setAmp 26 = .ok (.invokevirtual 453, 3) := by decide +kernel
theorem dX10_setAmp_29 : decode cX10_setAmp 29 = .ok (.goto 4, 3) := by decide +kernel
theorem dX10_setAmp_32 : decode cX10_setAmp 32 = .ok (.iconst 0, 1) := by decide +kernel
theorem dX10_setAmp_33 : decode cX10_setAmp 33 = .ok (.ireturn, 1) := by decide +kernel
theorem dX10_setsTwo_0 : decode cX10_setsTwo 0 = .ok (.aload_n 0, 1) := by decide +kernel
theorem dX10_setsTwo_1 : decode cX10_setsTwo 1 = .ok (.iload_n 1, 1) := by decide +kernel
theorem dX10_setsTwo_2 : decode cX10_setsTwo 2 = .ok (.iload_n 2, 1) := by decide +kernel
theorem dX10_setsTwo_3 : decode cX10_setsTwo 3 = .ok (.iadd, 1) := by decide +kernel
theorem dX10_setsTwo_4 : decode cX10_setsTwo 4 = .ok (.iload_n 3, 1) := by decide +kernel
theorem dX10_setsTwo_5 : decode cX10_setsTwo 5 = .ok (.invokevirtual 453, 3) := by decide +kernel
theorem dX10_setsTwo_8 : decode cX10_setsTwo 8 = .ok (.istore 5, 2) := by decide +kernel
theorem dX10_setsTwo_10 : decode cX10_setsTwo 10 = .ok (.aload_n 0, 1) := by decide +kernel
theorem dX10_setsTwo_11 : decode cX10_setsTwo 11 = .ok (.getfield 23, 3) := by decide +kernel
theorem dX10_setsTwo_14 : decode cX10_setsTwo 14 = .ok (.iload_n 1, 1) := by decide +kernel
theorem dX10_setsTwo_15 : decode cX10_setsTwo 15 = .ok (.iconst 4, 1) := by decide +kernel
theorem dX10_setsTwo_16 : decode cX10_setsTwo 16 = .ok (.iadd, 1) := by decide +kernel
theorem dX10_setsTwo_17 : decode cX10_setsTwo 17 = .ok (.iload_n 2, 1) := by decide +kernel
theorem dX10_setsTwo_18 : decode cX10_setsTwo 18 = .ok (.iadd, 1) := by decide +kernel
theorem dX10_setsTwo_19 : decode cX10_setsTwo 19 = .ok (.iload 4, 2) := by decide +kernel
theorem dX10_setsTwo_21 : decode cX10_setsTwo 21 = .ok (.iastore, 1) := by decide +kernel
theorem dX10_setsTwo_22 : decode cX10_setsTwo 22 = .ok (.aload_n 0, 1) := by decide +kernel
theorem dX10_setsTwo_23 : decode cX10_setsTwo 23 = .ok (.getfield 17, 3) := by decide +kernel
theorem dX10_setsTwo_26 : decode cX10_setsTwo 26 = .ok (.iconst 0, 1) := by decide +kernel
theorem dX10_setsTwo_27 : decode cX10_setsTwo 27 = .ok (.iaload, 1) := by decide +kernel
theorem dX10_setsTwo_28 : decode cX10_setsTwo 28 = .ok (.aload_n 0, 1) := by decide +kernel
theorem dX10_setsTwo_29 : decode cX10_setsTwo 29 = .ok (.aload_n 0, 1) := by decide +kernel
theorem dX10_setsTwo_30 : decode cX10_setsTwo 30 = .ok (.getfield 23, 3) := by decide +kernel
theorem dX10_setsTwo_33 : decode cX10_setsTwo 33 = .ok (.iload_n 2, 1) := by decide +kernel
theorem dX10_setsTwo_34 : decode cX10_setsTwo 34 = .ok (.aload_n 0, 1) := by decide +kernel
theorem dX10_setsTwo_35 : decode cX10_setsTwo 35 = .ok (.getfield 23, 3) := by decide +kernel
theorem dX10_setsTwo_38 : decode cX10_setsTwo 38 = .ok (.iconst 0, 1) := by decide +kernel
theorem dX10_setsTwo_39 : decode cX10_setsTwo 39 = .ok (.iaload, 1) := by decide +kernel
theorem dX10_setsTwo_40 : decode cX10_setsTwo 40 = .ok (.invokevirtual 288, 3) := by decide +kernel
theorem dX10_setsTwo_43 : decode cX10_setsTwo 43 = .ok (.imul, 1) := by decide +kernel
theorem dX10_setsTwo_44 : decode cX10_setsTwo 44 = .ok (.aload_n 0, 1) := by decide +kernel
theorem dX10_setsTwo_45 : decode cX10_setsTwo 45 = .ok (.aload_n 0, 1) := by decide +kernel
theorem dX10_setsTwo_46 : decode cX10_setsTwo 46 = .ok (.getfield 23, 3) := by decide +kernel
theorem dX10_setsTwo_49 : decode cX10_setsTwo 49 = .ok (.iload_n 2, 1) := by decide +kernel
theorem dX10_setsTwo_50 : decode cX10_setsTwo 50 = .ok (.aload_n 0, 1) := by decide +kernel
theorem dX10_setsTwo_51 : decode cX10_setsTwo 51 = .ok (.getfield 23, 3) := by decide +kernel
theorem dX10_setsTwo_54 : decode cX10_setsTwo 54 = .ok (.iconst 0, 1) := by decide +kernel
theorem dX10_setsTwo_55 : decode cX10_setsTwo 55 = .ok (.iaload, 1) := by decide +kernel
theorem dX10_setsTwo_56 : decode cX10_setsTwo 56 = .ok (.invokevirtual 284, 3) := by decide +kernel
theorem dX10_setsTwo_59 : decode cX10_setsTwo 59 = .ok (.iadd, 1) := by decide +kernel
theorem dX10_setsTwo_60 : decode cX10_setsTwo 60 = .ok (.ireturn, 1) := by decide +kernel
theorem dX10_moveSource_0 : decode cX10_moveSource 0 = .ok (.aload_n 0, 1) := by decide +kernel
theorem dX10_moveSource_1 : decode cX10_moveSource 1 = .ok (.aload_n 0, 1) := by decide +kernel
theorem dX10_moveSource_2 : decode cX10_moveSource 2 = .ok (.iload_n 1, 1) := by decide +kernel
theorem dX10_moveSource_3 : decode cX10_moveSource 3 = .ok (.invokevirtual 353, 3) := by decide +kernel
theorem dX10_moveSource_6 : decode cX10_moveSource 6 = .ok (.ifCond .eq 16, 3) := by decide +kernel
theorem dX10_moveSource_9 : decode cX10_moveSource 9 = .ok (.aload_n 0, 1) := by decide +kernel
theorem dX10_moveSource_10 : decode cX10_moveSource 10 = .ok (.iload_n 2, 1) := by decide +kernel
theorem dX10_moveSource_11 : decode cX10_moveSource 11 = .ok (.iload_n 3, 1) := by decide +kernel
theorem dX10_moveSource_12 : decode cX10_moveSource 12 = .ok (.invokevirtual 363, 3) := by decide +kernel
theorem dX10_moveSource_15 : decode cX10_moveSource 15 = .ok (.ifCond .eq 7, 3) := by decide +kernel
theorem dX10_moveSource_18 : decode cX10_moveSource 18 = .ok (.iconst 1, 1) := by decide +kernel
theorem dX10_moveSource_19 : decode cX10_moveSource 19 = .ok (.goto 4, 3) := by decide +kernel
theorem dX10_moveSource_22 : decode cX10_moveSource 22 = .ok (.iconst 0, 1) := by decide +kernel
theorem dX10_moveSource_23 : decode cX10_moveSource 23 = .ok (.invokevirtual 349, 3) := by decide +kernel
theorem dX10_moveSource_26 : decode cX10_moveSource 26 = .ok (.ifCond .eq 15, 3) := by decide +kernel
theorem dX10_moveSource_29 : decode cX10_moveSource 29 = .ok (.aload_n 0, 1) := by decide +kernel
theorem dX10_moveSource_30 : decode cX10_moveSource 30 = .ok (.bipush 14, 2) := by decide +kernel
theorem dX10_moveSource_32 : decode cX10_moveSource 32 = .ok (.iload_n 1, 1) := by decide +kernel
theorem dX10_moveSource_33 : decode cX10_moveSource 33 = .ok (.iload_n 2, 1) := by decide +kernel
theorem dX10_moveSource_34 : decode cX10_moveSource 34 = .ok (.iload_n 3, 1) := by decide +kernel
theorem dX10_moveSource_35 : decode cX10_moveSource 35 = .ok (.invokevirtual 456, 3) := by decide +kernel
theorem dX10_moveSource_38 : decode cX10_moveSource 38 = .ok (.goto 4, 3) := by decide +kernel
theorem dX10_moveSource_41 : decode cX10_moveSource 41 = .ok (.iconst 0, 1) := by decide +kernel
theorem dX10_moveSource_42 : decode cX10_moveSource 42 = .ok (.ireturn, 1) := by decide +kernel
theorem dX10_setDrift_0 : decode cX10_setDrift 0 = .ok (.aload_n 0, 1) := by decide +kernel
theorem dX10_setDrift_1 : decode cX10_setDrift 1 = .ok (.aload_n 0, 1) := by decide +kernel
theorem dX10_setDrift_2 : decode cX10_setDrift 2 = .ok (.iload_n 1, 1) := by decide +kernel
theorem dX10_setDrift_3 : decode cX10_setDrift 3 = .ok (.invokevirtual 353, 3) := by decide +kernel
theorem dX10_setDrift_6 : decode cX10_setDrift 6 = .ok (.iload_n 2, 1) := by decide +kernel
theorem dX10_setDrift_7 : decode cX10_setDrift 7 = .ok (.bipush (-99), 2) := by decide +kernel
theorem dX10_setDrift_9 : decode cX10_setDrift 9 = .ok (.bipush 99, 2) := by decide +kernel
theorem dX10_setDrift_11 : decode cX10_setDrift 11 = .ok (.invokestatic 93, 3) := by decide +kernel
theorem dX10_setDrift_14 : decode cX10_setDrift 14 = .ok (.ifCond .eq 18, 3) := by decide +kernel
theorem dX10_setDrift_17 : decode cX10_setDrift 17 = .ok (.iload_n 3, 1) := by decide +kernel
theorem dX10_setDrift_18 : decode cX10_setDrift 18 = .ok (.bipush (-99), 2) := by decide +kernel
theorem dX10_setDrift_20 : decode cX10_setDrift 20 = .ok (.bipush 99, 2) := by decide +kernel
theorem dX10_setDrift_22 : decode cX10_setDrift 22 = .ok (.invokestatic 93, 3) := by decide +kernel
theorem dX10_setDrift_25 : decode cX10_setDrift 25 = .ok (.ifCond .eq 7, 3) := by decide +kernel
theorem dX10_setDrift_28 : decode cX10_setDrift 28 = .ok (.iconst 1, 1) := by decide +kernel
theorem dX10_setDrift_29 : decode cX10_setDrift 29 = .ok (.goto 4, 3) := by decide +kernel
theorem dX10_setDrift_32 : decode cX10_setDrift 32 = .ok (.iconst 0, 1) := by decide +kernel
theorem dX10_setDrift_33 : decode cX10_setDrift 33 = .ok (.invokevirtual 359, 3) := by decide +kernel
theorem dX10_setDrift_36 : decode cX10_setDrift 36 = .ok (.ifCond .eq 15, 3) := by decide +kernel
theorem dX10_setDrift_39 : decode cX10_setDrift 39 = .ok (.aload_n 0, 1) := by decide +kernel
theorem dX10_setDrift_40 : decode cX10_setDrift 40 = .ok (.bipush 22, 2) := by decide +kernel
theorem dX10_setDrift_42 : decode cX10_setDrift 42 = .ok (.iload_n 1, 1) := by decide +kernel
theorem dX10_setDrift_43 : decode cX10_setDrift 43 = .ok (.iload_n 2, 1) := by decide +kernel
theorem dX10_setDrift_44 : decode cX10_setDrift 44 = .ok (.iload_n 3, 1) := by decide +kernel
theorem dX10_setDrift_45 : decode cX10_setDrift 45 = .ok (.invokevirtual 456, 3) := by decide +kernel
theorem dX10_setDrift_48 : decode cX10_setDrift 48 = .ok (.goto 4, 3) := by decide +kernel
theorem dX10_setDrift_51 : decode cX10_setDrift 51 = .ok (.iconst 0, 1) := by decide +kernel
theorem dX10_setDrift_52 : decode cX10_setDrift 52 = .ok (.ireturn, 1) := by decide +kernel
theorem dX10_turnRow_0 : decode cX10_turnRow 0 = .ok (.aload_n 0, 1) := by decide +kernel
theorem dX10_turnRow_1 : decode cX10_turnRow 1 = .ok (.aload_n 0, 1) := by decide +kernel
theorem dX10_turnRow_2 : decode cX10_turnRow 2 = .ok (.getfield 249, 3) := by decide +kernel
theorem dX10_turnRow_5 : decode cX10_turnRow 5 = .ok (.ifCond .eq 10, 3) := by decide +kernel
theorem dX10_turnRow_8 : decode cX10_turnRow 8 = .ok (.aload_n 0, 1) := by decide +kernel
theorem dX10_turnRow_9 : decode cX10_turnRow 9 = .ok (.invokevirtual 273, 3) := by decide +kernel
theorem dX10_turnRow_12 : decode cX10_turnRow 12 = .ok (.ifCond .ne 7, 3) := by decide +kernel
theorem dX10_turnRow_15 : decode cX10_turnRow 15 = .ok (.iconst 1, 1) := by decide +kernel
theorem dX10_turnRow_16 : decode cX10_turnRow 16 = .ok (.goto 16, 3) := by decide +kernel
theorem dX10_turnRow_19 : decode cX10_turnRow 19 = .ok (.aload_n 0, 1) := by decide +kernel
theorem dX10_turnRow_20 : decode cX10_turnRow 20 = .ok (.iload_n 1, 1) := by decide +kernel
theorem dX10_turnRow_21 : decode cX10_turnRow 21 = .ok (.invokevirtual 343, 3) := by decide +kernel
theorem dX10_turnRow_24 : decode cX10_turnRow 24 = .ok (.ifCond .eq 7, 3) := by decide +kernel
theorem dX10_turnRow_27 : decode cX10_turnRow 27 = .ok (.iconst 0, 1) := by decide +kernel
theorem dX10_turnRow_28 : decode cX10_turnRow 28 = .ok (.goto 4, 3) := by decide +kernel
theorem dX10_turnRow_31 : decode cX10_turnRow 31 = .ok (.iconst 2, 1) := by decide +kernel
theorem dX10_turnRow_32 : decode cX10_turnRow 32 = .ok (.putfield 64, 3) := by decide +kernel
theorem dX10_turnRow_35 : decode cX10_turnRow 35 = .ok (.aload_n 0, 1) := by decide +kernel
theorem dX10_turnRow_36 : decode cX10_turnRow 36 = .ok (.getfield 64, 3) := by decide +kernel
theorem dX10_turnRow_39 : decode cX10_turnRow 39 = .ok (.ifCond .le 5, 3) := by decide +kernel
theorem dX10_turnRow_42 : decode cX10_turnRow 42 = .ok (.iconst 0, 1) := by decide +kernel
theorem dX10_turnRow_43 : decode cX10_turnRow 43 = .ok (.ireturn, 1) := by decide +kernel
theorem dX10_turnRow_44 : decode cX10_turnRow 44 = .ok (.aload_n 0, 1) := by decide +kernel
theorem dX10_turnRow_45 : decode cX10_turnRow 45 = .ok (.iconst 1, 1) := by decide +kernel
theorem dX10_turnRow_46 : decode cX10_turnRow 46 = .ok (.aload_n 0, 1) := by decide +kernel
theorem dX10_turnRow_47 : decode cX10_turnRow 47 = .ok (.getfield 23, 3) := by decide +kernel
theorem dX10_turnRow_50 : decode cX10_turnRow 50 = .ok (.iconst 1, 1) := by decide +kernel
theorem dX10_turnRow_51 : decode cX10_turnRow 51 = .ok (.iaload, 1) := by decide +kernel
theorem dX10_turnRow_52 : decode cX10_turnRow 52 = .ok (.iconst 1, 1) := by decide +kernel
theorem dX10_turnRow_53 : decode cX10_turnRow 53 = .ok (.iload_n 1, 1) := by decide +kernel
theorem dX10_turnRow_54 : decode cX10_turnRow 54 = .ok (.ishl, 1) := by decide +kernel
theorem dX10_turnRow_55 : decode cX10_turnRow 55 = .ok (.ixor, 1) := by decide +kernel
theorem dX10_turnRow_56 : decode cX10_turnRow 56 = .ok (.invokevirtual 453, 3) := by decide +kernel
theorem dX10_turnRow_59 : decode cX10_turnRow 59 = .ok (.istore_n 2, 1) := by decide +kernel
theorem dX10_turnRow_60 : decode cX10_turnRow 60 = .ok (.aload_n 0, 1) := by decide +kernel
theorem dX10_turnRow_61 : decode cX10_turnRow 61 = .ok (.aload_n 0, 1) := by decide +kernel
theorem dX10_turnRow_62 : decode cX10_turnRow 62 = .ok (.getfield 23, 3) := by decide +kernel
theorem dX10_turnRow_65 : decode cX10_turnRow 65 = .ok (.iload_n 1, 1) := by decide +kernel
theorem dX10_turnRow_66 : decode cX10_turnRow 66 = .ok (.invokevirtual 277, 3) := by decide +kernel
theorem dX10_turnRow_69 : decode cX10_turnRow 69 = .ok (.ireturn, 1) := by decide +kernel
theorem dX10_undo_0 : decode cX10_undo 0 = .ok (.aload_n 0, 1) := by decide +kernel
theorem dX10_undo_1 : decode cX10_undo 1 = .ok (.aload_n 0, 1) := by decide +kernel
theorem dX10_undo_2 : decode cX10_undo 2 = .ok (.getfield 253, 3) := by decide +kernel
theorem dX10_undo_5 : decode cX10_undo 5 = .ok (.ifCond .ne 7, 3) := by decide +kernel
theorem dX10_undo_8 : decode cX10_undo 8 = .ok (.iconst 1, 1) := by decide +kernel
theorem dX10_undo_9 : decode cX10_undo 9 = .ok (.goto 4, 3) := by decide +kernel
theorem dX10_undo_12 : decode cX10_undo 12 = .ok (.iconst 0, 1) := by decide +kernel
theorem dX10_undo_13 : decode cX10_undo 13 = .ok (.putfield 64, 3) := by decide +kernel
theorem dX10_undo_16 : decode cX10_undo 16 = .ok (.aload_n 0, 1) := by decide +kernel
theorem dX10_undo_17 : decode cX10_undo 17 = .ok (.getfield 64, 3) := by decide +kernel
theorem dX10_undo_20 : decode cX10_undo 20 = .ok (.ifCond .le 5, 3) := by decide +kernel
theorem dX10_undo_23 : decode cX10_undo 23 = .ok (.iconst 0, 1) := by decide +kernel
theorem dX10_undo_24 : decode cX10_undo 24 = .ok (.ireturn, 1) := by decide +kernel
theorem dX10_undo_25 : decode cX10_undo 25 = .ok (.aload_n 0, 1) := by decide +kernel
theorem dX10_undo_26 : decode cX10_undo 26 = .ok (.dup, 1) := by decide +kernel
theorem dX10_undo_27 : decode cX10_undo 27 = .ok (.getfield 253, 3) := by decide +kernel
theorem dX10_undo_30 : decode cX10_undo 30 = .ok (.iconst 1, 1) := by decide +kernel
theorem dX10_undo_31 : decode cX10_undo 31 = .ok (.isub, 1) := by decide +kernel
theorem dX10_undo_32 : decode cX10_undo 32 = .ok (.putfield 253, 3) := by decide +kernel
theorem dX10_undo_35 : decode cX10_undo 35 = .ok (.aload_n 0, 1) := by decide +kernel
theorem dX10_undo_36 : decode cX10_undo 36 = .ok (.getfield 32, 3) := by decide +kernel
theorem dX10_undo_39 : decode cX10_undo 39 = .ok (.bipush 30, 2) := by decide +kernel
theorem dX10_undo_41 : decode cX10_undo 41 = .ok (.aload_n 0, 1) := by decide +kernel
theorem dX10_undo_42 : decode cX10_undo 42 = .ok (.getfield 253, 3) := by decide +kernel
theorem dX10_undo_45 : decode cX10_undo 45 = .ok (.imul, 1) := by decide +kernel
theorem dX10_undo_46 : decode cX10_undo 46 = .ok (.aload_n 0, 1) := by decide +kernel
theorem dX10_undo_47 : decode cX10_undo 47 = .ok (.getfield 23, 3) := by decide +kernel
theorem dX10_undo_50 : decode cX10_undo 50 = .ok (.iconst 0, 1) := by decide +kernel
theorem dX10_undo_51 : decode cX10_undo 51 = .ok (.invokestatic 245, 3) := by decide +kernel
theorem dX10_undo_54 : decode cX10_undo 54 = .ok (.aload_n 0, 1) := by decide +kernel
theorem dX10_undo_55 : decode cX10_undo 55 = .ok (.getfield 253, 3) := by decide +kernel
theorem dX10_undo_58 : decode cX10_undo 58 = .ok (.ireturn, 1) := by decide +kernel
theorem dX10_undoable_0 : decode cX10_undoable 0 = .ok (.aload_n 0, 1) := by decide +kernel
theorem dX10_undoable_1 : decode cX10_undoable 1 = .ok (.iconst 0, 1) := by decide +kernel
theorem dX10_undoable_2 : decode cX10_undoable 2 = .ok (.putfield 64, 3) := by decide +kernel
theorem dX10_undoable_5 : decode cX10_undoable 5 = .ok (.aload_n 0, 1) := by decide +kernel
theorem dX10_undoable_6 : decode cX10_undoable 6 = .ok (.getfield 253, 3) := by decide +kernel
theorem dX10_undoable_9 : decode cX10_undoable 9 = .ok (.ireturn, 1) := by decide +kernel
theorem dX10_save_0 : decode cX10_save 0 = .ok (.aload_n 0, 1) := by decide +kernel
theorem dX10_save_1 : decode cX10_save 1 = .ok (.iload_n 1, 1) := by decide +kernel
theorem dX10_save_2 : decode cX10_save 2 = .ok (.iconst 0, 1) := by decide +kernel
theorem dX10_save_3 : decode cX10_save 3 = .ok (.iconst 1, 1) := by decide +kernel
theorem dX10_save_4 : decode cX10_save 4 = .ok (.invokestatic 93, 3) := by decide +kernel
theorem dX10_save_7 : decode cX10_save 7 = .ok (.invokevirtual 349, 3) := by decide +kernel
theorem dX10_save_10 : decode cX10_save 10 = .ok (.ifCond .ne 5, 3) := by decide +kernel
theorem dX10_save_13 : decode cX10_save 13 = .ok (.iconst 0, 1) := by decide +kernel
theorem dX10_save_14 : decode cX10_save 14 = .ok (.ireturn, 1) := by decide +kernel
theorem dX10_save_15 : decode cX10_save 15 = .ok (.aload_n 0, 1) := by decide +kernel
theorem dX10_save_16 : decode cX10_save 16 = .ok (.getfield 23, 3) := by decide +kernel
theorem dX10_save_19 : decode cX10_save 19 = .ok (.iconst 0, 1) := by decide +kernel
theorem dX10_save_20 : decode cX10_save 20 = .ok (.aload_n 0, 1) := by decide +kernel
theorem dX10_save_21 : decode cX10_save 21 = .ok (.getfield 35, 3) := by decide +kernel
theorem dX10_save_24 : decode cX10_save 24 = .ok (.bipush 30, 2) := by decide +kernel
theorem dX10_save_26 : decode cX10_save 26 = .ok (.iload_n 1, 1) := by decide +kernel
theorem dX10_save_27 : decode cX10_save 27 = .ok (.imul, 1) := by decide +kernel
theorem dX10_save_28 : decode cX10_save 28 = .ok (.invokestatic 245, 3) := by decide +kernel
theorem dX10_save_31 : decode cX10_save 31 = .ok (.aload_n 0, 1) := by decide +kernel
theorem dX10_save_32 : decode cX10_save 32 = .ok (.getfield 41, 3) := by decide +kernel
theorem dX10_save_35 : decode cX10_save 35 = .ok (.iload_n 1, 1) := by decide +kernel
theorem dX10_save_36 : decode cX10_save 36 = .ok (.iconst 1, 1) := by decide +kernel
theorem dX10_save_37 : decode cX10_save 37 = .ok (.bastore, 1) := by decide +kernel
theorem dX10_save_38 : decode cX10_save 38 = .ok (.aload_n 0, 1) := by decide +kernel
theorem dX10_save_39 : decode cX10_save 39 = .ok (.getfield 23, 3) := by decide +kernel
theorem dX10_save_42 : decode cX10_save 42 = .ok (.iconst 0, 1) := by decide +kernel
theorem dX10_save_43 : decode cX10_save 43 = .ok (.iaload, 1) := by decide +kernel
theorem dX10_save_44 : decode cX10_save 44 = .ok (.ireturn, 1) := by decide +kernel
theorem dX10_restore_0 : decode cX10_restore 0 = .ok (.aload_n 0, 1) := by decide +kernel
theorem dX10_restore_1 : decode cX10_restore 1 = .ok (.iload_n 1, 1) := by decide +kernel
theorem dX10_restore_2 : decode cX10_restore 2 = .ok (.iconst 0, 1) := by decide +kernel
theorem dX10_restore_3 : decode cX10_restore 3 = .ok (.iconst 1, 1) := by decide +kernel
theorem dX10_restore_4 : decode cX10_restore 4 = .ok (.invokestatic 93, 3) := by decide +kernel
theorem dX10_restore_7 : decode cX10_restore 7 = .ok (.ifCond .ne 7, 3) := by decide +kernel
theorem dX10_restore_10 : decode cX10_restore 10 = .ok (.iconst 1, 1) := by decide +kernel
theorem dX10_restore_11 : decode cX10_restore 11 = .ok (.goto 17, 3) := by decide +kernel
theorem dX10_restore_14 : decode cX10_restore 14 = .ok (.aload_n 0, 1) := by decide +kernel
theorem dX10_restore_15 : decode cX10_restore 15 = .ok (.getfield 41, 3) := by decide +kernel
theorem dX10_restore_18 : decode cX10_restore 18 = .ok (.iload_n 1, 1) := by decide +kernel
theorem dX10_restore_19 : decode cX10_restore 19 = .ok (.baload, 1) := by decide +kernel
theorem dX10_restore_20 : decode cX10_restore 20 = .ok (.ifCond .eq 7, 3) := by decide +kernel
theorem dX10_restore_23 : decode cX10_restore 23 = .ok (.iconst 0, 1) := by decide +kernel
theorem dX10_restore_24 : decode cX10_restore 24 = .ok (.goto 4, 3) := by decide +kernel
theorem dX10_restore_27 : decode cX10_restore 27 = .ok (.iconst 2, 1) := by decide +kernel
theorem dX10_restore_28 : decode cX10_restore 28 = .ok (.putfield 64, 3) := by decide +kernel
theorem dX10_restore_31 : decode cX10_restore 31 = .ok (.aload_n 0, 1) := by decide +kernel
theorem dX10_restore_32 : decode cX10_restore 32 = .ok (.getfield 64, 3) := by decide +kernel
theorem dX10_restore_35 : decode cX10_restore 35 = .ok (.ifCond .le 5, 3) := by decide +kernel
theorem dX10_restore_38 : decode cX10_restore 38 = .ok (.iconst 0, 1) := by decide +kernel
theorem dX10_restore_39 : decode cX10_restore 39 = .ok (.ireturn, 1) := by decide +kernel
theorem dX10_restore_40 : decode cX10_restore 40 = .ok (.aload_n 0, 1) := by decide +kernel
theorem dX10_restore_41 : decode cX10_restore 41 = .ok (.getfield 35, 3) := by decide +kernel
theorem dX10_restore_44 : decode cX10_restore 44 = .ok (.bipush 30, 2) := by decide +kernel
theorem dX10_restore_46 : decode cX10_restore 46 = .ok (.iload_n 1, 1) := by decide +kernel
theorem dX10_restore_47 : decode cX10_restore 47 = .ok (.imul, 1) := by decide +kernel
theorem dX10_restore_48 : decode cX10_restore 48 = .ok (.aload_n 0, 1) := by decide +kernel
theorem dX10_restore_49 : decode cX10_restore 49 = .ok (.getfield 23, 3) := by decide +kernel
theorem dX10_restore_52 : decode cX10_restore 52 = .ok (.iconst 0, 1) := by decide +kernel
theorem dX10_restore_53 : decode cX10_restore 53 = .ok (.invokestatic 245, 3) := by decide +kernel
theorem dX10_restore_56 : decode cX10_restore 56 = .ok (.aload_n 0, 1) := by decide +kernel
theorem dX10_restore_57 : decode cX10_restore 57 = .ok (.iconst 0, 1) := by decide +kernel
theorem dX10_restore_58 : decode cX10_restore 58 = .ok (.putfield 253, 3) := by decide +kernel
theorem dX10_restore_61 : decode cX10_restore 61 = .ok (.aload_n 0, 1) := by decide +kernel
theorem dX10_restore_62 : decode cX10_restore 62 = .ok (.getfield 23, 3) := by decide +kernel
theorem dX10_restore_65 : decode cX10_restore 65 = .ok (.iconst 0, 1) := by decide +kernel
theorem dX10_restore_66 : decode cX10_restore 66 = .ok (.iaload, 1) := by decide +kernel
theorem dX10_restore_67 : decode cX10_restore 67 = .ok (.ireturn, 1) := by decide +kernel
theorem dJ6_bitCount_0f7a4_0 : decode cJ6_bitCount_0f7a4 0 = .ok (.iload_n 0, 1) := by decide +kernel
theorem dJ6_bitCount_0f7a4_1 : decode cJ6_bitCount_0f7a4 1 = .ok (.iload_n 0, 1) := by decide +kernel
theorem dJ6_bitCount_0f7a4_2 : decode cJ6_bitCount_0f7a4 2 = .ok (.iconst 1, 1) := by decide +kernel
theorem dJ6_bitCount_0f7a4_3 : decode cJ6_bitCount_0f7a4 3 = .ok (.iushr, 1) := by decide +kernel
theorem dJ6_bitCount_0f7a4_4 : decode cJ6_bitCount_0f7a4 4 = .ok (.ldc_w 265, 3) := by decide +kernel
theorem dJ6_bitCount_0f7a4_7 : decode cJ6_bitCount_0f7a4 7 = .ok (.iand, 1) := by decide +kernel
theorem dJ6_bitCount_0f7a4_8 : decode cJ6_bitCount_0f7a4 8 = .ok (.isub, 1) := by decide +kernel
theorem dJ6_bitCount_0f7a4_9 : decode cJ6_bitCount_0f7a4 9 = .ok (.istore_n 0, 1) := by decide +kernel
theorem dJ6_bitCount_0f7a4_10 : decode cJ6_bitCount_0f7a4 10 = .ok (.iload_n 0, 1) := by decide +kernel
theorem dJ6_bitCount_0f7a4_11 : decode cJ6_bitCount_0f7a4 11 = .ok (.ldc_w 266, 3) := by decide +kernel
theorem dJ6_bitCount_0f7a4_14 : decode cJ6_bitCount_0f7a4 14 = .ok (.iand, 1) := by decide +kernel
theorem dJ6_bitCount_0f7a4_15 : decode cJ6_bitCount_0f7a4 15 = .ok (.iload_n 0, 1) := by decide +kernel
theorem dJ6_bitCount_0f7a4_16 : decode cJ6_bitCount_0f7a4 16 = .ok (.iconst 2, 1) := by decide +kernel
theorem dJ6_bitCount_0f7a4_17 : decode cJ6_bitCount_0f7a4 17 = .ok (.iushr, 1) := by decide +kernel
theorem dJ6_bitCount_0f7a4_18 : decode cJ6_bitCount_0f7a4 18 = .ok (.ldc_w 266, 3) := by decide +kernel
theorem dJ6_bitCount_0f7a4_21 : decode cJ6_bitCount_0f7a4 21 = .ok (.iand, 1) := by decide +kernel
theorem dJ6_bitCount_0f7a4_22 : decode cJ6_bitCount_0f7a4 22 = .ok (.iadd, 1) := by decide +kernel
theorem dJ6_bitCount_0f7a4_23 : decode cJ6_bitCount_0f7a4 23 = .ok (.istore_n 0, 1) := by decide +kernel
theorem dJ6_bitCount_0f7a4_24 : decode cJ6_bitCount_0f7a4 24 = .ok (.iload_n 0, 1) := by decide +kernel
theorem dJ6_bitCount_0f7a4_25 : decode cJ6_bitCount_0f7a4 25 = .ok (.iload_n 0, 1) := by decide +kernel
theorem dJ6_bitCount_0f7a4_26 : decode cJ6_bitCount_0f7a4 26 = .ok (.iconst 4, 1) := by decide +kernel
theorem dJ6_bitCount_0f7a4_27 : decode cJ6_bitCount_0f7a4 27 = .ok (.iushr, 1) := by decide +kernel
theorem dJ6_bitCount_0f7a4_28 : decode cJ6_bitCount_0f7a4 28 = .ok (.iadd, 1) := by decide +kernel
theorem dJ6_bitCount_0f7a4_29 : decode cJ6_bitCount_0f7a4 29 = .ok (.ldc_w 267, 3) := by decide +kernel
theorem dJ6_bitCount_0f7a4_32 : decode cJ6_bitCount_0f7a4 32 = .ok (.iand, 1) := by decide +kernel
theorem dJ6_bitCount_0f7a4_33 : decode cJ6_bitCount_0f7a4 33 = .ok (.istore_n 0, 1) := by decide +kernel
theorem dJ6_bitCount_0f7a4_34 : decode cJ6_bitCount_0f7a4 34 = .ok (.iload_n 0, 1) := by decide +kernel
theorem dJ6_bitCount_0f7a4_35 : decode cJ6_bitCount_0f7a4 35 = .ok (.iload_n 0, 1) := by decide +kernel
theorem dJ6_bitCount_0f7a4_36 : decode cJ6_bitCount_0f7a4 36 = .ok (.bipush 8, 2) := by decide +kernel
theorem dJ6_bitCount_0f7a4_38 : decode cJ6_bitCount_0f7a4 38 = .ok (.iushr, 1) := by decide +kernel
theorem dJ6_bitCount_0f7a4_39 : decode cJ6_bitCount_0f7a4 39 = .ok (.iadd, 1) := by decide +kernel
theorem dJ6_bitCount_0f7a4_40 : decode cJ6_bitCount_0f7a4 40 = .ok (.istore_n 0, 1) := by decide +kernel
theorem dJ6_bitCount_0f7a4_41 : decode cJ6_bitCount_0f7a4 41 = .ok (.iload_n 0, 1) := by decide +kernel
theorem dJ6_bitCount_0f7a4_42 : decode cJ6_bitCount_0f7a4 42 = .ok (.iload_n 0, 1) := by decide +kernel
theorem dJ6_bitCount_0f7a4_43 : decode cJ6_bitCount_0f7a4 43 = .ok (.bipush 16, 2) := by decide +kernel
theorem dJ6_bitCount_0f7a4_45 : decode cJ6_bitCount_0f7a4 45 = .ok (.iushr, 1) := by decide +kernel
theorem dJ6_bitCount_0f7a4_46 : decode cJ6_bitCount_0f7a4 46 = .ok (.iadd, 1) := by decide +kernel
theorem dJ6_bitCount_0f7a4_47 : decode cJ6_bitCount_0f7a4 47 = .ok (.istore_n 0, 1) := by decide +kernel
theorem dJ6_bitCount_0f7a4_48 : decode cJ6_bitCount_0f7a4 48 = .ok (.iload_n 0, 1) := by decide +kernel
theorem dJ6_bitCount_0f7a4_49 : decode cJ6_bitCount_0f7a4 49 = .ok (.bipush 63, 2) := by decide +kernel
theorem dJ6_bitCount_0f7a4_51 : decode cJ6_bitCount_0f7a4 51 = .ok (.iand, 1) := by decide +kernel
theorem dJ6_bitCount_0f7a4_52 : decode cJ6_bitCount_0f7a4 52 = .ok (.ireturn, 1) := by decide +kernel
theorem dJ9_floorMod_7cf53_0 : decode cJ9_floorMod_7cf53 0 = .ok (.iload_n 0, 1) := by decide +kernel
theorem dJ9_floorMod_7cf53_1 : decode cJ9_floorMod_7cf53 1 = .ok (.iload_n 1, 1) := by decide +kernel
theorem dJ9_floorMod_7cf53_2 : decode cJ9_floorMod_7cf53 2 = .ok (.irem, 1) := by decide +kernel
theorem dJ9_floorMod_7cf53_3 : decode cJ9_floorMod_7cf53 3 = .ok (.istore_n 2, 1) := by decide +kernel
theorem dJ9_floorMod_7cf53_4 : decode cJ9_floorMod_7cf53 4 = .ok (.iload_n 0, 1) := by decide +kernel
theorem dJ9_floorMod_7cf53_5 : decode cJ9_floorMod_7cf53 5 = .ok (.iload_n 1, 1) := by decide +kernel
theorem dJ9_floorMod_7cf53_6 : decode cJ9_floorMod_7cf53 6 = .ok (.ixor, 1) := by decide +kernel
theorem dJ9_floorMod_7cf53_7 : decode cJ9_floorMod_7cf53 7 = .ok (.ifCond .ge 11, 3) := by decide +kernel
theorem dJ9_floorMod_7cf53_10 : decode cJ9_floorMod_7cf53 10 = .ok (.iload_n 2, 1) := by decide +kernel
theorem dJ9_floorMod_7cf53_11 : decode cJ9_floorMod_7cf53 11 = .ok (.ifCond .eq 7, 3) := by decide +kernel
theorem dJ9_floorMod_7cf53_14 : decode cJ9_floorMod_7cf53 14 = .ok (.iload_n 2, 1) := by decide +kernel
theorem dJ9_floorMod_7cf53_15 : decode cJ9_floorMod_7cf53 15 = .ok (.iload_n 1, 1) := by decide +kernel
theorem dJ9_floorMod_7cf53_16 : decode cJ9_floorMod_7cf53 16 = .ok (.iadd, 1) := by decide +kernel
theorem dJ9_floorMod_7cf53_17 : decode cJ9_floorMod_7cf53 17 = .ok (.ireturn, 1) := by decide +kernel
theorem dJ9_floorMod_7cf53_18 : decode cJ9_floorMod_7cf53 18 = .ok (.iload_n 2, 1) := by decide +kernel
theorem dJ9_floorMod_7cf53_19 : decode cJ9_floorMod_7cf53 19 = .ok (.ireturn, 1) := by decide +kernel
theorem dJ9_abs_0f7a4_0 : decode cJ9_abs_0f7a4 0 = .ok (.iload_n 0, 1) := by decide +kernel
theorem dJ9_abs_0f7a4_1 : decode cJ9_abs_0f7a4 1 = .ok (.ifCond .ge 8, 3) := by decide +kernel
theorem dJ9_abs_0f7a4_4 : decode cJ9_abs_0f7a4 4 = .ok (.iload_n 0, 1) := by decide +kernel
theorem dJ9_abs_0f7a4_5 : decode cJ9_abs_0f7a4 5 = .ok (.ineg, 1) := by decide +kernel
theorem dJ9_abs_0f7a4_6 : decode cJ9_abs_0f7a4 6 = .ok (.goto 4, 3) := by decide +kernel
theorem dJ9_abs_0f7a4_9 : decode cJ9_abs_0f7a4 9 = .ok (.iload_n 0, 1) := by decide +kernel
theorem dJ9_abs_0f7a4_10 : decode cJ9_abs_0f7a4 10 = .ok (.ireturn, 1) := by decide +kernel
theorem dJ9_max_7cf53_0 : decode cJ9_max_7cf53 0 = .ok (.iload_n 0, 1) := by decide +kernel
theorem dJ9_max_7cf53_1 : decode cJ9_max_7cf53 1 = .ok (.iload_n 1, 1) := by decide +kernel
theorem dJ9_max_7cf53_2 : decode cJ9_max_7cf53 2 = .ok (.if_icmp .lt 7, 3) := by decide +kernel
theorem dJ9_max_7cf53_5 : decode cJ9_max_7cf53 5 = .ok (.iload_n 0, 1) := by decide +kernel
theorem dJ9_max_7cf53_6 : decode cJ9_max_7cf53 6 = .ok (.goto 4, 3) := by decide +kernel
theorem dJ9_max_7cf53_9 : decode cJ9_max_7cf53 9 = .ok (.iload_n 1, 1) := by decide +kernel
theorem dJ9_max_7cf53_10 : decode cJ9_max_7cf53 10 = .ok (.ireturn, 1) := by decide +kernel
theorem dJ9_max_f86c9_0 : decode cJ9_max_f86c9 0 = .ok (.lload_n 0, 1) := by decide +kernel
theorem dJ9_max_f86c9_1 : decode cJ9_max_f86c9 1 = .ok (.lload_n 2, 1) := by decide +kernel
theorem dJ9_max_f86c9_2 : decode cJ9_max_f86c9 2 = .ok (.lcmp, 1) := by decide +kernel
theorem dJ9_max_f86c9_3 : decode cJ9_max_f86c9 3 = .ok (.ifCond .lt 7, 3) := by decide +kernel
theorem dJ9_max_f86c9_6 : decode cJ9_max_f86c9 6 = .ok (.lload_n 0, 1) := by decide +kernel
theorem dJ9_max_f86c9_7 : decode cJ9_max_f86c9 7 = .ok (.goto 4, 3) := by decide +kernel
theorem dJ9_max_f86c9_10 : decode cJ9_max_f86c9 10 = .ok (.lload_n 2, 1) := by decide +kernel
theorem dJ9_max_f86c9_11 : decode cJ9_max_f86c9 11 = .ok (.lreturn, 1) := by decide +kernel
theorem dJ9_min_7cf53_0 : decode cJ9_min_7cf53 0 = .ok (.iload_n 0, 1) := by decide +kernel
theorem dJ9_min_7cf53_1 : decode cJ9_min_7cf53 1 = .ok (.iload_n 1, 1) := by decide +kernel
theorem dJ9_min_7cf53_2 : decode cJ9_min_7cf53 2 = .ok (.if_icmp .gt 7, 3) := by decide +kernel
theorem dJ9_min_7cf53_5 : decode cJ9_min_7cf53 5 = .ok (.iload_n 0, 1) := by decide +kernel
theorem dJ9_min_7cf53_6 : decode cJ9_min_7cf53 6 = .ok (.goto 4, 3) := by decide +kernel
theorem dJ9_min_7cf53_9 : decode cJ9_min_7cf53 9 = .ok (.iload_n 1, 1) := by decide +kernel
theorem dJ9_min_7cf53_10 : decode cJ9_min_7cf53 10 = .ok (.ireturn, 1) := by decide +kernel
theorem dJ9_min_f86c9_0 : decode cJ9_min_f86c9 0 = .ok (.lload_n 0, 1) := by decide +kernel
theorem dJ9_min_f86c9_1 : decode cJ9_min_f86c9 1 = .ok (.lload_n 2, 1) := by decide +kernel
theorem dJ9_min_f86c9_2 : decode cJ9_min_f86c9 2 = .ok (.lcmp, 1) := by decide +kernel
theorem dJ9_min_f86c9_3 : decode cJ9_min_f86c9 3 = .ok (.ifCond .gt 7, 3) := by decide +kernel
theorem dJ9_min_f86c9_6 : decode cJ9_min_f86c9 6 = .ok (.lload_n 0, 1) := by decide +kernel
theorem dJ9_min_f86c9_7 : decode cJ9_min_f86c9 7 = .ok (.goto 4, 3) := by decide +kernel
theorem dJ9_min_f86c9_10 : decode cJ9_min_f86c9 10 = .ok (.lload_n 2, 1) := by decide +kernel
theorem dJ9_min_f86c9_11 : decode cJ9_min_f86c9 11 = .ok (.lreturn, 1) := by decide +kernel
theorem dJ0_length_8abf5_0 : decode cJ0_length_8abf5 0 = .ok (.aload_n 0, 1) := by decide +kernel
theorem dJ0_length_8abf5_1 : decode cJ0_length_8abf5 1 = .ok (.getfield 9, 3) := by decide +kernel
theorem dJ0_length_8abf5_4 : decode cJ0_length_8abf5 4 = .ok (.arraylength, 1) := by decide +kernel
theorem dJ0_length_8abf5_5 : decode cJ0_length_8abf5 5 = .ok (.aload_n 0, 1) := by decide +kernel
theorem dJ0_length_8abf5_6 : decode cJ0_length_8abf5 6 = .ok (.invokevirtual 335, 3) := by decide +kernel
theorem dJ0_length_8abf5_9 : decode cJ0_length_8abf5 9 = .ok (.ishr, 1) := by decide +kernel
theorem dJ0_length_8abf5_10 : decode cJ0_length_8abf5 10 = .ok (.ireturn, 1) := by decide +kernel
theorem dJ0_charAt_5068e_0 : decode cJ0_charAt_5068e 0 = .ok (.aload_n 0, 1) := by decide +kernel
theorem dJ0_charAt_5068e_1 : decode cJ0_charAt_5068e 1 = .ok (.invokevirtual 492, 3) := by decide +kernel
theorem dJ0_charAt_5068e_4 : decode cJ0_charAt_5068e 4 = .ok (.ifCond .eq 12, 3) := by decide +kernel
theorem dJ0_charAt_5068e_7 : decode cJ0_charAt_5068e 7 = .ok (.aload_n 0, 1) := by decide +kernel
theorem dJ0_charAt_5068e_8 : decode cJ0_charAt_5068e 8 = .ok (.getfield 9, 3) := by decide +kernel
theorem dJ0_charAt_5068e_11 : decode cJ0_charAt_5068e 11 = .ok (.iload_n 1, 1) := by decide +kernel
theorem dJ0_charAt_5068e_12 : decode cJ0_charAt_5068e 12 = .ok (.invokestatic 495, 3) := by decide +kernel
theorem dJ0_charAt_5068e_15 : decode cJ0_charAt_5068e 15 = .ok (.ireturn, 1) := by decide +kernel
theorem dJ0_charAt_5068e_16 : decode cJ0_charAt_5068e 16 = .ok (.aload_n 0, 1) := by decide +kernel
theorem dJ0_charAt_5068e_17 : decode cJ0_charAt_5068e 17 = .ok (.getfield 9, 3) := by decide +kernel
theorem dJ0_charAt_5068e_20 : decode cJ0_charAt_5068e 20 = .ok (.iload_n 1, 1) := by decide +kernel
theorem dJ0_charAt_5068e_21 : decode cJ0_charAt_5068e 21 = .ok (.invokestatic 498, 3) := by decide +kernel
theorem dJ0_charAt_5068e_24 : decode cJ0_charAt_5068e 24 = .ok (.ireturn, 1) := by decide +kernel
theorem dJ0_coder_7d493_0 : decode cJ0_coder_7d493 0 = .ok (.getstatic 38, 3) := by decide +kernel
theorem dJ0_coder_7d493_3 : decode cJ0_coder_7d493 3 = .ok (.ifCond .eq 10, 3) := by decide +kernel
theorem dJ0_coder_7d493_6 : decode cJ0_coder_7d493 6 = .ok (.aload_n 0, 1) := by decide +kernel
theorem dJ0_coder_7d493_7 : decode cJ0_coder_7d493 7 = .ok (.getfield 15, 3) := by decide +kernel
theorem dJ0_coder_7d493_10 : decode cJ0_coder_7d493 10 = .ok (.goto 4, 3) := by decide +kernel
theorem dJ0_coder_7d493_13 : decode cJ0_coder_7d493 13 = .ok (.iconst 1, 1) := by decide +kernel
theorem dJ0_coder_7d493_14 : decode cJ0_coder_7d493 14 = .ok (.ireturn, 1) := by decide +kernel
theorem dJ0_isLatin1_aae02_0 : decode cJ0_isLatin1_aae02 0 = .ok (.getstatic 38, 3) := by decide +kernel
theorem dJ0_isLatin1_aae02_3 : decode cJ0_isLatin1_aae02 3 = .ok (.ifCond .eq 14, 3) := by decide +kernel
theorem dJ0_isLatin1_aae02_6 : decode cJ0_isLatin1_aae02 6 = .ok (.aload_n 0, 1) := by decide +kernel
theorem dJ0_isLatin1_aae02_7 : decode cJ0_isLatin1_aae02 7 = .ok (.getfield 15, 3) := by decide +kernel
theorem dJ0_isLatin1_aae02_10 : decode cJ0_isLatin1_aae02 10 = .ok (.ifCond .ne 7, 3) := by decide +kernel
theorem dJ0_isLatin1_aae02_13 : decode cJ0_isLatin1_aae02 13 = .ok (.iconst 1, 1) := by decide +kernel
theorem dJ0_isLatin1_aae02_14 : decode cJ0_isLatin1_aae02 14 = .ok (.goto 4, 3) := by decide +kernel
theorem dJ0_isLatin1_aae02_17 : decode cJ0_isLatin1_aae02 17 = .ok (.iconst 0, 1) := by decide +kernel
theorem dJ0_isLatin1_aae02_18 : decode cJ0_isLatin1_aae02 18 = .ok (.ireturn, 1) := by decide +kernel
theorem dJ0_checkIndex_df160_0 : decode cJ0_checkIndex_df160 0 = .ok (.iload_n 0, 1) := by decide +kernel
theorem dJ0_checkIndex_df160_1 : decode cJ0_checkIndex_df160 1 = .ok (.iload_n 1, 1) := by decide +kernel
theorem dJ0_checkIndex_df160_2 : decode cJ0_checkIndex_df160 2 = .ok (.getstatic 1053, 3) := by decide +kernel
theorem dJ0_checkIndex_df160_5 : decode cJ0_checkIndex_df160 5 = .ok (.invokestatic 1059, 3) := by decide +kernel
theorem dJ0_checkIndex_df160_8 : decode cJ0_checkIndex_df160 8 = .ok (.pop, 1) := by decide +kernel
theorem dJ0_checkIndex_df160_9 : decode cJ0_checkIndex_df160 9 = .ok (.return_, 1) := by decide +kernel
theorem dJ1_charAt_3b067_0 : decode cJ1_charAt_3b067 0 = .ok (.iload_n 1, 1) := by decide +kernel
theorem dJ1_charAt_3b067_1 : decode cJ1_charAt_3b067 1 = .ok (.aload_n 0, 1) := by decide +kernel
theorem dJ1_charAt_3b067_2 : decode cJ1_charAt_3b067 2 = .ok (.arraylength, 1) := by decide +kernel
theorem dJ1_charAt_3b067_3 : decode cJ1_charAt_3b067 3 = .ok (.invokestatic 9, 3) := by decide +kernel
theorem dJ1_charAt_3b067_6 : decode cJ1_charAt_3b067 6 = .ok (.aload_n 0, 1) := by decide +kernel
theorem dJ1_charAt_3b067_7 : decode cJ1_charAt_3b067 7 = .ok (.iload_n 1, 1) := by decide +kernel
theorem dJ1_charAt_3b067_8 : decode cJ1_charAt_3b067 8 = .ok (.baload, 1) := by decide +kernel
theorem dJ1_charAt_3b067_9 : decode cJ1_charAt_3b067 9 = .ok (.sipush 255, 3) := by decide +kernel
theorem dJ1_charAt_3b067_12 : decode cJ1_charAt_3b067 12 = .ok (.iand, 1) := by decide +kernel
theorem dJ1_charAt_3b067_13 : decode cJ1_charAt_3b067 13 = .ok (.i2c, 1) := by decide +kernel
theorem dJ1_charAt_3b067_14 : decode cJ1_charAt_3b067 14 = .ok (.ireturn, 1) := by decide +kernel
theorem dJ2_getChar_3b067_0 : decode cJ2_getChar_3b067 0 = .ok (.getstatic 44, 3) := by decide +kernel
theorem dJ2_getChar_3b067_3 : decode cJ2_getChar_3b067 3 = .ok (.ifCond .ne 25, 3) := by decide +kernel
theorem dJ2_getChar_3b067_6 : decode cJ2_getChar_3b067 6 = .ok (.iload_n 1, 1) := by decide +kernel
theorem dJ2_getChar_3b067_7 : decode cJ2_getChar_3b067 7 = .ok (.ifCond .lt 11, 3) := by decide +kernel
theorem dJ2_getChar_3b067_10 : decode cJ2_getChar_3b067 10 = .ok (.iload_n 1, 1) := by decide +kernel
theorem dJ2_getChar_3b067_11 : decode cJ2_getChar_3b067 11 = .ok (.aload_n 0, 1) := by decide +kernel
theorem dJ2_getChar_3b067_12 : decode cJ2_getChar_3b067 12 = .ok (.invokestatic 48, 3) := by decide +kernel
theorem dJ2_getChar_3b067_15 : decode cJ2_getChar_3b067 15 = .ok (.if_icmp .lt 13, 3) := by decide +kernel
theorem dJ2_getChar_3b067_18 : decode cJ2_getChar_3b067 18 = .ok (.new 52, 3) := by decide +kernel
theorem dJ2_getChar_3b067_21 : decode cJ2_getChar_3b067 21 = .ok (.dup, 1) := by decide +kernel
theorem dJ2_getChar_3b067_22 : decode cJ2_getChar_3b067 22 = .ok (.ldc 54, 2) := by decide +kernel
theorem dJ2_getChar_3b067_24 : decode cJ2_getChar_3b067 24 = .ok (.invokespecial 56, 3) := by decide +kernel
theorem dJ2_getChar_3b067_27 : decode cJ2_getChar_3b067 27 = .ok (.athrow, 1) := by decide +kernel
theorem dJ2_getChar_3b067_28 : decode cJ2_getChar_3b067 28 = .ok (.iload_n 1, 1) := by decide +kernel
theorem dJ2_getChar_3b067_29 : decode cJ2_getChar_3b067 29 = .ok (.iconst 1, 1) := by decide +kernel
theorem dJ2_getChar_3b067_30 : decode cJ2_getChar_3b067 30 = .ok (.ishl, 1) := by decide +kernel
theorem dJ2_getChar_3b067_31 : decode cJ2_getChar_3b067 31 = .ok (.istore_n 1, 1) := by decide +kernel
theorem dJ2_getChar_3b067_32 : decode cJ2_getChar_3b067 32 = .ok (.aload_n 0, 1) := by decide +kernel
theorem dJ2_getChar_3b067_33 : decode cJ2_getChar_3b067 33 = .ok (.iload_n 1, 1) := by decide +kernel
theorem dJ2_getChar_3b067_34 : decode cJ2_getChar_3b067 34 = .ok (.iinc 1 1, 3) := by decide +kernel
theorem dJ2_getChar_3b067_37 : decode cJ2_getChar_3b067 37 = .ok (.baload, 1) := by decide +kernel
theorem dJ2_getChar_3b067_38 : decode cJ2_getChar_3b067 38 = .ok (.sipush 255, 3) := by decide +kernel
theorem dJ2_getChar_3b067_41 : decode cJ2_getChar_3b067 41 = .ok (.iand, 1) := by decide +kernel
theorem dJ2_getChar_3b067_42 : decode cJ2_getChar_3b067 42 = .ok (.getstatic 59, 3) := by decide +kernel
theorem dJ2_getChar_3b067_45 : decode cJ2_getChar_3b067 45 = .ok (.ishl, 1) := by decide +kernel
theorem dJ2_getChar_3b067_46 : decode cJ2_getChar_3b067 46 = .ok (.aload_n 0, 1) := by decide +kernel
theorem dJ2_getChar_3b067_47 : decode cJ2_getChar_3b067 47 = .ok (.iload_n 1, 1) := by decide +kernel
theorem dJ2_getChar_3b067_48 : decode cJ2_getChar_3b067 48 = .ok (.baload, 1) := by decide +kernel
theorem dJ2_getChar_3b067_49 : decode cJ2_getChar_3b067 49 = .ok (.sipush 255, 3) := by decide +kernel
theorem dJ2_getChar_3b067_52 : decode cJ2_getChar_3b067 52 = .ok (.iand, 1) := by decide +kernel
theorem dJ2_getChar_3b067_53 : decode cJ2_getChar_3b067 53 = .ok (.getstatic 63, 3) := by decide +kernel
theorem dJ2_getChar_3b067_56 : decode cJ2_getChar_3b067 56 = .ok (.ishl, 1) := by decide +kernel
theorem dJ2_getChar_3b067_57 : decode cJ2_getChar_3b067 57 = .ok (.ior, 1) := by decide +kernel
theorem dJ2_getChar_3b067_58 : decode cJ2_getChar_3b067 58 = .ok (.i2c, 1) := by decide +kernel
theorem dJ2_getChar_3b067_59 : decode cJ2_getChar_3b067 59 = .ok (.ireturn, 1) := by decide +kernel
theorem dJ2_length_9d52b_0 : decode cJ2_length_9d52b 0 = .ok (.aload_n 0, 1) := by decide +kernel
theorem dJ2_length_9d52b_1 : decode cJ2_length_9d52b 1 = .ok (.arraylength, 1) := by decide +kernel
theorem dJ2_length_9d52b_2 : decode cJ2_length_9d52b 2 = .ok (.iconst 1, 1) := by decide +kernel
theorem dJ2_length_9d52b_3 : decode cJ2_length_9d52b 3 = .ok (.ishr, 1) := by decide +kernel
theorem dJ2_length_9d52b_4 : decode cJ2_length_9d52b 4 = .ok (.ireturn, 1) := by decide +kernel
theorem dJ2_charAt_3b067_0 : decode cJ2_charAt_3b067 0 = .ok (.iload_n 1, 1) := by decide +kernel
theorem dJ2_charAt_3b067_1 : decode cJ2_charAt_3b067 1 = .ok (.aload_n 0, 1) := by decide +kernel
theorem dJ2_charAt_3b067_2 : decode cJ2_charAt_3b067 2 = .ok (.invokestatic 67, 3) := by decide +kernel
theorem dJ2_charAt_3b067_5 : decode cJ2_charAt_3b067 5 = .ok (.aload_n 0, 1) := by decide +kernel
theorem dJ2_charAt_3b067_6 : decode cJ2_charAt_3b067 6 = .ok (.iload_n 1, 1) := by decide +kernel
theorem dJ2_charAt_3b067_7 : decode cJ2_charAt_3b067 7 = .ok (.invokestatic 71, 3) := by decide +kernel
theorem dJ2_charAt_3b067_10 : decode cJ2_charAt_3b067 10 = .ok (.ireturn, 1) := by decide +kernel
theorem dJ2_checkIndex_2214a_0 : decode cJ2_checkIndex_2214a 0 = .ok (.iload_n 0, 1) := by decide +kernel
theorem dJ2_checkIndex_2214a_1 : decode cJ2_checkIndex_2214a 1 = .ok (.aload_n 1, 1) := by decide +kernel
theorem dJ2_checkIndex_2214a_2 : decode cJ2_checkIndex_2214a 2 = .ok (.invokestatic 48, 3) := by decide +kernel
theorem dJ2_checkIndex_2214a_5 : decode cJ2_checkIndex_2214a 5 = .ok (.invokestatic 414, 3) := by decide +kernel
theorem dJ2_checkIndex_2214a_8 : decode cJ2_checkIndex_2214a 8 = .ok (.return_, 1) := by decide +kernel
theorem dJ3_checkIndex_8e157_0 : decode cJ3_checkIndex_8e157 0 = .ok (.iload_n 0, 1) := by decide +kernel
theorem dJ3_checkIndex_8e157_1 : decode cJ3_checkIndex_8e157 1 = .ok (.ifCond .lt 8, 3) := by decide +kernel
theorem dJ3_checkIndex_8e157_4 : decode cJ3_checkIndex_8e157 4 = .ok (.iload_n 0, 1) := by decide +kernel
theorem dJ3_checkIndex_8e157_5 : decode cJ3_checkIndex_8e157 5 = .ok (.iload_n 1, 1) := by decide +kernel
theorem dJ3_checkIndex_8e157_6 : decode cJ3_checkIndex_8e157 6 = .ok (.if_icmp .lt 10, 3) := by decide +kernel
theorem dJ3_checkIndex_8e157_9 : decode cJ3_checkIndex_8e157 9 = .ok (.aload_n 2, 1) := by decide +kernel
theorem dJ3_checkIndex_8e157_10 : decode cJ3_checkIndex_8e157 10 = .ok (.iload_n 0, 1) := by decide +kernel
theorem dJ3_checkIndex_8e157_11 : decode cJ3_checkIndex_8e157 11 = .ok (.iload_n 1, 1) := by decide +kernel
theorem dJ3_checkIndex_8e157_12 : decode cJ3_checkIndex_8e157 12 = .ok (.invokestatic 95, 3) := by decide +kernel
theorem dJ3_checkIndex_8e157_15 : decode cJ3_checkIndex_8e157 15 = .ok (.athrow, 1) := by decide +kernel
theorem dJ3_checkIndex_8e157_16 : decode cJ3_checkIndex_8e157 16 = .ok (.iload_n 0, 1) := by decide +kernel
theorem dJ3_checkIndex_8e157_17 : decode cJ3_checkIndex_8e157 17 = .ok (.ireturn, 1) := by decide +kernel
theorem dL_load_0 : decode cL_load 0 = .ok (.aload_n 2, 1) := by decide +kernel
theorem dL_load_1 : decode cL_load 1 = .ok (.iconst 0, 1) := by decide +kernel
theorem dL_load_2 : decode cL_load 2 = .ok (.aload_n 0, 1) := by decide +kernel
theorem dL_load_3 : decode cL_load 3 = .ok (.iload_n 1, 1) := by decide +kernel
theorem dL_load_4 : decode cL_load 4 = .ok (.invokevirtual 7, 3) := by decide +kernel
theorem dL_load_7 : decode cL_load 7 = .ok (.i2l, 1) := by decide +kernel
theorem dL_load_8 : decode cL_load 8 = .ok (.lastore, 1) := by decide +kernel
theorem dL_load_9 : decode cL_load 9 = .ok (.goto 9, 3) := by decide +kernel
theorem dL_load_12 : decode cL_load 12 = .ok (.astore_n 3, 1) := by decide +kernel
theorem dL_load_13 : decode cL_load 13 = .ok (.iconst 1, 1) := by decide +kernel
theorem dL_load_14 : decode cL_load 14 = .ok (.ireturn, 1) := by decide +kernel
theorem dL_load_15 : decode cL_load 15 = .ok (.astore_n 3, 1) := by decide +kernel
theorem dL_load_16 : decode cL_load 16 = .ok (.iconst 2, 1) := by decide +kernel
theorem dL_load_17 : decode cL_load 17 = .ok (.ireturn, 1) := by decide +kernel
theorem dL_load_18 : decode cL_load 18 = .ok (.iconst 0, 1) := by decide +kernel
theorem dL_load_19 : decode cL_load 19 = .ok (.ireturn, 1) := by decide +kernel
theorem dL_wall_0 : decode cL_wall 0 = .ok (.aload_n 1, 1) := by decide +kernel
theorem dL_wall_1 : decode cL_wall 1 = .ok (.iconst 0, 1) := by decide +kernel
theorem dL_wall_2 : decode cL_wall 2 = .ok (.aload_n 0, 1) := by decide +kernel
theorem dL_wall_3 : decode cL_wall 3 = .ok (.invokevirtual 17, 3) := by decide +kernel
theorem dL_wall_6 : decode cL_wall 6 = .ok (.i2l, 1) := by decide +kernel
theorem dL_wall_7 : decode cL_wall 7 = .ok (.lastore, 1) := by decide +kernel
theorem dL_wall_8 : decode cL_wall 8 = .ok (.goto 6, 3) := by decide +kernel
theorem dL_wall_11 : decode cL_wall 11 = .ok (.astore_n 2, 1) := by decide +kernel
theorem dL_wall_12 : decode cL_wall 12 = .ok (.iconst 1, 1) := by decide +kernel
theorem dL_wall_13 : decode cL_wall 13 = .ok (.ireturn, 1) := by decide +kernel
theorem dL_wall_14 : decode cL_wall 14 = .ok (.iconst 0, 1) := by decide +kernel
theorem dL_wall_15 : decode cL_wall 15 = .ok (.ireturn, 1) := by decide +kernel
theorem dL_openRows_0 : decode cL_openRows 0 = .ok (.aload_n 1, 1) := by decide +kernel
theorem dL_openRows_1 : decode cL_openRows 1 = .ok (.iconst 0, 1) := by decide +kernel
theorem dL_openRows_2 : decode cL_openRows 2 = .ok (.aload_n 0, 1) := by decide +kernel
theorem dL_openRows_3 : decode cL_openRows 3 = .ok (.invokevirtual 23, 3) := by decide +kernel
theorem dL_openRows_6 : decode cL_openRows 6 = .ok (.i2l, 1) := by decide +kernel
theorem dL_openRows_7 : decode cL_openRows 7 = .ok (.lastore, 1) := by decide +kernel
theorem dL_openRows_8 : decode cL_openRows 8 = .ok (.goto 6, 3) := by decide +kernel
theorem dL_openRows_11 : decode cL_openRows 11 = .ok (.astore_n 2, 1) := by decide +kernel
theorem dL_openRows_12 : decode cL_openRows 12 = .ok (.iconst 1, 1) := by decide +kernel
theorem dL_openRows_13 : decode cL_openRows 13 = .ok (.ireturn, 1) := by decide +kernel
theorem dL_openRows_14 : decode cL_openRows 14 = .ok (.iconst 0, 1) := by decide +kernel
theorem dL_openRows_15 : decode cL_openRows 15 = .ok (.ireturn, 1) := by decide +kernel
theorem dL_isOpen_0 : decode cL_isOpen 0 = .ok (.aload_n 2, 1) := by decide +kernel
theorem dL_isOpen_1 : decode cL_isOpen 1 = .ok (.iconst 0, 1) := by decide +kernel
theorem dL_isOpen_2 : decode cL_isOpen 2 = .ok (.aload_n 0, 1) := by decide +kernel
theorem dL_isOpen_3 : decode cL_isOpen 3 = .ok (.iload_n 1, 1) := by decide +kernel
theorem dL_isOpen_4 : decode cL_isOpen 4 = .ok (.invokevirtual 26, 3) := by decide +kernel
theorem dL_isOpen_7 : decode cL_isOpen 7 = .ok (.ifCond .eq 7, 3) := by decide +kernel
theorem dL_isOpen_10 : decode cL_isOpen 10 = .ok (.lconst 1, 1) := by decide +kernel
theorem dL_isOpen_11 : decode cL_isOpen 11 = .ok (.goto 4, 3) := by decide +kernel
theorem dL_isOpen_14 : decode cL_isOpen 14 = .ok (.lconst 0, 1) := by decide +kernel
theorem dL_isOpen_15 : decode cL_isOpen 15 = .ok (.lastore, 1) := by decide +kernel
theorem dL_isOpen_16 : decode cL_isOpen 16 = .ok (.goto 9, 3) := by decide +kernel
theorem dL_isOpen_19 : decode cL_isOpen 19 = .ok (.astore_n 3, 1) := by decide +kernel
theorem dL_isOpen_20 : decode cL_isOpen 20 = .ok (.iconst 1, 1) := by decide +kernel
theorem dL_isOpen_21 : decode cL_isOpen 21 = .ok (.ireturn, 1) := by decide +kernel
theorem dL_isOpen_22 : decode cL_isOpen 22 = .ok (.astore_n 3, 1) := by decide +kernel
theorem dL_isOpen_23 : decode cL_isOpen 23 = .ok (.iconst 2, 1) := by decide +kernel
theorem dL_isOpen_24 : decode cL_isOpen 24 = .ok (.ireturn, 1) := by decide +kernel
theorem dL_isOpen_25 : decode cL_isOpen 25 = .ok (.iconst 0, 1) := by decide +kernel
theorem dL_isOpen_26 : decode cL_isOpen 26 = .ok (.ireturn, 1) := by decide +kernel
theorem dL_sourceAt_0 : decode cL_sourceAt 0 = .ok (.aload 4, 2) := by decide +kernel
theorem dL_sourceAt_2 : decode cL_sourceAt 2 = .ok (.iconst 0, 1) := by decide +kernel
theorem dL_sourceAt_3 : decode cL_sourceAt 3 = .ok (.aload_n 0, 1) := by decide +kernel
theorem dL_sourceAt_4 : decode cL_sourceAt 4 = .ok (.iload_n 1, 1) := by decide +kernel
theorem dL_sourceAt_5 : decode cL_sourceAt 5 = .ok (.iload_n 2, 1) := by decide +kernel
theorem dL_sourceAt_6 : decode cL_sourceAt 6 = .ok (.iload_n 3, 1) := by decide +kernel
theorem dL_sourceAt_7 : decode cL_sourceAt 7 = .ok (.invokevirtual 30, 3) := by decide +kernel
theorem dL_sourceAt_10 : decode cL_sourceAt 10 = .ok (.i2l, 1) := by decide +kernel
theorem dL_sourceAt_11 : decode cL_sourceAt 11 = .ok (.lastore, 1) := by decide +kernel
theorem dL_sourceAt_12 : decode cL_sourceAt 12 = .ok (.goto 15, 3) := by decide +kernel
theorem dL_sourceAt_15 : decode cL_sourceAt 15 = .ok (.astore 5, 2) := by decide +kernel
theorem dL_sourceAt_17 : decode cL_sourceAt 17 = .ok (.iconst 1, 1) := by decide +kernel
theorem dL_sourceAt_18 : decode cL_sourceAt 18 = .ok (.ireturn, 1) := by decide +kernel
theorem dL_sourceAt_19 : decode cL_sourceAt 19 = .ok (.astore 5, 2) := by decide +kernel
theorem dL_sourceAt_21 : decode cL_sourceAt 21 = .ok (.iconst 2, 1) := by decide +kernel
theorem dL_sourceAt_22 : decode cL_sourceAt 22 = .ok (.ireturn, 1) := by decide +kernel
theorem dL_sourceAt_23 : decode cL_sourceAt 23 = .ok (.astore 5, 2) := by decide +kernel
theorem dL_sourceAt_25 : decode cL_sourceAt 25 = .ok (.iconst 3, 1) := by decide +kernel
theorem dL_sourceAt_26 : decode cL_sourceAt 26 = .ok (.ireturn, 1) := by decide +kernel
theorem dL_sourceAt_27 : decode cL_sourceAt 27 = .ok (.iconst 0, 1) := by decide +kernel
theorem dL_sourceAt_28 : decode cL_sourceAt 28 = .ok (.ireturn, 1) := by decide +kernel
theorem dL_property_0 : decode cL_property 0 = .ok (.aload_n 3, 1) := by decide +kernel
theorem dL_property_1 : decode cL_property 1 = .ok (.iconst 0, 1) := by decide +kernel
theorem dL_property_2 : decode cL_property 2 = .ok (.aload_n 0, 1) := by decide +kernel
theorem dL_property_3 : decode cL_property 3 = .ok (.iload_n 1, 1) := by decide +kernel
theorem dL_property_4 : decode cL_property 4 = .ok (.iload_n 2, 1) := by decide +kernel
theorem dL_property_5 : decode cL_property 5 = .ok (.invokevirtual 34, 3) := by decide +kernel
theorem dL_property_8 : decode cL_property 8 = .ok (.i2l, 1) := by decide +kernel
theorem dL_property_9 : decode cL_property 9 = .ok (.lastore, 1) := by decide +kernel
theorem dL_property_10 : decode cL_property 10 = .ok (.goto 15, 3) := by decide +kernel
theorem dL_property_13 : decode cL_property 13 = .ok (.astore 4, 2) := by decide +kernel
theorem dL_property_15 : decode cL_property 15 = .ok (.iconst 1, 1) := by decide +kernel
theorem dL_property_16 : decode cL_property 16 = .ok (.ireturn, 1) := by decide +kernel
theorem dL_property_17 : decode cL_property 17 = .ok (.astore 4, 2) := by decide +kernel
theorem dL_property_19 : decode cL_property 19 = .ok (.iconst 2, 1) := by decide +kernel
theorem dL_property_20 : decode cL_property 20 = .ok (.ireturn, 1) := by decide +kernel
theorem dL_property_21 : decode cL_property 21 = .ok (.astore 4, 2) := by decide +kernel
theorem dL_property_23 : decode cL_property 23 = .ok (.iconst 3, 1) := by decide +kernel
theorem dL_property_24 : decode cL_property 24 = .ok (.ireturn, 1) := by decide +kernel
theorem dL_property_25 : decode cL_property 25 = .ok (.iconst 0, 1) := by decide +kernel
theorem dL_property_26 : decode cL_property 26 = .ok (.ireturn, 1) := by decide +kernel
theorem dL_isOn_0 : decode cL_isOn 0 = .ok (.aload_n 2, 1) := by decide +kernel
theorem dL_isOn_1 : decode cL_isOn 1 = .ok (.iconst 0, 1) := by decide +kernel
theorem dL_isOn_2 : decode cL_isOn 2 = .ok (.aload_n 0, 1) := by decide +kernel
theorem dL_isOn_3 : decode cL_isOn 3 = .ok (.iload_n 1, 1) := by decide +kernel
theorem dL_isOn_4 : decode cL_isOn 4 = .ok (.invokevirtual 38, 3) := by decide +kernel
theorem dL_isOn_7 : decode cL_isOn 7 = .ok (.ifCond .eq 7, 3) := by decide +kernel
theorem dL_isOn_10 : decode cL_isOn 10 = .ok (.lconst 1, 1) := by decide +kernel
theorem dL_isOn_11 : decode cL_isOn 11 = .ok (.goto 4, 3) := by decide +kernel
theorem dL_isOn_14 : decode cL_isOn 14 = .ok (.lconst 0, 1) := by decide +kernel
theorem dL_isOn_15 : decode cL_isOn 15 = .ok (.lastore, 1) := by decide +kernel
theorem dL_isOn_16 : decode cL_isOn 16 = .ok (.goto 9, 3) := by decide +kernel
theorem dL_isOn_19 : decode cL_isOn 19 = .ok (.astore_n 3, 1) := by decide +kernel
theorem dL_isOn_20 : decode cL_isOn 20 = .ok (.iconst 1, 1) := by decide +kernel
theorem dL_isOn_21 : decode cL_isOn 21 = .ok (.ireturn, 1) := by decide +kernel
theorem dL_isOn_22 : decode cL_isOn 22 = .ok (.astore_n 3, 1) := by decide +kernel
theorem dL_isOn_23 : decode cL_isOn 23 = .ok (.iconst 2, 1) := by decide +kernel
theorem dL_isOn_24 : decode cL_isOn 24 = .ok (.ireturn, 1) := by decide +kernel
theorem dL_isOn_25 : decode cL_isOn 25 = .ok (.iconst 0, 1) := by decide +kernel
theorem dL_isOn_26 : decode cL_isOn 26 = .ok (.ireturn, 1) := by decide +kernel
theorem dL_amplitude_0 : decode cL_amplitude 0 = .ok (.aload_n 3, 1) := by decide +kernel
theorem dL_amplitude_1 : decode cL_amplitude 1 = .ok (.iconst 0, 1) := by decide +kernel
theorem dL_amplitude_2 : decode cL_amplitude 2 = .ok (.aload_n 0, 1) := by decide +kernel
theorem dL_amplitude_3 : decode cL_amplitude 3 = .ok (.iload_n 1, 1) := by decide +kernel
theorem dL_amplitude_4 : decode cL_amplitude 4 = .ok (.iload_n 2, 1) := by decide +kernel
theorem dL_amplitude_5 : decode cL_amplitude 5 = .ok (.invokevirtual 41, 3) := by decide +kernel
theorem dL_amplitude_8 : decode cL_amplitude 8 = .ok (.i2l, 1) := by decide +kernel
theorem dL_amplitude_9 : decode cL_amplitude 9 = .ok (.lastore, 1) := by decide +kernel
theorem dL_amplitude_10 : decode cL_amplitude 10 = .ok (.goto 15, 3) := by decide +kernel
theorem dL_amplitude_13 : decode cL_amplitude 13 = .ok (.astore 4, 2) := by decide +kernel
theorem dL_amplitude_15 : decode cL_amplitude 15 = .ok (.iconst 1, 1) := by decide +kernel
theorem dL_amplitude_16 : decode cL_amplitude 16 = .ok (.ireturn, 1) := by decide +kernel
theorem dL_amplitude_17 : decode cL_amplitude 17 = .ok (.astore 4, 2) := by decide +kernel
theorem dL_amplitude_19 : decode cL_amplitude 19 = .ok (.iconst 2, 1) := by decide +kernel
theorem dL_amplitude_20 : decode cL_amplitude 20 = .ok (.ireturn, 1) := by decide +kernel
theorem dL_amplitude_21 : decode cL_amplitude 21 = .ok (.astore 4, 2) := by decide +kernel
theorem dL_amplitude_23 : decode cL_amplitude 23 = .ok (.iconst 3, 1) := by decide +kernel
theorem dL_amplitude_24 : decode cL_amplitude 24 = .ok (.ireturn, 1) := by decide +kernel
theorem dL_amplitude_25 : decode cL_amplitude 25 = .ok (.iconst 0, 1) := by decide +kernel
theorem dL_amplitude_26 : decode cL_amplitude 26 = .ok (.ireturn, 1) := by decide +kernel
theorem dL_sine_0 : decode cL_sine 0 = .ok (.aload_n 2, 1) := by decide +kernel
theorem dL_sine_1 : decode cL_sine 1 = .ok (.iconst 0, 1) := by decide +kernel
theorem dL_sine_2 : decode cL_sine 2 = .ok (.aload_n 0, 1) := by decide +kernel
theorem dL_sine_3 : decode cL_sine 3 = .ok (.iload_n 1, 1) := by decide +kernel
theorem dL_sine_4 : decode cL_sine 4 = .ok (.invokevirtual 44, 3) := by decide +kernel
theorem dL_sine_7 : decode cL_sine 7 = .ok (.i2l, 1) := by decide +kernel
theorem dL_sine_8 : decode cL_sine 8 = .ok (.lastore, 1) := by decide +kernel
theorem dL_sine_9 : decode cL_sine 9 = .ok (.goto 6, 3) := by decide +kernel
theorem dL_sine_12 : decode cL_sine 12 = .ok (.astore_n 3, 1) := by decide +kernel
theorem dL_sine_13 : decode cL_sine 13 = .ok (.iconst 1, 1) := by decide +kernel
theorem dL_sine_14 : decode cL_sine 14 = .ok (.ireturn, 1) := by decide +kernel
theorem dL_sine_15 : decode cL_sine 15 = .ok (.iconst 0, 1) := by decide +kernel
theorem dL_sine_16 : decode cL_sine 16 = .ok (.ireturn, 1) := by decide +kernel
theorem dL_distance_0 : decode cL_distance 0 = .ok (.aload_n 3, 1) := by decide +kernel
theorem dL_distance_1 : decode cL_distance 1 = .ok (.iconst 0, 1) := by decide +kernel
theorem dL_distance_2 : decode cL_distance 2 = .ok (.aload_n 0, 1) := by decide +kernel
theorem dL_distance_3 : decode cL_distance 3 = .ok (.iload_n 1, 1) := by decide +kernel
theorem dL_distance_4 : decode cL_distance 4 = .ok (.iload_n 2, 1) := by decide +kernel
theorem dL_distance_5 : decode cL_distance 5 = .ok (.invokevirtual 47, 3) := by decide +kernel
theorem dL_distance_8 : decode cL_distance 8 = .ok (.i2l, 1) := by decide +kernel
theorem dL_distance_9 : decode cL_distance 9 = .ok (.lastore, 1) := by decide +kernel
theorem dL_distance_10 : decode cL_distance 10 = .ok (.goto 7, 3) := by decide +kernel
theorem dL_distance_13 : decode cL_distance 13 = .ok (.astore 4, 2) := by decide +kernel
theorem dL_distance_15 : decode cL_distance 15 = .ok (.iconst 1, 1) := by decide +kernel
theorem dL_distance_16 : decode cL_distance 16 = .ok (.ireturn, 1) := by decide +kernel
theorem dL_distance_17 : decode cL_distance 17 = .ok (.iconst 0, 1) := by decide +kernel
theorem dL_distance_18 : decode cL_distance 18 = .ok (.ireturn, 1) := by decide +kernel
theorem dL_isBehind_0 : decode cL_isBehind 0 = .ok (.aload 4, 2) := by decide +kernel
theorem dL_isBehind_2 : decode cL_isBehind 2 = .ok (.iconst 0, 1) := by decide +kernel
theorem dL_isBehind_3 : decode cL_isBehind 3 = .ok (.aload_n 0, 1) := by decide +kernel
theorem dL_isBehind_4 : decode cL_isBehind 4 = .ok (.iload_n 1, 1) := by decide +kernel
theorem dL_isBehind_5 : decode cL_isBehind 5 = .ok (.iload_n 2, 1) := by decide +kernel
theorem dL_isBehind_6 : decode cL_isBehind 6 = .ok (.iload_n 3, 1) := by decide +kernel
theorem dL_isBehind_7 : decode cL_isBehind 7 = .ok (.invokevirtual 50, 3) := by decide +kernel
theorem dL_isBehind_10 : decode cL_isBehind 10 = .ok (.ifCond .eq 7, 3) := by decide +kernel
theorem dL_isBehind_13 : decode cL_isBehind 13 = .ok (.lconst 1, 1) := by decide +kernel
theorem dL_isBehind_14 : decode cL_isBehind 14 = .ok (.goto 4, 3) := by decide +kernel
theorem dL_isBehind_17 : decode cL_isBehind 17 = .ok (.lconst 0, 1) := by decide +kernel
theorem dL_isBehind_18 : decode cL_isBehind 18 = .ok (.lastore, 1) := by decide +kernel
theorem dL_isBehind_19 : decode cL_isBehind 19 = .ok (.goto 11, 3) := by decide +kernel
theorem dL_isBehind_22 : decode cL_isBehind 22 = .ok (.astore 5, 2) := by decide +kernel
theorem dL_isBehind_24 : decode cL_isBehind 24 = .ok (.iconst 1, 1) := by decide +kernel
theorem dL_isBehind_25 : decode cL_isBehind 25 = .ok (.ireturn, 1) := by decide +kernel
theorem dL_isBehind_26 : decode cL_isBehind 26 = .ok (.astore 5, 2) := by decide +kernel
theorem dL_isBehind_28 : decode cL_isBehind 28 = .ok (.iconst 2, 1) := by decide +kernel
theorem dL_isBehind_29 : decode cL_isBehind 29 = .ok (.ireturn, 1) := by decide +kernel
theorem dL_isBehind_30 : decode cL_isBehind 30 = .ok (.iconst 0, 1) := by decide +kernel
theorem dL_isBehind_31 : decode cL_isBehind 31 = .ok (.ireturn, 1) := by decide +kernel
theorem dL_path_0 : decode cL_path 0 = .ok (.aload 5, 2) := by decide +kernel
theorem dL_path_2 : decode cL_path 2 = .ok (.iconst 0, 1) := by decide +kernel
theorem dL_path_3 : decode cL_path 3 = .ok (.aload_n 0, 1) := by decide +kernel
theorem dL_path_4 : decode cL_path 4 = .ok (.iload_n 1, 1) := by decide +kernel
theorem dL_path_5 : decode cL_path 5 = .ok (.iload_n 2, 1) := by decide +kernel
theorem dL_path_6 : decode cL_path 6 = .ok (.iload_n 3, 1) := by decide +kernel
theorem dL_path_7 : decode cL_path 7 = .ok (.iload 4, 2) := by decide +kernel
theorem dL_path_9 : decode cL_path 9 = .ok (.invokevirtual 54, 3) := by decide +kernel
theorem dL_path_12 : decode cL_path 12 = .ok (.i2l, 1) := by decide +kernel
theorem dL_path_13 : decode cL_path 13 = .ok (.lastore, 1) := by decide +kernel
theorem dL_path_14 : decode cL_path 14 = .ok (.goto 11, 3) := by decide +kernel
theorem dL_path_17 : decode cL_path 17 = .ok (.astore 6, 2) := by decide +kernel
theorem dL_path_19 : decode cL_path 19 = .ok (.iconst 1, 1) := by decide +kernel
theorem dL_path_20 : decode cL_path 20 = .ok (.ireturn, 1) := by decide +kernel
theorem dL_path_21 : decode cL_path 21 = .ok (.astore 6, 2) := by decide +kernel
theorem dL_path_23 : decode cL_path 23 = .ok (.iconst 2, 1) := by decide +kernel
theorem dL_path_24 : decode cL_path 24 = .ok (.ireturn, 1) := by decide +kernel
theorem dL_path_25 : decode cL_path 25 = .ok (.iconst 0, 1) := by decide +kernel
theorem dL_path_26 : decode cL_path 26 = .ok (.ireturn, 1) := by decide +kernel
theorem dL_shortest_0 : decode cL_shortest 0 = .ok (.aload 4, 2) := by decide +kernel
theorem dL_shortest_2 : decode cL_shortest 2 = .ok (.iconst 0, 1) := by decide +kernel
theorem dL_shortest_3 : decode cL_shortest 3 = .ok (.aload_n 0, 1) := by decide +kernel
theorem dL_shortest_4 : decode cL_shortest 4 = .ok (.iload_n 1, 1) := by decide +kernel
theorem dL_shortest_5 : decode cL_shortest 5 = .ok (.iload_n 2, 1) := by decide +kernel
theorem dL_shortest_6 : decode cL_shortest 6 = .ok (.iload_n 3, 1) := by decide +kernel
theorem dL_shortest_7 : decode cL_shortest 7 = .ok (.invokevirtual 58, 3) := by decide +kernel
theorem dL_shortest_10 : decode cL_shortest 10 = .ok (.i2l, 1) := by decide +kernel
theorem dL_shortest_11 : decode cL_shortest 11 = .ok (.lastore, 1) := by decide +kernel
theorem dL_shortest_12 : decode cL_shortest 12 = .ok (.goto 11, 3) := by decide +kernel
theorem dL_shortest_15 : decode cL_shortest 15 = .ok (.astore 5, 2) := by decide +kernel
theorem dL_shortest_17 : decode cL_shortest 17 = .ok (.iconst 1, 1) := by decide +kernel
theorem dL_shortest_18 : decode cL_shortest 18 = .ok (.ireturn, 1) := by decide +kernel
theorem dL_shortest_19 : decode cL_shortest 19 = .ok (.astore 5, 2) := by decide +kernel
theorem dL_shortest_21 : decode cL_shortest 21 = .ok (.iconst 2, 1) := by decide +kernel
theorem dL_shortest_22 : decode cL_shortest 22 = .ok (.ireturn, 1) := by decide +kernel
theorem dL_shortest_23 : decode cL_shortest 23 = .ok (.iconst 0, 1) := by decide +kernel
theorem dL_shortest_24 : decode cL_shortest 24 = .ok (.ireturn, 1) := by decide +kernel
theorem dL_phase_0 : decode cL_phase 0 = .ok (.aload 4, 2) := by decide +kernel
theorem dL_phase_2 : decode cL_phase 2 = .ok (.iconst 0, 1) := by decide +kernel
theorem dL_phase_3 : decode cL_phase 3 = .ok (.aload_n 0, 1) := by decide +kernel
theorem dL_phase_4 : decode cL_phase 4 = .ok (.iload_n 1, 1) := by decide +kernel
theorem dL_phase_5 : decode cL_phase 5 = .ok (.iload_n 2, 1) := by decide +kernel
theorem dL_phase_6 : decode cL_phase 6 = .ok (.iload_n 3, 1) := by decide +kernel
theorem dL_phase_7 : decode cL_phase 7 = .ok (.invokevirtual 61, 3) := by decide +kernel
theorem dL_phase_10 : decode cL_phase 10 = .ok (.i2l, 1) := by decide +kernel
theorem dL_phase_11 : decode cL_phase 11 = .ok (.lastore, 1) := by decide +kernel
theorem dL_phase_12 : decode cL_phase 12 = .ok (.goto 11, 3) := by decide +kernel
theorem dL_phase_15 : decode cL_phase 15 = .ok (.astore 5, 2) := by decide +kernel
theorem dL_phase_17 : decode cL_phase 17 = .ok (.iconst 1, 1) := by decide +kernel
theorem dL_phase_18 : decode cL_phase 18 = .ok (.ireturn, 1) := by decide +kernel
theorem dL_phase_19 : decode cL_phase 19 = .ok (.astore 5, 2) := by decide +kernel
theorem dL_phase_21 : decode cL_phase 21 = .ok (.iconst 2, 1) := by decide +kernel
theorem dL_phase_22 : decode cL_phase 22 = .ok (.ireturn, 1) := by decide +kernel
theorem dL_phase_23 : decode cL_phase 23 = .ok (.iconst 0, 1) := by decide +kernel
theorem dL_phase_24 : decode cL_phase 24 = .ok (.ireturn, 1) := by decide +kernel
theorem dL_arrival_0 : decode cL_arrival 0 = .ok (.aload 4, 2) := by decide +kernel
theorem dL_arrival_2 : decode cL_arrival 2 = .ok (.iconst 0, 1) := by decide +kernel
theorem dL_arrival_3 : decode cL_arrival 3 = .ok (.aload_n 0, 1) := by decide +kernel
theorem dL_arrival_4 : decode cL_arrival 4 = .ok (.iload_n 1, 1) := by decide +kernel
theorem dL_arrival_5 : decode cL_arrival 5 = .ok (.iload_n 2, 1) := by decide +kernel
theorem dL_arrival_6 : decode cL_arrival 6 = .ok (.iload_n 3, 1) := by decide +kernel
theorem dL_arrival_7 : decode cL_arrival 7 = .ok (.invokevirtual 64, 3) := by decide +kernel
theorem dL_arrival_10 : decode cL_arrival 10 = .ok (.i2l, 1) := by decide +kernel
theorem dL_arrival_11 : decode cL_arrival 11 = .ok (.lastore, 1) := by decide +kernel
theorem dL_arrival_12 : decode cL_arrival 12 = .ok (.goto 11, 3) := by decide +kernel
theorem dL_arrival_15 : decode cL_arrival 15 = .ok (.astore 5, 2) := by decide +kernel
theorem dL_arrival_17 : decode cL_arrival 17 = .ok (.iconst 1, 1) := by decide +kernel
theorem dL_arrival_18 : decode cL_arrival 18 = .ok (.ireturn, 1) := by decide +kernel
theorem dL_arrival_19 : decode cL_arrival 19 = .ok (.astore 5, 2) := by decide +kernel
theorem dL_arrival_21 : decode cL_arrival 21 = .ok (.iconst 2, 1) := by decide +kernel
theorem dL_arrival_22 : decode cL_arrival 22 = .ok (.ireturn, 1) := by decide +kernel
theorem dL_arrival_23 : decode cL_arrival 23 = .ok (.iconst 0, 1) := by decide +kernel
theorem dL_arrival_24 : decode cL_arrival 24 = .ok (.ireturn, 1) := by decide +kernel
theorem dL_reached_0 : decode cL_reached 0 = .ok (.aload_n 2, 1) := by decide +kernel
theorem dL_reached_1 : decode cL_reached 1 = .ok (.iconst 0, 1) := by decide +kernel
theorem dL_reached_2 : decode cL_reached 2 = .ok (.aload_n 0, 1) := by decide +kernel
theorem dL_reached_3 : decode cL_reached 3 = .ok (.iload_n 1, 1) := by decide +kernel
theorem dL_reached_4 : decode cL_reached 4 = .ok (.invokevirtual 67, 3) := by decide +kernel
theorem dL_reached_7 : decode cL_reached 7 = .ok (.i2l, 1) := by decide +kernel
theorem dL_reached_8 : decode cL_reached 8 = .ok (.lastore, 1) := by decide +kernel
theorem dL_reached_9 : decode cL_reached 9 = .ok (.goto 9, 3) := by decide +kernel
theorem dL_reached_12 : decode cL_reached 12 = .ok (.astore_n 3, 1) := by decide +kernel
theorem dL_reached_13 : decode cL_reached 13 = .ok (.iconst 1, 1) := by decide +kernel
theorem dL_reached_14 : decode cL_reached 14 = .ok (.ireturn, 1) := by decide +kernel
theorem dL_reached_15 : decode cL_reached 15 = .ok (.astore_n 3, 1) := by decide +kernel
theorem dL_reached_16 : decode cL_reached 16 = .ok (.iconst 2, 1) := by decide +kernel
theorem dL_reached_17 : decode cL_reached 17 = .ok (.ireturn, 1) := by decide +kernel
theorem dL_reached_18 : decode cL_reached 18 = .ok (.iconst 0, 1) := by decide +kernel
theorem dL_reached_19 : decode cL_reached 19 = .ok (.ireturn, 1) := by decide +kernel
theorem dL_part_0 : decode cL_part 0 = .ok (.aload 4, 2) := by decide +kernel
theorem dL_part_2 : decode cL_part 2 = .ok (.iconst 0, 1) := by decide +kernel
theorem dL_part_3 : decode cL_part 3 = .ok (.aload_n 0, 1) := by decide +kernel
theorem dL_part_4 : decode cL_part 4 = .ok (.iload_n 1, 1) := by decide +kernel
theorem dL_part_5 : decode cL_part 5 = .ok (.iload_n 2, 1) := by decide +kernel
theorem dL_part_6 : decode cL_part 6 = .ok (.iload_n 3, 1) := by decide +kernel
theorem dL_part_7 : decode cL_part 7 = .ok (.invokevirtual 70, 3) := by decide +kernel
theorem dL_part_10 : decode cL_part 10 = .ok (.i2l, 1) := by decide +kernel
theorem dL_part_11 : decode cL_part 11 = .ok (.lastore, 1) := by decide +kernel
theorem dL_part_12 : decode cL_part 12 = .ok (.goto 11, 3) := by decide +kernel
theorem dL_part_15 : decode cL_part 15 = .ok (.astore 5, 2) := by decide +kernel
theorem dL_part_17 : decode cL_part 17 = .ok (.iconst 1, 1) := by decide +kernel
theorem dL_part_18 : decode cL_part 18 = .ok (.ireturn, 1) := by decide +kernel
theorem dL_part_19 : decode cL_part 19 = .ok (.astore 5, 2) := by decide +kernel
theorem dL_part_21 : decode cL_part 21 = .ok (.iconst 2, 1) := by decide +kernel
theorem dL_part_22 : decode cL_part 22 = .ok (.ireturn, 1) := by decide +kernel
theorem dL_part_23 : decode cL_part 23 = .ok (.iconst 0, 1) := by decide +kernel
theorem dL_part_24 : decode cL_part 24 = .ok (.ireturn, 1) := by decide +kernel
theorem dL_wave_0 : decode cL_wave 0 = .ok (.aload_n 3, 1) := by decide +kernel
theorem dL_wave_1 : decode cL_wave 1 = .ok (.iconst 0, 1) := by decide +kernel
theorem dL_wave_2 : decode cL_wave 2 = .ok (.aload_n 0, 1) := by decide +kernel
theorem dL_wave_3 : decode cL_wave 3 = .ok (.iload_n 1, 1) := by decide +kernel
theorem dL_wave_4 : decode cL_wave 4 = .ok (.iload_n 2, 1) := by decide +kernel
theorem dL_wave_5 : decode cL_wave 5 = .ok (.invokevirtual 73, 3) := by decide +kernel
theorem dL_wave_8 : decode cL_wave 8 = .ok (.i2l, 1) := by decide +kernel
theorem dL_wave_9 : decode cL_wave 9 = .ok (.lastore, 1) := by decide +kernel
theorem dL_wave_10 : decode cL_wave 10 = .ok (.goto 11, 3) := by decide +kernel
theorem dL_wave_13 : decode cL_wave 13 = .ok (.astore 4, 2) := by decide +kernel
theorem dL_wave_15 : decode cL_wave 15 = .ok (.iconst 1, 1) := by decide +kernel
theorem dL_wave_16 : decode cL_wave 16 = .ok (.ireturn, 1) := by decide +kernel
theorem dL_wave_17 : decode cL_wave 17 = .ok (.astore 4, 2) := by decide +kernel
theorem dL_wave_19 : decode cL_wave 19 = .ok (.iconst 2, 1) := by decide +kernel
theorem dL_wave_20 : decode cL_wave 20 = .ok (.ireturn, 1) := by decide +kernel
theorem dL_wave_21 : decode cL_wave 21 = .ok (.iconst 0, 1) := by decide +kernel
theorem dL_wave_22 : decode cL_wave 22 = .ok (.ireturn, 1) := by decide +kernel
theorem dL_waveAt_0 : decode cL_waveAt 0 = .ok (.aload 4, 2) := by decide +kernel
theorem dL_waveAt_2 : decode cL_waveAt 2 = .ok (.iconst 0, 1) := by decide +kernel
theorem dL_waveAt_3 : decode cL_waveAt 3 = .ok (.aload_n 0, 1) := by decide +kernel
theorem dL_waveAt_4 : decode cL_waveAt 4 = .ok (.iload_n 1, 1) := by decide +kernel
theorem dL_waveAt_5 : decode cL_waveAt 5 = .ok (.iload_n 2, 1) := by decide +kernel
theorem dL_waveAt_6 : decode cL_waveAt 6 = .ok (.iload_n 3, 1) := by decide +kernel
theorem dL_waveAt_7 : decode cL_waveAt 7 = .ok (.invokevirtual 76, 3) := by decide +kernel
theorem dL_waveAt_10 : decode cL_waveAt 10 = .ok (.i2l, 1) := by decide +kernel
theorem dL_waveAt_11 : decode cL_waveAt 11 = .ok (.lastore, 1) := by decide +kernel
theorem dL_waveAt_12 : decode cL_waveAt 12 = .ok (.goto 15, 3) := by decide +kernel
theorem dL_waveAt_15 : decode cL_waveAt 15 = .ok (.astore 5, 2) := by decide +kernel
theorem dL_waveAt_17 : decode cL_waveAt 17 = .ok (.iconst 1, 1) := by decide +kernel
theorem dL_waveAt_18 : decode cL_waveAt 18 = .ok (.ireturn, 1) := by decide +kernel
theorem dL_waveAt_19 : decode cL_waveAt 19 = .ok (.astore 5, 2) := by decide +kernel
theorem dL_waveAt_21 : decode cL_waveAt 21 = .ok (.iconst 2, 1) := by decide +kernel
theorem dL_waveAt_22 : decode cL_waveAt 22 = .ok (.ireturn, 1) := by decide +kernel
theorem dL_waveAt_23 : decode cL_waveAt 23 = .ok (.astore 5, 2) := by decide +kernel
theorem dL_waveAt_25 : decode cL_waveAt 25 = .ok (.iconst 3, 1) := by decide +kernel
theorem dL_waveAt_26 : decode cL_waveAt 26 = .ok (.ireturn, 1) := by decide +kernel
theorem dL_waveAt_27 : decode cL_waveAt 27 = .ok (.iconst 0, 1) := by decide +kernel
theorem dL_waveAt_28 : decode cL_waveAt 28 = .ok (.ireturn, 1) := by decide +kernel
theorem dL_quietIn_0 : decode cL_quietIn 0 = .ok (.aload 5, 2) := by decide +kernel
theorem dL_quietIn_2 : decode cL_quietIn 2 = .ok (.iconst 0, 1) := by decide +kernel
theorem dL_quietIn_3 : decode cL_quietIn 3 = .ok (.aload_n 0, 1) := by decide +kernel
theorem dL_quietIn_4 : decode cL_quietIn 4 = .ok (.iload_n 1, 1) := by decide +kernel
theorem dL_quietIn_5 : decode cL_quietIn 5 = .ok (.iload_n 2, 1) := by decide +kernel
theorem dL_quietIn_6 : decode cL_quietIn 6 = .ok (.iload_n 3, 1) := by decide +kernel
theorem dL_quietIn_7 : decode cL_quietIn 7 = .ok (.iload 4, 2) := by decide +kernel
theorem dL_quietIn_9 : decode cL_quietIn 9 = .ok (.invokevirtual 79, 3) := by decide +kernel
theorem dL_quietIn_12 : decode cL_quietIn 12 = .ok (.i2l, 1) := by decide +kernel
theorem dL_quietIn_13 : decode cL_quietIn 13 = .ok (.lastore, 1) := by decide +kernel
theorem dL_quietIn_14 : decode cL_quietIn 14 = .ok (.goto 15, 3) := by decide +kernel
theorem dL_quietIn_17 : decode cL_quietIn 17 = .ok (.astore 6, 2) := by decide +kernel
theorem dL_quietIn_19 : decode cL_quietIn 19 = .ok (.iconst 1, 1) := by decide +kernel
theorem dL_quietIn_20 : decode cL_quietIn 20 = .ok (.ireturn, 1) := by decide +kernel
theorem dL_quietIn_21 : decode cL_quietIn 21 = .ok (.astore 6, 2) := by decide +kernel
theorem dL_quietIn_23 : decode cL_quietIn 23 = .ok (.iconst 2, 1) := by decide +kernel
theorem dL_quietIn_24 : decode cL_quietIn 24 = .ok (.ireturn, 1) := by decide +kernel
theorem dL_quietIn_25 : decode cL_quietIn 25 = .ok (.astore 6, 2) := by decide +kernel
theorem dL_quietIn_27 : decode cL_quietIn 27 = .ok (.iconst 3, 1) := by decide +kernel
theorem dL_quietIn_28 : decode cL_quietIn 28 = .ok (.ireturn, 1) := by decide +kernel
theorem dL_quietIn_29 : decode cL_quietIn 29 = .ok (.iconst 0, 1) := by decide +kernel
theorem dL_quietIn_30 : decode cL_quietIn 30 = .ok (.ireturn, 1) := by decide +kernel
theorem dL_gaugeAt_0 : decode cL_gaugeAt 0 = .ok (.aload_n 3, 1) := by decide +kernel
theorem dL_gaugeAt_1 : decode cL_gaugeAt 1 = .ok (.iconst 0, 1) := by decide +kernel
theorem dL_gaugeAt_2 : decode cL_gaugeAt 2 = .ok (.aload_n 0, 1) := by decide +kernel
theorem dL_gaugeAt_3 : decode cL_gaugeAt 3 = .ok (.iload_n 1, 1) := by decide +kernel
theorem dL_gaugeAt_4 : decode cL_gaugeAt 4 = .ok (.iload_n 2, 1) := by decide +kernel
theorem dL_gaugeAt_5 : decode cL_gaugeAt 5 = .ok (.invokevirtual 82, 3) := by decide +kernel
theorem dL_gaugeAt_8 : decode cL_gaugeAt 8 = .ok (.i2l, 1) := by decide +kernel
theorem dL_gaugeAt_9 : decode cL_gaugeAt 9 = .ok (.lastore, 1) := by decide +kernel
theorem dL_gaugeAt_10 : decode cL_gaugeAt 10 = .ok (.goto 15, 3) := by decide +kernel
theorem dL_gaugeAt_13 : decode cL_gaugeAt 13 = .ok (.astore 4, 2) := by decide +kernel
theorem dL_gaugeAt_15 : decode cL_gaugeAt 15 = .ok (.iconst 1, 1) := by decide +kernel
theorem dL_gaugeAt_16 : decode cL_gaugeAt 16 = .ok (.ireturn, 1) := by decide +kernel
theorem dL_gaugeAt_17 : decode cL_gaugeAt 17 = .ok (.astore 4, 2) := by decide +kernel
theorem dL_gaugeAt_19 : decode cL_gaugeAt 19 = .ok (.iconst 2, 1) := by decide +kernel
theorem dL_gaugeAt_20 : decode cL_gaugeAt 20 = .ok (.ireturn, 1) := by decide +kernel
theorem dL_gaugeAt_21 : decode cL_gaugeAt 21 = .ok (.astore 4, 2) := by decide +kernel
theorem dL_gaugeAt_23 : decode cL_gaugeAt 23 = .ok (.iconst 3, 1) := by decide +kernel
theorem dL_gaugeAt_24 : decode cL_gaugeAt 24 = .ok (.ireturn, 1) := by decide +kernel
theorem dL_gaugeAt_25 : decode cL_gaugeAt 25 = .ok (.iconst 0, 1) := by decide +kernel
theorem dL_gaugeAt_26 : decode cL_gaugeAt 26 = .ok (.ireturn, 1) := by decide +kernel
theorem dL_peak_0 : decode cL_peak 0 = .ok (.aload_n 3, 1) := by decide +kernel
theorem dL_peak_1 : decode cL_peak 1 = .ok (.iconst 0, 1) := by decide +kernel
theorem dL_peak_2 : decode cL_peak 2 = .ok (.aload_n 0, 1) := by decide +kernel
theorem dL_peak_3 : decode cL_peak 3 = .ok (.iload_n 1, 1) := by decide +kernel
theorem dL_peak_4 : decode cL_peak 4 = .ok (.iload_n 2, 1) := by decide +kernel
theorem dL_peak_5 : decode cL_peak 5 = .ok (.invokevirtual 85, 3) := by decide +kernel
theorem dL_peak_8 : decode cL_peak 8 = .ok (.i2l, 1) := by decide +kernel
theorem dL_peak_9 : decode cL_peak 9 = .ok (.lastore, 1) := by decide +kernel
theorem dL_peak_10 : decode cL_peak 10 = .ok (.goto 15, 3) := by decide +kernel
theorem dL_peak_13 : decode cL_peak 13 = .ok (.astore 4, 2) := by decide +kernel
theorem dL_peak_15 : decode cL_peak 15 = .ok (.iconst 1, 1) := by decide +kernel
theorem dL_peak_16 : decode cL_peak 16 = .ok (.ireturn, 1) := by decide +kernel
theorem dL_peak_17 : decode cL_peak 17 = .ok (.astore 4, 2) := by decide +kernel
theorem dL_peak_19 : decode cL_peak 19 = .ok (.iconst 2, 1) := by decide +kernel
theorem dL_peak_20 : decode cL_peak 20 = .ok (.ireturn, 1) := by decide +kernel
theorem dL_peak_21 : decode cL_peak 21 = .ok (.astore 4, 2) := by decide +kernel
theorem dL_peak_23 : decode cL_peak 23 = .ok (.iconst 3, 1) := by decide +kernel
theorem dL_peak_24 : decode cL_peak 24 = .ok (.ireturn, 1) := by decide +kernel
theorem dL_peak_25 : decode cL_peak 25 = .ok (.iconst 0, 1) := by decide +kernel
theorem dL_peak_26 : decode cL_peak 26 = .ok (.ireturn, 1) := by decide +kernel
theorem dL_crossings_0 : decode cL_crossings 0 = .ok (.aload_n 3, 1) := by decide +kernel
theorem dL_crossings_1 : decode cL_crossings 1 = .ok (.iconst 0, 1) := by decide +kernel
theorem dL_crossings_2 : decode cL_crossings 2 = .ok (.aload_n 0, 1) := by decide +kernel
theorem dL_crossings_3 : decode cL_crossings 3 = .ok (.iload_n 1, 1) := by decide +kernel
theorem dL_crossings_4 : decode cL_crossings 4 = .ok (.iload_n 2, 1) := by decide +kernel
theorem dL_crossings_5 : decode cL_crossings 5 = .ok (.invokevirtual 88, 3) := by decide +kernel
theorem dL_crossings_8 : decode cL_crossings 8 = .ok (.i2l, 1) := by decide +kernel
theorem dL_crossings_9 : decode cL_crossings 9 = .ok (.lastore, 1) := by decide +kernel
theorem dL_crossings_10 : decode cL_crossings 10 = .ok (.goto 15, 3) := by decide +kernel
theorem dL_crossings_13 : decode cL_crossings 13 = .ok (.astore 4, 2) := by decide +kernel
theorem dL_crossings_15 : decode cL_crossings 15 = .ok (.iconst 1, 1) := by decide +kernel
theorem dL_crossings_16 : decode cL_crossings 16 = .ok (.ireturn, 1) := by decide +kernel
theorem dL_crossings_17 : decode cL_crossings 17 = .ok (.astore 4, 2) := by decide +kernel
theorem dL_crossings_19 : decode cL_crossings 19 = .ok (.iconst 2, 1) := by decide +kernel
theorem dL_crossings_20 : decode cL_crossings 20 = .ok (.ireturn, 1) := by decide +kernel
theorem dL_crossings_21 : decode cL_crossings 21 = .ok (.astore 4, 2) := by decide +kernel
theorem dL_crossings_23 : decode cL_crossings 23 = .ok (.iconst 3, 1) := by decide +kernel
theorem dL_crossings_24 : decode cL_crossings 24 = .ok (.ireturn, 1) := by decide +kernel
theorem dL_crossings_25 : decode cL_crossings 25 = .ok (.iconst 0, 1) := by decide +kernel
theorem dL_crossings_26 : decode cL_crossings 26 = .ok (.ireturn, 1) := by decide +kernel
theorem dL_rhythm_0 : decode cL_rhythm 0 = .ok (.aload_n 3, 1) := by decide +kernel
theorem dL_rhythm_1 : decode cL_rhythm 1 = .ok (.iconst 0, 1) := by decide +kernel
theorem dL_rhythm_2 : decode cL_rhythm 2 = .ok (.aload_n 0, 1) := by decide +kernel
theorem dL_rhythm_3 : decode cL_rhythm 3 = .ok (.iload_n 1, 1) := by decide +kernel
theorem dL_rhythm_4 : decode cL_rhythm 4 = .ok (.iload_n 2, 1) := by decide +kernel
theorem dL_rhythm_5 : decode cL_rhythm 5 = .ok (.invokevirtual 91, 3) := by decide +kernel
theorem dL_rhythm_8 : decode cL_rhythm 8 = .ok (.i2l, 1) := by decide +kernel
theorem dL_rhythm_9 : decode cL_rhythm 9 = .ok (.lastore, 1) := by decide +kernel
theorem dL_rhythm_10 : decode cL_rhythm 10 = .ok (.goto 15, 3) := by decide +kernel
theorem dL_rhythm_13 : decode cL_rhythm 13 = .ok (.astore 4, 2) := by decide +kernel
theorem dL_rhythm_15 : decode cL_rhythm 15 = .ok (.iconst 1, 1) := by decide +kernel
theorem dL_rhythm_16 : decode cL_rhythm 16 = .ok (.ireturn, 1) := by decide +kernel
theorem dL_rhythm_17 : decode cL_rhythm 17 = .ok (.astore 4, 2) := by decide +kernel
theorem dL_rhythm_19 : decode cL_rhythm 19 = .ok (.iconst 2, 1) := by decide +kernel
theorem dL_rhythm_20 : decode cL_rhythm 20 = .ok (.ireturn, 1) := by decide +kernel
theorem dL_rhythm_21 : decode cL_rhythm 21 = .ok (.astore 4, 2) := by decide +kernel
theorem dL_rhythm_23 : decode cL_rhythm 23 = .ok (.iconst 3, 1) := by decide +kernel
theorem dL_rhythm_24 : decode cL_rhythm 24 = .ok (.ireturn, 1) := by decide +kernel
theorem dL_rhythm_25 : decode cL_rhythm 25 = .ok (.iconst 0, 1) := by decide +kernel
theorem dL_rhythm_26 : decode cL_rhythm 26 = .ok (.ireturn, 1) := by decide +kernel
theorem dL_isNode_0 : decode cL_isNode 0 = .ok (.aload 5, 2) := by decide +kernel
theorem dL_isNode_2 : decode cL_isNode 2 = .ok (.iconst 0, 1) := by decide +kernel
theorem dL_isNode_3 : decode cL_isNode 3 = .ok (.aload_n 0, 1) := by decide +kernel
theorem dL_isNode_4 : decode cL_isNode 4 = .ok (.iload_n 1, 1) := by decide +kernel
theorem dL_isNode_5 : decode cL_isNode 5 = .ok (.iload_n 2, 1) := by decide +kernel
theorem dL_isNode_6 : decode cL_isNode 6 = .ok (.iload_n 3, 1) := by decide +kernel
theorem dL_isNode_7 : decode cL_isNode 7 = .ok (.iload 4, 2) := by decide +kernel
theorem dL_isNode_9 : decode cL_isNode 9 = .ok (.invokevirtual 94, 3) := by decide +kernel
theorem dL_isNode_12 : decode cL_isNode 12 = .ok (.ifCond .eq 7, 3) := by decide +kernel
theorem dL_isNode_15 : decode cL_isNode 15 = .ok (.lconst 1, 1) := by decide +kernel
theorem dL_isNode_16 : decode cL_isNode 16 = .ok (.goto 4, 3) := by decide +kernel
theorem dL_isNode_19 : decode cL_isNode 19 = .ok (.lconst 0, 1) := by decide +kernel
theorem dL_isNode_20 : decode cL_isNode 20 = .ok (.lastore, 1) := by decide +kernel
theorem dL_isNode_21 : decode cL_isNode 21 = .ok (.goto 15, 3) := by decide +kernel
theorem dL_isNode_24 : decode cL_isNode 24 = .ok (.astore 6, 2) := by decide +kernel
theorem dL_isNode_26 : decode cL_isNode 26 = .ok (.iconst 1, 1) := by decide +kernel
theorem dL_isNode_27 : decode cL_isNode 27 = .ok (.ireturn, 1) := by decide +kernel
theorem dL_isNode_28 : decode cL_isNode 28 = .ok (.astore 6, 2) := by decide +kernel
theorem dL_isNode_30 : decode cL_isNode 30 = .ok (.iconst 2, 1) := by decide +kernel
theorem dL_isNode_31 : decode cL_isNode 31 = .ok (.ireturn, 1) := by decide +kernel
theorem dL_isNode_32 : decode cL_isNode 32 = .ok (.astore 6, 2) := by decide +kernel
theorem dL_isNode_34 : decode cL_isNode 34 = .ok (.iconst 3, 1) := by decide +kernel
theorem dL_isNode_35 : decode cL_isNode 35 = .ok (.ireturn, 1) := by decide +kernel
theorem dL_isNode_36 : decode cL_isNode 36 = .ok (.iconst 0, 1) := by decide +kernel
theorem dL_isNode_37 : decode cL_isNode 37 = .ok (.ireturn, 1) := by decide +kernel
theorem dL_nodes_0 : decode cL_nodes 0 = .ok (.aload_n 3, 1) := by decide +kernel
theorem dL_nodes_1 : decode cL_nodes 1 = .ok (.iconst 0, 1) := by decide +kernel
theorem dL_nodes_2 : decode cL_nodes 2 = .ok (.aload_n 0, 1) := by decide +kernel
theorem dL_nodes_3 : decode cL_nodes 3 = .ok (.iload_n 1, 1) := by decide +kernel
theorem dL_nodes_4 : decode cL_nodes 4 = .ok (.iload_n 2, 1) := by decide +kernel
theorem dL_nodes_5 : decode cL_nodes 5 = .ok (.invokevirtual 98, 3) := by decide +kernel
theorem dL_nodes_8 : decode cL_nodes 8 = .ok (.i2l, 1) := by decide +kernel
theorem dL_nodes_9 : decode cL_nodes 9 = .ok (.lastore, 1) := by decide +kernel
theorem dL_nodes_10 : decode cL_nodes 10 = .ok (.goto 11, 3) := by decide +kernel
theorem dL_nodes_13 : decode cL_nodes 13 = .ok (.astore 4, 2) := by decide +kernel
theorem dL_nodes_15 : decode cL_nodes 15 = .ok (.iconst 1, 1) := by decide +kernel
theorem dL_nodes_16 : decode cL_nodes 16 = .ok (.ireturn, 1) := by decide +kernel
theorem dL_nodes_17 : decode cL_nodes 17 = .ok (.astore 4, 2) := by decide +kernel
theorem dL_nodes_19 : decode cL_nodes 19 = .ok (.iconst 2, 1) := by decide +kernel
theorem dL_nodes_20 : decode cL_nodes 20 = .ok (.ireturn, 1) := by decide +kernel
theorem dL_nodes_21 : decode cL_nodes 21 = .ok (.iconst 0, 1) := by decide +kernel
theorem dL_nodes_22 : decode cL_nodes 22 = .ok (.ireturn, 1) := by decide +kernel
theorem dL_nodeRows_0 : decode cL_nodeRows 0 = .ok (.aload 4, 2) := by decide +kernel
theorem dL_nodeRows_2 : decode cL_nodeRows 2 = .ok (.iconst 0, 1) := by decide +kernel
theorem dL_nodeRows_3 : decode cL_nodeRows 3 = .ok (.aload_n 0, 1) := by decide +kernel
theorem dL_nodeRows_4 : decode cL_nodeRows 4 = .ok (.iload_n 1, 1) := by decide +kernel
theorem dL_nodeRows_5 : decode cL_nodeRows 5 = .ok (.iload_n 2, 1) := by decide +kernel
theorem dL_nodeRows_6 : decode cL_nodeRows 6 = .ok (.iload_n 3, 1) := by decide +kernel
theorem dL_nodeRows_7 : decode cL_nodeRows 7 = .ok (.invokevirtual 101, 3) := by decide +kernel
theorem dL_nodeRows_10 : decode cL_nodeRows 10 = .ok (.i2l, 1) := by decide +kernel
theorem dL_nodeRows_11 : decode cL_nodeRows 11 = .ok (.lastore, 1) := by decide +kernel
theorem dL_nodeRows_12 : decode cL_nodeRows 12 = .ok (.goto 15, 3) := by decide +kernel
theorem dL_nodeRows_15 : decode cL_nodeRows 15 = .ok (.astore 5, 2) := by decide +kernel
theorem dL_nodeRows_17 : decode cL_nodeRows 17 = .ok (.iconst 1, 1) := by decide +kernel
theorem dL_nodeRows_18 : decode cL_nodeRows 18 = .ok (.ireturn, 1) := by decide +kernel
theorem dL_nodeRows_19 : decode cL_nodeRows 19 = .ok (.astore 5, 2) := by decide +kernel
theorem dL_nodeRows_21 : decode cL_nodeRows 21 = .ok (.iconst 2, 1) := by decide +kernel
theorem dL_nodeRows_22 : decode cL_nodeRows 22 = .ok (.ireturn, 1) := by decide +kernel
theorem dL_nodeRows_23 : decode cL_nodeRows 23 = .ok (.astore 5, 2) := by decide +kernel
theorem dL_nodeRows_25 : decode cL_nodeRows 25 = .ok (.iconst 3, 1) := by decide +kernel
theorem dL_nodeRows_26 : decode cL_nodeRows 26 = .ok (.ireturn, 1) := by decide +kernel
theorem dL_nodeRows_27 : decode cL_nodeRows 27 = .ok (.iconst 0, 1) := by decide +kernel
theorem dL_nodeRows_28 : decode cL_nodeRows 28 = .ok (.ireturn, 1) := by decide +kernel
theorem dL_nodeGroups_0 : decode cL_nodeGroups 0 = .ok (.aload_n 3, 1) := by decide +kernel
theorem dL_nodeGroups_1 : decode cL_nodeGroups 1 = .ok (.iconst 0, 1) := by decide +kernel
theorem dL_nodeGroups_2 : decode cL_nodeGroups 2 = .ok (.aload_n 0, 1) := by decide +kernel
theorem dL_nodeGroups_3 : decode cL_nodeGroups 3 = .ok (.iload_n 1, 1) := by decide +kernel
theorem dL_nodeGroups_4 : decode cL_nodeGroups 4 = .ok (.iload_n 2, 1) := by decide +kernel
theorem dL_nodeGroups_5 : decode cL_nodeGroups 5 = .ok (.invokevirtual 104, 3) := by decide +kernel
theorem dL_nodeGroups_8 : decode cL_nodeGroups 8 = .ok (.i2l, 1) := by decide +kernel
theorem dL_nodeGroups_9 : decode cL_nodeGroups 9 = .ok (.lastore, 1) := by decide +kernel
theorem dL_nodeGroups_10 : decode cL_nodeGroups 10 = .ok (.goto 11, 3) := by decide +kernel
theorem dL_nodeGroups_13 : decode cL_nodeGroups 13 = .ok (.astore 4, 2) := by decide +kernel
theorem dL_nodeGroups_15 : decode cL_nodeGroups 15 = .ok (.iconst 1, 1) := by decide +kernel
theorem dL_nodeGroups_16 : decode cL_nodeGroups 16 = .ok (.ireturn, 1) := by decide +kernel
theorem dL_nodeGroups_17 : decode cL_nodeGroups 17 = .ok (.astore 4, 2) := by decide +kernel
theorem dL_nodeGroups_19 : decode cL_nodeGroups 19 = .ok (.iconst 2, 1) := by decide +kernel
theorem dL_nodeGroups_20 : decode cL_nodeGroups 20 = .ok (.ireturn, 1) := by decide +kernel
theorem dL_nodeGroups_21 : decode cL_nodeGroups 21 = .ok (.iconst 0, 1) := by decide +kernel
theorem dL_nodeGroups_22 : decode cL_nodeGroups 22 = .ok (.ireturn, 1) := by decide +kernel
theorem dL_energy_0 : decode cL_energy 0 = .ok (.aload 4, 2) := by decide +kernel
theorem dL_energy_2 : decode cL_energy 2 = .ok (.iconst 0, 1) := by decide +kernel
theorem dL_energy_3 : decode cL_energy 3 = .ok (.aload_n 0, 1) := by decide +kernel
theorem dL_energy_4 : decode cL_energy 4 = .ok (.iload_n 1, 1) := by decide +kernel
theorem dL_energy_5 : decode cL_energy 5 = .ok (.iload_n 2, 1) := by decide +kernel
theorem dL_energy_6 : decode cL_energy 6 = .ok (.iload_n 3, 1) := by decide +kernel
theorem dL_energy_7 : decode cL_energy 7 = .ok (.invokevirtual 107, 3) := by decide +kernel
theorem dL_energy_10 : decode cL_energy 10 = .ok (.lastore, 1) := by decide +kernel
theorem dL_energy_11 : decode cL_energy 11 = .ok (.goto 15, 3) := by decide +kernel
theorem dL_energy_14 : decode cL_energy 14 = .ok (.astore 5, 2) := by decide +kernel
theorem dL_energy_16 : decode cL_energy 16 = .ok (.iconst 1, 1) := by decide +kernel
theorem dL_energy_17 : decode cL_energy 17 = .ok (.ireturn, 1) := by decide +kernel
theorem dL_energy_18 : decode cL_energy 18 = .ok (.astore 5, 2) := by decide +kernel
theorem dL_energy_20 : decode cL_energy 20 = .ok (.iconst 2, 1) := by decide +kernel
theorem dL_energy_21 : decode cL_energy 21 = .ok (.ireturn, 1) := by decide +kernel
theorem dL_energy_22 : decode cL_energy 22 = .ok (.astore 5, 2) := by decide +kernel
theorem dL_energy_24 : decode cL_energy 24 = .ok (.iconst 3, 1) := by decide +kernel
theorem dL_energy_25 : decode cL_energy 25 = .ok (.ireturn, 1) := by decide +kernel
theorem dL_energy_26 : decode cL_energy 26 = .ok (.iconst 0, 1) := by decide +kernel
theorem dL_energy_27 : decode cL_energy 27 = .ok (.ireturn, 1) := by decide +kernel
theorem dL_rowEnergy_0 : decode cL_rowEnergy 0 = .ok (.aload_n 3, 1) := by decide +kernel
theorem dL_rowEnergy_1 : decode cL_rowEnergy 1 = .ok (.iconst 0, 1) := by decide +kernel
theorem dL_rowEnergy_2 : decode cL_rowEnergy 2 = .ok (.aload_n 0, 1) := by decide +kernel
theorem dL_rowEnergy_3 : decode cL_rowEnergy 3 = .ok (.iload_n 1, 1) := by decide +kernel
theorem dL_rowEnergy_4 : decode cL_rowEnergy 4 = .ok (.iload_n 2, 1) := by decide +kernel
theorem dL_rowEnergy_5 : decode cL_rowEnergy 5 = .ok (.invokevirtual 111, 3) := by decide +kernel
theorem dL_rowEnergy_8 : decode cL_rowEnergy 8 = .ok (.lastore, 1) := by decide +kernel
theorem dL_rowEnergy_9 : decode cL_rowEnergy 9 = .ok (.goto 15, 3) := by decide +kernel
theorem dL_rowEnergy_12 : decode cL_rowEnergy 12 = .ok (.astore 4, 2) := by decide +kernel
theorem dL_rowEnergy_14 : decode cL_rowEnergy 14 = .ok (.iconst 1, 1) := by decide +kernel
theorem dL_rowEnergy_15 : decode cL_rowEnergy 15 = .ok (.ireturn, 1) := by decide +kernel
theorem dL_rowEnergy_16 : decode cL_rowEnergy 16 = .ok (.astore 4, 2) := by decide +kernel
theorem dL_rowEnergy_18 : decode cL_rowEnergy 18 = .ok (.iconst 2, 1) := by decide +kernel
theorem dL_rowEnergy_19 : decode cL_rowEnergy 19 = .ok (.ireturn, 1) := by decide +kernel
theorem dL_rowEnergy_20 : decode cL_rowEnergy 20 = .ok (.astore 4, 2) := by decide +kernel
theorem dL_rowEnergy_22 : decode cL_rowEnergy 22 = .ok (.iconst 3, 1) := by decide +kernel
theorem dL_rowEnergy_23 : decode cL_rowEnergy 23 = .ok (.ireturn, 1) := by decide +kernel
theorem dL_rowEnergy_24 : decode cL_rowEnergy 24 = .ok (.iconst 0, 1) := by decide +kernel
theorem dL_rowEnergy_25 : decode cL_rowEnergy 25 = .ok (.ireturn, 1) := by decide +kernel
theorem dL_allEnergy_0 : decode cL_allEnergy 0 = .ok (.aload_n 2, 1) := by decide +kernel
theorem dL_allEnergy_1 : decode cL_allEnergy 1 = .ok (.iconst 0, 1) := by decide +kernel
theorem dL_allEnergy_2 : decode cL_allEnergy 2 = .ok (.aload_n 0, 1) := by decide +kernel
theorem dL_allEnergy_3 : decode cL_allEnergy 3 = .ok (.iload_n 1, 1) := by decide +kernel
theorem dL_allEnergy_4 : decode cL_allEnergy 4 = .ok (.invokevirtual 115, 3) := by decide +kernel
theorem dL_allEnergy_7 : decode cL_allEnergy 7 = .ok (.lastore, 1) := by decide +kernel
theorem dL_allEnergy_8 : decode cL_allEnergy 8 = .ok (.goto 9, 3) := by decide +kernel
theorem dL_allEnergy_11 : decode cL_allEnergy 11 = .ok (.astore_n 3, 1) := by decide +kernel
theorem dL_allEnergy_12 : decode cL_allEnergy 12 = .ok (.iconst 1, 1) := by decide +kernel
theorem dL_allEnergy_13 : decode cL_allEnergy 13 = .ok (.ireturn, 1) := by decide +kernel
theorem dL_allEnergy_14 : decode cL_allEnergy 14 = .ok (.astore_n 3, 1) := by decide +kernel
theorem dL_allEnergy_15 : decode cL_allEnergy 15 = .ok (.iconst 2, 1) := by decide +kernel
theorem dL_allEnergy_16 : decode cL_allEnergy 16 = .ok (.ireturn, 1) := by decide +kernel
theorem dL_allEnergy_17 : decode cL_allEnergy 17 = .ok (.iconst 0, 1) := by decide +kernel
theorem dL_allEnergy_18 : decode cL_allEnergy 18 = .ok (.ireturn, 1) := by decide +kernel
theorem dL_strongest_0 : decode cL_strongest 0 = .ok (.aload_n 3, 1) := by decide +kernel
theorem dL_strongest_1 : decode cL_strongest 1 = .ok (.iconst 0, 1) := by decide +kernel
theorem dL_strongest_2 : decode cL_strongest 2 = .ok (.aload_n 0, 1) := by decide +kernel
theorem dL_strongest_3 : decode cL_strongest 3 = .ok (.iload_n 1, 1) := by decide +kernel
theorem dL_strongest_4 : decode cL_strongest 4 = .ok (.iload_n 2, 1) := by decide +kernel
theorem dL_strongest_5 : decode cL_strongest 5 = .ok (.invokevirtual 119, 3) := by decide +kernel
theorem dL_strongest_8 : decode cL_strongest 8 = .ok (.i2l, 1) := by decide +kernel
theorem dL_strongest_9 : decode cL_strongest 9 = .ok (.lastore, 1) := by decide +kernel
theorem dL_strongest_10 : decode cL_strongest 10 = .ok (.goto 15, 3) := by decide +kernel
theorem dL_strongest_13 : decode cL_strongest 13 = .ok (.astore 4, 2) := by decide +kernel
theorem dL_strongest_15 : decode cL_strongest 15 = .ok (.iconst 1, 1) := by decide +kernel
theorem dL_strongest_16 : decode cL_strongest 16 = .ok (.ireturn, 1) := by decide +kernel
theorem dL_strongest_17 : decode cL_strongest 17 = .ok (.astore 4, 2) := by decide +kernel
theorem dL_strongest_19 : decode cL_strongest 19 = .ok (.iconst 2, 1) := by decide +kernel
theorem dL_strongest_20 : decode cL_strongest 20 = .ok (.ireturn, 1) := by decide +kernel
theorem dL_strongest_21 : decode cL_strongest 21 = .ok (.astore 4, 2) := by decide +kernel
theorem dL_strongest_23 : decode cL_strongest 23 = .ok (.iconst 3, 1) := by decide +kernel
theorem dL_strongest_24 : decode cL_strongest 24 = .ok (.ireturn, 1) := by decide +kernel
theorem dL_strongest_25 : decode cL_strongest 25 = .ok (.iconst 0, 1) := by decide +kernel
theorem dL_strongest_26 : decode cL_strongest 26 = .ok (.ireturn, 1) := by decide +kernel
theorem dL_marks_0 : decode cL_marks 0 = .ok (.aload_n 3, 1) := by decide +kernel
theorem dL_marks_1 : decode cL_marks 1 = .ok (.iconst 0, 1) := by decide +kernel
theorem dL_marks_2 : decode cL_marks 2 = .ok (.aload_n 0, 1) := by decide +kernel
theorem dL_marks_3 : decode cL_marks 3 = .ok (.iload_n 1, 1) := by decide +kernel
theorem dL_marks_4 : decode cL_marks 4 = .ok (.iload_n 2, 1) := by decide +kernel
theorem dL_marks_5 : decode cL_marks 5 = .ok (.invokevirtual 122, 3) := by decide +kernel
theorem dL_marks_8 : decode cL_marks 8 = .ok (.i2l, 1) := by decide +kernel
theorem dL_marks_9 : decode cL_marks 9 = .ok (.lastore, 1) := by decide +kernel
theorem dL_marks_10 : decode cL_marks 10 = .ok (.goto 11, 3) := by decide +kernel
theorem dL_marks_13 : decode cL_marks 13 = .ok (.astore 4, 2) := by decide +kernel
theorem dL_marks_15 : decode cL_marks 15 = .ok (.iconst 1, 1) := by decide +kernel
theorem dL_marks_16 : decode cL_marks 16 = .ok (.ireturn, 1) := by decide +kernel
theorem dL_marks_17 : decode cL_marks 17 = .ok (.astore 4, 2) := by decide +kernel
theorem dL_marks_19 : decode cL_marks 19 = .ok (.iconst 2, 1) := by decide +kernel
theorem dL_marks_20 : decode cL_marks 20 = .ok (.ireturn, 1) := by decide +kernel
theorem dL_marks_21 : decode cL_marks 21 = .ok (.iconst 0, 1) := by decide +kernel
theorem dL_marks_22 : decode cL_marks 22 = .ok (.ireturn, 1) := by decide +kernel
theorem dL_isMark_0 : decode cL_isMark 0 = .ok (.aload 5, 2) := by decide +kernel
theorem dL_isMark_2 : decode cL_isMark 2 = .ok (.iconst 0, 1) := by decide +kernel
theorem dL_isMark_3 : decode cL_isMark 3 = .ok (.aload_n 0, 1) := by decide +kernel
theorem dL_isMark_4 : decode cL_isMark 4 = .ok (.iload_n 1, 1) := by decide +kernel
theorem dL_isMark_5 : decode cL_isMark 5 = .ok (.iload_n 2, 1) := by decide +kernel
theorem dL_isMark_6 : decode cL_isMark 6 = .ok (.iload_n 3, 1) := by decide +kernel
theorem dL_isMark_7 : decode cL_isMark 7 = .ok (.iload 4, 2) := by decide +kernel
theorem dL_isMark_9 : decode cL_isMark 9 = .ok (.invokevirtual 125, 3) := by decide +kernel
theorem dL_isMark_12 : decode cL_isMark 12 = .ok (.ifCond .eq 7, 3) := by decide +kernel
theorem dL_isMark_15 : decode cL_isMark 15 = .ok (.lconst 1, 1) := by decide +kernel
theorem dL_isMark_16 : decode cL_isMark 16 = .ok (.goto 4, 3) := by decide +kernel
theorem dL_isMark_19 : decode cL_isMark 19 = .ok (.lconst 0, 1) := by decide +kernel
theorem dL_isMark_20 : decode cL_isMark 20 = .ok (.lastore, 1) := by decide +kernel
theorem dL_isMark_21 : decode cL_isMark 21 = .ok (.goto 15, 3) := by decide +kernel
theorem dL_isMark_24 : decode cL_isMark 24 = .ok (.astore 6, 2) := by decide +kernel
theorem dL_isMark_26 : decode cL_isMark 26 = .ok (.iconst 1, 1) := by decide +kernel
theorem dL_isMark_27 : decode cL_isMark 27 = .ok (.ireturn, 1) := by decide +kernel
theorem dL_isMark_28 : decode cL_isMark 28 = .ok (.astore 6, 2) := by decide +kernel
theorem dL_isMark_30 : decode cL_isMark 30 = .ok (.iconst 2, 1) := by decide +kernel
theorem dL_isMark_31 : decode cL_isMark 31 = .ok (.ireturn, 1) := by decide +kernel
theorem dL_isMark_32 : decode cL_isMark 32 = .ok (.astore 6, 2) := by decide +kernel
theorem dL_isMark_34 : decode cL_isMark 34 = .ok (.iconst 3, 1) := by decide +kernel
theorem dL_isMark_35 : decode cL_isMark 35 = .ok (.ireturn, 1) := by decide +kernel
theorem dL_isMark_36 : decode cL_isMark 36 = .ok (.iconst 0, 1) := by decide +kernel
theorem dL_isMark_37 : decode cL_isMark 37 = .ok (.ireturn, 1) := by decide +kernel
theorem dL_fringes_0 : decode cL_fringes 0 = .ok (.aload_n 3, 1) := by decide +kernel
theorem dL_fringes_1 : decode cL_fringes 1 = .ok (.iconst 0, 1) := by decide +kernel
theorem dL_fringes_2 : decode cL_fringes 2 = .ok (.aload_n 0, 1) := by decide +kernel
theorem dL_fringes_3 : decode cL_fringes 3 = .ok (.iload_n 1, 1) := by decide +kernel
theorem dL_fringes_4 : decode cL_fringes 4 = .ok (.iload_n 2, 1) := by decide +kernel
theorem dL_fringes_5 : decode cL_fringes 5 = .ok (.invokevirtual 128, 3) := by decide +kernel
theorem dL_fringes_8 : decode cL_fringes 8 = .ok (.i2l, 1) := by decide +kernel
theorem dL_fringes_9 : decode cL_fringes 9 = .ok (.lastore, 1) := by decide +kernel
theorem dL_fringes_10 : decode cL_fringes 10 = .ok (.goto 15, 3) := by decide +kernel
theorem dL_fringes_13 : decode cL_fringes 13 = .ok (.astore 4, 2) := by decide +kernel
theorem dL_fringes_15 : decode cL_fringes 15 = .ok (.iconst 1, 1) := by decide +kernel
theorem dL_fringes_16 : decode cL_fringes 16 = .ok (.ireturn, 1) := by decide +kernel
theorem dL_fringes_17 : decode cL_fringes 17 = .ok (.astore 4, 2) := by decide +kernel
theorem dL_fringes_19 : decode cL_fringes 19 = .ok (.iconst 2, 1) := by decide +kernel
theorem dL_fringes_20 : decode cL_fringes 20 = .ok (.ireturn, 1) := by decide +kernel
theorem dL_fringes_21 : decode cL_fringes 21 = .ok (.astore 4, 2) := by decide +kernel
theorem dL_fringes_23 : decode cL_fringes 23 = .ok (.iconst 3, 1) := by decide +kernel
theorem dL_fringes_24 : decode cL_fringes 24 = .ok (.ireturn, 1) := by decide +kernel
theorem dL_fringes_25 : decode cL_fringes 25 = .ok (.iconst 0, 1) := by decide +kernel
theorem dL_fringes_26 : decode cL_fringes 26 = .ok (.ireturn, 1) := by decide +kernel
theorem dL_visibility_0 : decode cL_visibility 0 = .ok (.aload_n 3, 1) := by decide +kernel
theorem dL_visibility_1 : decode cL_visibility 1 = .ok (.iconst 0, 1) := by decide +kernel
theorem dL_visibility_2 : decode cL_visibility 2 = .ok (.aload_n 0, 1) := by decide +kernel
theorem dL_visibility_3 : decode cL_visibility 3 = .ok (.iload_n 1, 1) := by decide +kernel
theorem dL_visibility_4 : decode cL_visibility 4 = .ok (.iload_n 2, 1) := by decide +kernel
theorem dL_visibility_5 : decode cL_visibility 5 = .ok (.invokevirtual 131, 3) := by decide +kernel
theorem dL_visibility_8 : decode cL_visibility 8 = .ok (.f2d, 1) := by decide +kernel
theorem dL_visibility_9 : decode cL_visibility 9 = .ok (.dastore, 1) := by decide +kernel
theorem dL_visibility_10 : decode cL_visibility 10 = .ok (.goto 15, 3) := by decide +kernel
theorem dL_visibility_13 : decode cL_visibility 13 = .ok (.astore 4, 2) := by decide +kernel
theorem dL_visibility_15 : decode cL_visibility 15 = .ok (.iconst 1, 1) := by decide +kernel
theorem dL_visibility_16 : decode cL_visibility 16 = .ok (.ireturn, 1) := by decide +kernel
theorem dL_visibility_17 : decode cL_visibility 17 = .ok (.astore 4, 2) := by decide +kernel
theorem dL_visibility_19 : decode cL_visibility 19 = .ok (.iconst 2, 1) := by decide +kernel
theorem dL_visibility_20 : decode cL_visibility 20 = .ok (.ireturn, 1) := by decide +kernel
theorem dL_visibility_21 : decode cL_visibility 21 = .ok (.astore 4, 2) := by decide +kernel
theorem dL_visibility_23 : decode cL_visibility 23 = .ok (.iconst 3, 1) := by decide +kernel
theorem dL_visibility_24 : decode cL_visibility 24 = .ok (.ireturn, 1) := by decide +kernel
theorem dL_visibility_25 : decode cL_visibility 25 = .ok (.iconst 0, 1) := by decide +kernel
theorem dL_visibility_26 : decode cL_visibility 26 = .ok (.ireturn, 1) := by decide +kernel
theorem dL_writeRow_0 : decode cL_writeRow 0 = .ok (.aload_n 2, 1) := by decide +kernel
theorem dL_writeRow_1 : decode cL_writeRow 1 = .ok (.iconst 0, 1) := by decide +kernel
theorem dL_writeRow_2 : decode cL_writeRow 2 = .ok (.aload_n 0, 1) := by decide +kernel
theorem dL_writeRow_3 : decode cL_writeRow 3 = .ok (.iload_n 1, 1) := by decide +kernel
theorem dL_writeRow_4 : decode cL_writeRow 4 = .ok (.invokevirtual 135, 3) := by decide +kernel
theorem dL_writeRow_7 : decode cL_writeRow 7 = .ok (.i2l, 1) := by decide +kernel
theorem dL_writeRow_8 : decode cL_writeRow 8 = .ok (.lastore, 1) := by decide +kernel
theorem dL_writeRow_9 : decode cL_writeRow 9 = .ok (.goto 9, 3) := by decide +kernel
theorem dL_writeRow_12 : decode cL_writeRow 12 = .ok (.astore_n 3, 1) := by decide +kernel
theorem dL_writeRow_13 : decode cL_writeRow 13 = .ok (.iconst 1, 1) := by decide +kernel
theorem dL_writeRow_14 : decode cL_writeRow 14 = .ok (.ireturn, 1) := by decide +kernel
theorem dL_writeRow_15 : decode cL_writeRow 15 = .ok (.astore_n 3, 1) := by decide +kernel
theorem dL_writeRow_16 : decode cL_writeRow 16 = .ok (.iconst 2, 1) := by decide +kernel
theorem dL_writeRow_17 : decode cL_writeRow 17 = .ok (.ireturn, 1) := by decide +kernel
theorem dL_writeRow_18 : decode cL_writeRow 18 = .ok (.iconst 0, 1) := by decide +kernel
theorem dL_writeRow_19 : decode cL_writeRow 19 = .ok (.ireturn, 1) := by decide +kernel
theorem dL_writeMap_0 : decode cL_writeMap 0 = .ok (.aload_n 2, 1) := by decide +kernel
theorem dL_writeMap_1 : decode cL_writeMap 1 = .ok (.iconst 0, 1) := by decide +kernel
theorem dL_writeMap_2 : decode cL_writeMap 2 = .ok (.aload_n 0, 1) := by decide +kernel
theorem dL_writeMap_3 : decode cL_writeMap 3 = .ok (.iload_n 1, 1) := by decide +kernel
theorem dL_writeMap_4 : decode cL_writeMap 4 = .ok (.invokevirtual 138, 3) := by decide +kernel
theorem dL_writeMap_7 : decode cL_writeMap 7 = .ok (.i2l, 1) := by decide +kernel
theorem dL_writeMap_8 : decode cL_writeMap 8 = .ok (.lastore, 1) := by decide +kernel
theorem dL_writeMap_9 : decode cL_writeMap 9 = .ok (.goto 9, 3) := by decide +kernel
theorem dL_writeMap_12 : decode cL_writeMap 12 = .ok (.astore_n 3, 1) := by decide +kernel
theorem dL_writeMap_13 : decode cL_writeMap 13 = .ok (.iconst 1, 1) := by decide +kernel
theorem dL_writeMap_14 : decode cL_writeMap 14 = .ok (.ireturn, 1) := by decide +kernel
theorem dL_writeMap_15 : decode cL_writeMap 15 = .ok (.astore_n 3, 1) := by decide +kernel
theorem dL_writeMap_16 : decode cL_writeMap 16 = .ok (.iconst 2, 1) := by decide +kernel
theorem dL_writeMap_17 : decode cL_writeMap 17 = .ok (.ireturn, 1) := by decide +kernel
theorem dL_writeMap_18 : decode cL_writeMap 18 = .ok (.iconst 0, 1) := by decide +kernel
theorem dL_writeMap_19 : decode cL_writeMap 19 = .ok (.ireturn, 1) := by decide +kernel
theorem dL_textByte_0 : decode cL_textByte 0 = .ok (.aload_n 2, 1) := by decide +kernel
theorem dL_textByte_1 : decode cL_textByte 1 = .ok (.iconst 0, 1) := by decide +kernel
theorem dL_textByte_2 : decode cL_textByte 2 = .ok (.aload_n 0, 1) := by decide +kernel
theorem dL_textByte_3 : decode cL_textByte 3 = .ok (.iload_n 1, 1) := by decide +kernel
theorem dL_textByte_4 : decode cL_textByte 4 = .ok (.invokevirtual 141, 3) := by decide +kernel
theorem dL_textByte_7 : decode cL_textByte 7 = .ok (.i2l, 1) := by decide +kernel
theorem dL_textByte_8 : decode cL_textByte 8 = .ok (.lastore, 1) := by decide +kernel
theorem dL_textByte_9 : decode cL_textByte 9 = .ok (.goto 6, 3) := by decide +kernel
theorem dL_textByte_12 : decode cL_textByte 12 = .ok (.astore_n 3, 1) := by decide +kernel
theorem dL_textByte_13 : decode cL_textByte 13 = .ok (.iconst 1, 1) := by decide +kernel
theorem dL_textByte_14 : decode cL_textByte 14 = .ok (.ireturn, 1) := by decide +kernel
theorem dL_textByte_15 : decode cL_textByte 15 = .ok (.iconst 0, 1) := by decide +kernel
theorem dL_textByte_16 : decode cL_textByte 16 = .ok (.ireturn, 1) := by decide +kernel
theorem dL_nodesIfOff_0 : decode cL_nodesIfOff 0 = .ok (.aload 4, 2) := by decide +kernel
theorem dL_nodesIfOff_2 : decode cL_nodesIfOff 2 = .ok (.iconst 0, 1) := by decide +kernel
theorem dL_nodesIfOff_3 : decode cL_nodesIfOff 3 = .ok (.aload_n 0, 1) := by decide +kernel
theorem dL_nodesIfOff_4 : decode cL_nodesIfOff 4 = .ok (.iload_n 1, 1) := by decide +kernel
theorem dL_nodesIfOff_5 : decode cL_nodesIfOff 5 = .ok (.iload_n 2, 1) := by decide +kernel
theorem dL_nodesIfOff_6 : decode cL_nodesIfOff 6 = .ok (.iload_n 3, 1) := by decide +kernel
theorem dL_nodesIfOff_7 : decode cL_nodesIfOff 7 = .ok (.invokevirtual 144, 3) := by decide +kernel
theorem dL_nodesIfOff_10 : decode cL_nodesIfOff 10 = .ok (.i2l, 1) := by decide +kernel
theorem dL_nodesIfOff_11 : decode cL_nodesIfOff 11 = .ok (.lastore, 1) := by decide +kernel
theorem dL_nodesIfOff_12 : decode cL_nodesIfOff 12 = .ok (.goto 15, 3) := by decide +kernel
theorem dL_nodesIfOff_15 : decode cL_nodesIfOff 15 = .ok (.astore 5, 2) := by decide +kernel
theorem dL_nodesIfOff_17 : decode cL_nodesIfOff 17 = .ok (.iconst 1, 1) := by decide +kernel
theorem dL_nodesIfOff_18 : decode cL_nodesIfOff 18 = .ok (.ireturn, 1) := by decide +kernel
theorem dL_nodesIfOff_19 : decode cL_nodesIfOff 19 = .ok (.astore 5, 2) := by decide +kernel
theorem dL_nodesIfOff_21 : decode cL_nodesIfOff 21 = .ok (.iconst 2, 1) := by decide +kernel
theorem dL_nodesIfOff_22 : decode cL_nodesIfOff 22 = .ok (.ireturn, 1) := by decide +kernel
theorem dL_nodesIfOff_23 : decode cL_nodesIfOff 23 = .ok (.astore 5, 2) := by decide +kernel
theorem dL_nodesIfOff_25 : decode cL_nodesIfOff 25 = .ok (.iconst 3, 1) := by decide +kernel
theorem dL_nodesIfOff_26 : decode cL_nodesIfOff 26 = .ok (.ireturn, 1) := by decide +kernel
theorem dL_nodesIfOff_27 : decode cL_nodesIfOff 27 = .ok (.iconst 0, 1) := by decide +kernel
theorem dL_nodesIfOff_28 : decode cL_nodesIfOff 28 = .ok (.ireturn, 1) := by decide +kernel
theorem dL_bestPhase_0 : decode cL_bestPhase 0 = .ok (.aload 5, 2) := by decide +kernel
theorem dL_bestPhase_2 : decode cL_bestPhase 2 = .ok (.iconst 0, 1) := by decide +kernel
theorem dL_bestPhase_3 : decode cL_bestPhase 3 = .ok (.aload_n 0, 1) := by decide +kernel
theorem dL_bestPhase_4 : decode cL_bestPhase 4 = .ok (.iload_n 1, 1) := by decide +kernel
theorem dL_bestPhase_5 : decode cL_bestPhase 5 = .ok (.iload_n 2, 1) := by decide +kernel
theorem dL_bestPhase_6 : decode cL_bestPhase 6 = .ok (.iload_n 3, 1) := by decide +kernel
theorem dL_bestPhase_7 : decode cL_bestPhase 7 = .ok (.iload 4, 2) := by decide +kernel
theorem dL_bestPhase_9 : decode cL_bestPhase 9 = .ok (.invokevirtual 147, 3) := by decide +kernel
theorem dL_bestPhase_12 : decode cL_bestPhase 12 = .ok (.i2l, 1) := by decide +kernel
theorem dL_bestPhase_13 : decode cL_bestPhase 13 = .ok (.lastore, 1) := by decide +kernel
theorem dL_bestPhase_14 : decode cL_bestPhase 14 = .ok (.goto 15, 3) := by decide +kernel
theorem dL_bestPhase_17 : decode cL_bestPhase 17 = .ok (.astore 6, 2) := by decide +kernel
theorem dL_bestPhase_19 : decode cL_bestPhase 19 = .ok (.iconst 1, 1) := by decide +kernel
theorem dL_bestPhase_20 : decode cL_bestPhase 20 = .ok (.ireturn, 1) := by decide +kernel
theorem dL_bestPhase_21 : decode cL_bestPhase 21 = .ok (.astore 6, 2) := by decide +kernel
theorem dL_bestPhase_23 : decode cL_bestPhase 23 = .ok (.iconst 2, 1) := by decide +kernel
theorem dL_bestPhase_24 : decode cL_bestPhase 24 = .ok (.ireturn, 1) := by decide +kernel
theorem dL_bestPhase_25 : decode cL_bestPhase 25 = .ok (.astore 6, 2) := by decide +kernel
theorem dL_bestPhase_27 : decode cL_bestPhase 27 = .ok (.iconst 3, 1) := by decide +kernel
theorem dL_bestPhase_28 : decode cL_bestPhase 28 = .ok (.ireturn, 1) := by decide +kernel
theorem dL_bestPhase_29 : decode cL_bestPhase 29 = .ok (.iconst 0, 1) := by decide +kernel
theorem dL_bestPhase_30 : decode cL_bestPhase 30 = .ok (.ireturn, 1) := by decide +kernel
theorem dL_bestPlace_0 : decode cL_bestPlace 0 = .ok (.aload 5, 2) := by decide +kernel
theorem dL_bestPlace_2 : decode cL_bestPlace 2 = .ok (.iconst 0, 1) := by decide +kernel
theorem dL_bestPlace_3 : decode cL_bestPlace 3 = .ok (.aload_n 0, 1) := by decide +kernel
theorem dL_bestPlace_4 : decode cL_bestPlace 4 = .ok (.iload_n 1, 1) := by decide +kernel
theorem dL_bestPlace_5 : decode cL_bestPlace 5 = .ok (.iload_n 2, 1) := by decide +kernel
theorem dL_bestPlace_6 : decode cL_bestPlace 6 = .ok (.iload_n 3, 1) := by decide +kernel
theorem dL_bestPlace_7 : decode cL_bestPlace 7 = .ok (.iload 4, 2) := by decide +kernel
theorem dL_bestPlace_9 : decode cL_bestPlace 9 = .ok (.invokevirtual 150, 3) := by decide +kernel
theorem dL_bestPlace_12 : decode cL_bestPlace 12 = .ok (.i2l, 1) := by decide +kernel
theorem dL_bestPlace_13 : decode cL_bestPlace 13 = .ok (.lastore, 1) := by decide +kernel
theorem dL_bestPlace_14 : decode cL_bestPlace 14 = .ok (.goto 15, 3) := by decide +kernel
theorem dL_bestPlace_17 : decode cL_bestPlace 17 = .ok (.astore 6, 2) := by decide +kernel
theorem dL_bestPlace_19 : decode cL_bestPlace 19 = .ok (.iconst 1, 1) := by decide +kernel
theorem dL_bestPlace_20 : decode cL_bestPlace 20 = .ok (.ireturn, 1) := by decide +kernel
theorem dL_bestPlace_21 : decode cL_bestPlace 21 = .ok (.astore 6, 2) := by decide +kernel
theorem dL_bestPlace_23 : decode cL_bestPlace 23 = .ok (.iconst 2, 1) := by decide +kernel
theorem dL_bestPlace_24 : decode cL_bestPlace 24 = .ok (.ireturn, 1) := by decide +kernel
theorem dL_bestPlace_25 : decode cL_bestPlace 25 = .ok (.astore 6, 2) := by decide +kernel
theorem dL_bestPlace_27 : decode cL_bestPlace 27 = .ok (.iconst 3, 1) := by decide +kernel
theorem dL_bestPlace_28 : decode cL_bestPlace 28 = .ok (.ireturn, 1) := by decide +kernel
theorem dL_bestPlace_29 : decode cL_bestPlace 29 = .ok (.iconst 0, 1) := by decide +kernel
theorem dL_bestPlace_30 : decode cL_bestPlace 30 = .ok (.ireturn, 1) := by decide +kernel
theorem dL_energyIfTurned_0 : decode cL_energyIfTurned 0 = .ok (.aload 5, 2) := by decide +kernel
theorem dL_energyIfTurned_2 : decode cL_energyIfTurned 2 = .ok (.iconst 0, 1) := by decide +kernel
theorem dL_energyIfTurned_3 : decode cL_energyIfTurned 3 = .ok (.aload_n 0, 1) := by decide +kernel
theorem dL_energyIfTurned_4 : decode cL_energyIfTurned 4 = .ok (.iload_n 1, 1) := by decide +kernel
theorem dL_energyIfTurned_5 : decode cL_energyIfTurned 5 = .ok (.iload_n 2, 1) := by decide +kernel
theorem dL_energyIfTurned_6 : decode cL_energyIfTurned 6 = .ok (.iload_n 3, 1) := by decide +kernel
theorem dL_energyIfTurned_7 : decode cL_energyIfTurned 7 = .ok (.iload 4, 2) := by decide +kernel
theorem dL_energyIfTurned_9 : decode cL_energyIfTurned 9 = .ok (.invokevirtual 153, 3) := by decide +kernel
theorem dL_energyIfTurned_12 : decode cL_energyIfTurned 12 = .ok (.lastore, 1) := by decide +kernel
theorem dL_energyIfTurned_13 : decode cL_energyIfTurned 13 = .ok (.goto 15, 3) := by decide +kernel
theorem dL_energyIfTurned_16 : decode cL_energyIfTurned 16 = .ok (.astore 6, 2) := by decide +kernel
theorem dL_energyIfTurned_18 : decode cL_energyIfTurned 18 = .ok (.iconst 1, 1) := by decide +kernel
theorem dL_energyIfTurned_19 : decode cL_energyIfTurned 19 = .ok (.ireturn, 1) := by decide +kernel
theorem dL_energyIfTurned_20 : decode cL_energyIfTurned 20 = .ok (.astore 6, 2) := by decide +kernel
theorem dL_energyIfTurned_22 : decode cL_energyIfTurned 22 = .ok (.iconst 2, 1) := by decide +kernel
theorem dL_energyIfTurned_23 : decode cL_energyIfTurned 23 = .ok (.ireturn, 1) := by decide +kernel
theorem dL_energyIfTurned_24 : decode cL_energyIfTurned 24 = .ok (.astore 6, 2) := by decide +kernel
theorem dL_energyIfTurned_26 : decode cL_energyIfTurned 26 = .ok (.iconst 3, 1) := by decide +kernel
theorem dL_energyIfTurned_27 : decode cL_energyIfTurned 27 = .ok (.ireturn, 1) := by decide +kernel
theorem dL_energyIfTurned_28 : decode cL_energyIfTurned 28 = .ok (.iconst 0, 1) := by decide +kernel
theorem dL_energyIfTurned_29 : decode cL_energyIfTurned 29 = .ok (.ireturn, 1) := by decide +kernel
theorem dL_bestRow_0 : decode cL_bestRow 0 = .ok (.aload 4, 2) := by decide +kernel
theorem dL_bestRow_2 : decode cL_bestRow 2 = .ok (.iconst 0, 1) := by decide +kernel
theorem dL_bestRow_3 : decode cL_bestRow 3 = .ok (.aload_n 0, 1) := by decide +kernel
theorem dL_bestRow_4 : decode cL_bestRow 4 = .ok (.iload_n 1, 1) := by decide +kernel
theorem dL_bestRow_5 : decode cL_bestRow 5 = .ok (.iload_n 2, 1) := by decide +kernel
theorem dL_bestRow_6 : decode cL_bestRow 6 = .ok (.iload_n 3, 1) := by decide +kernel
theorem dL_bestRow_7 : decode cL_bestRow 7 = .ok (.invokevirtual 157, 3) := by decide +kernel
theorem dL_bestRow_10 : decode cL_bestRow 10 = .ok (.i2l, 1) := by decide +kernel
theorem dL_bestRow_11 : decode cL_bestRow 11 = .ok (.lastore, 1) := by decide +kernel
theorem dL_bestRow_12 : decode cL_bestRow 12 = .ok (.goto 15, 3) := by decide +kernel
theorem dL_bestRow_15 : decode cL_bestRow 15 = .ok (.astore 5, 2) := by decide +kernel
theorem dL_bestRow_17 : decode cL_bestRow 17 = .ok (.iconst 1, 1) := by decide +kernel
theorem dL_bestRow_18 : decode cL_bestRow 18 = .ok (.ireturn, 1) := by decide +kernel
theorem dL_bestRow_19 : decode cL_bestRow 19 = .ok (.astore 5, 2) := by decide +kernel
theorem dL_bestRow_21 : decode cL_bestRow 21 = .ok (.iconst 2, 1) := by decide +kernel
theorem dL_bestRow_22 : decode cL_bestRow 22 = .ok (.ireturn, 1) := by decide +kernel
theorem dL_bestRow_23 : decode cL_bestRow 23 = .ok (.astore 5, 2) := by decide +kernel
theorem dL_bestRow_25 : decode cL_bestRow 25 = .ok (.iconst 3, 1) := by decide +kernel
theorem dL_bestRow_26 : decode cL_bestRow 26 = .ok (.ireturn, 1) := by decide +kernel
theorem dL_bestRow_27 : decode cL_bestRow 27 = .ok (.iconst 0, 1) := by decide +kernel
theorem dL_bestRow_28 : decode cL_bestRow 28 = .ok (.ireturn, 1) := by decide +kernel
theorem dL_advance_0 : decode cL_advance 0 = .ok (.aload_n 2, 1) := by decide +kernel
theorem dL_advance_1 : decode cL_advance 1 = .ok (.iconst 0, 1) := by decide +kernel
theorem dL_advance_2 : decode cL_advance 2 = .ok (.aload_n 0, 1) := by decide +kernel
theorem dL_advance_3 : decode cL_advance 3 = .ok (.iload_n 1, 1) := by decide +kernel
theorem dL_advance_4 : decode cL_advance 4 = .ok (.invokevirtual 160, 3) := by decide +kernel
theorem dL_advance_7 : decode cL_advance 7 = .ok (.i2l, 1) := by decide +kernel
theorem dL_advance_8 : decode cL_advance 8 = .ok (.lastore, 1) := by decide +kernel
theorem dL_advance_9 : decode cL_advance 9 = .ok (.goto 9, 3) := by decide +kernel
theorem dL_advance_12 : decode cL_advance 12 = .ok (.astore_n 3, 1) := by decide +kernel
theorem dL_advance_13 : decode cL_advance 13 = .ok (.iconst 1, 1) := by decide +kernel
theorem dL_advance_14 : decode cL_advance 14 = .ok (.ireturn, 1) := by decide +kernel
theorem dL_advance_15 : decode cL_advance 15 = .ok (.astore_n 3, 1) := by decide +kernel
theorem dL_advance_16 : decode cL_advance 16 = .ok (.iconst 2, 1) := by decide +kernel
theorem dL_advance_17 : decode cL_advance 17 = .ok (.ireturn, 1) := by decide +kernel
theorem dL_advance_18 : decode cL_advance 18 = .ok (.iconst 0, 1) := by decide +kernel
theorem dL_advance_19 : decode cL_advance 19 = .ok (.ireturn, 1) := by decide +kernel
theorem dL_setOn_0 : decode cL_setOn 0 = .ok (.aload_n 3, 1) := by decide +kernel
theorem dL_setOn_1 : decode cL_setOn 1 = .ok (.iconst 0, 1) := by decide +kernel
theorem dL_setOn_2 : decode cL_setOn 2 = .ok (.aload_n 0, 1) := by decide +kernel
theorem dL_setOn_3 : decode cL_setOn 3 = .ok (.iload_n 1, 1) := by decide +kernel
theorem dL_setOn_4 : decode cL_setOn 4 = .ok (.iload_n 2, 1) := by decide +kernel
theorem dL_setOn_5 : decode cL_setOn 5 = .ok (.invokevirtual 163, 3) := by decide +kernel
theorem dL_setOn_8 : decode cL_setOn 8 = .ok (.ifCond .eq 7, 3) := by decide +kernel
theorem dL_setOn_11 : decode cL_setOn 11 = .ok (.lconst 1, 1) := by decide +kernel
theorem dL_setOn_12 : decode cL_setOn 12 = .ok (.goto 4, 3) := by decide +kernel
theorem dL_setOn_15 : decode cL_setOn 15 = .ok (.lconst 0, 1) := by decide +kernel
theorem dL_setOn_16 : decode cL_setOn 16 = .ok (.lastore, 1) := by decide +kernel
theorem dL_setOn_17 : decode cL_setOn 17 = .ok (.goto 11, 3) := by decide +kernel
theorem dL_setOn_20 : decode cL_setOn 20 = .ok (.astore 4, 2) := by decide +kernel
theorem dL_setOn_22 : decode cL_setOn 22 = .ok (.iconst 1, 1) := by decide +kernel
theorem dL_setOn_23 : decode cL_setOn 23 = .ok (.ireturn, 1) := by decide +kernel
theorem dL_setOn_24 : decode cL_setOn 24 = .ok (.astore 4, 2) := by decide +kernel
theorem dL_setOn_26 : decode cL_setOn 26 = .ok (.iconst 2, 1) := by decide +kernel
theorem dL_setOn_27 : decode cL_setOn 27 = .ok (.ireturn, 1) := by decide +kernel
theorem dL_setOn_28 : decode cL_setOn 28 = .ok (.iconst 0, 1) := by decide +kernel
theorem dL_setOn_29 : decode cL_setOn 29 = .ok (.ireturn, 1) := by decide +kernel
theorem dL_setPhase_0 : decode cL_setPhase 0 = .ok (.aload_n 3, 1) := by decide +kernel
theorem dL_setPhase_1 : decode cL_setPhase 1 = .ok (.iconst 0, 1) := by decide +kernel
theorem dL_setPhase_2 : decode cL_setPhase 2 = .ok (.aload_n 0, 1) := by decide +kernel
theorem dL_setPhase_3 : decode cL_setPhase 3 = .ok (.iload_n 1, 1) := by decide +kernel
theorem dL_setPhase_4 : decode cL_setPhase 4 = .ok (.iload_n 2, 1) := by decide +kernel
theorem dL_setPhase_5 : decode cL_setPhase 5 = .ok (.invokevirtual 167, 3) := by decide +kernel
theorem dL_setPhase_8 : decode cL_setPhase 8 = .ok (.i2l, 1) := by decide +kernel
theorem dL_setPhase_9 : decode cL_setPhase 9 = .ok (.lastore, 1) := by decide +kernel
theorem dL_setPhase_10 : decode cL_setPhase 10 = .ok (.goto 15, 3) := by decide +kernel
theorem dL_setPhase_13 : decode cL_setPhase 13 = .ok (.astore 4, 2) := by decide +kernel
theorem dL_setPhase_15 : decode cL_setPhase 15 = .ok (.iconst 1, 1) := by decide +kernel
theorem dL_setPhase_16 : decode cL_setPhase 16 = .ok (.ireturn, 1) := by decide +kernel
theorem dL_setPhase_17 : decode cL_setPhase 17 = .ok (.astore 4, 2) := by decide +kernel
theorem dL_setPhase_19 : decode cL_setPhase 19 = .ok (.iconst 2, 1) := by decide +kernel
theorem dL_setPhase_20 : decode cL_setPhase 20 = .ok (.ireturn, 1) := by decide +kernel
theorem dL_setPhase_21 : decode cL_setPhase 21 = .ok (.astore 4, 2) := by decide +kernel
theorem dL_setPhase_23 : decode cL_setPhase 23 = .ok (.iconst 3, 1) := by decide +kernel
theorem dL_setPhase_24 : decode cL_setPhase 24 = .ok (.ireturn, 1) := by decide +kernel
theorem dL_setPhase_25 : decode cL_setPhase 25 = .ok (.iconst 0, 1) := by decide +kernel
theorem dL_setPhase_26 : decode cL_setPhase 26 = .ok (.ireturn, 1) := by decide +kernel
theorem dL_setAmp_0 : decode cL_setAmp 0 = .ok (.aload_n 3, 1) := by decide +kernel
theorem dL_setAmp_1 : decode cL_setAmp 1 = .ok (.iconst 0, 1) := by decide +kernel
theorem dL_setAmp_2 : decode cL_setAmp 2 = .ok (.aload_n 0, 1) := by decide +kernel
theorem dL_setAmp_3 : decode cL_setAmp 3 = .ok (.iload_n 1, 1) := by decide +kernel
theorem dL_setAmp_4 : decode cL_setAmp 4 = .ok (.iload_n 2, 1) := by decide +kernel
theorem dL_setAmp_5 : decode cL_setAmp 5 = .ok (.invokevirtual 170, 3) := by decide +kernel
theorem dL_setAmp_8 : decode cL_setAmp 8 = .ok (.i2l, 1) := by decide +kernel
theorem dL_setAmp_9 : decode cL_setAmp 9 = .ok (.lastore, 1) := by decide +kernel
theorem dL_setAmp_10 : decode cL_setAmp 10 = .ok (.goto 15, 3) := by decide +kernel
theorem dL_setAmp_13 : decode cL_setAmp 13 = .ok (.astore 4, 2) := by decide +kernel
theorem dL_setAmp_15 : decode cL_setAmp 15 = .ok (.iconst 1, 1) := by decide +kernel
theorem dL_setAmp_16 : decode cL_setAmp 16 = .ok (.ireturn, 1) := by decide +kernel
theorem dL_setAmp_17 : decode cL_setAmp 17 = .ok (.astore 4, 2) := by decide +kernel
theorem dL_setAmp_19 : decode cL_setAmp 19 = .ok (.iconst 2, 1) := by decide +kernel
theorem dL_setAmp_20 : decode cL_setAmp 20 = .ok (.ireturn, 1) := by decide +kernel
theorem dL_setAmp_21 : decode cL_setAmp 21 = .ok (.astore 4, 2) := by decide +kernel
theorem dL_setAmp_23 : decode cL_setAmp 23 = .ok (.iconst 3, 1) := by decide +kernel
theorem dL_setAmp_24 : decode cL_setAmp 24 = .ok (.ireturn, 1) := by decide +kernel
theorem dL_setAmp_25 : decode cL_setAmp 25 = .ok (.iconst 0, 1) := by decide +kernel
theorem dL_setAmp_26 : decode cL_setAmp 26 = .ok (.ireturn, 1) := by decide +kernel
theorem dL_moveSource_0 : decode cL_moveSource 0 = .ok (.aload 4, 2) := by decide +kernel
theorem dL_moveSource_2 : decode cL_moveSource 2 = .ok (.iconst 0, 1) := by decide +kernel
theorem dL_moveSource_3 : decode cL_moveSource 3 = .ok (.aload_n 0, 1) := by decide +kernel
theorem dL_moveSource_4 : decode cL_moveSource 4 = .ok (.iload_n 1, 1) := by decide +kernel
theorem dL_moveSource_5 : decode cL_moveSource 5 = .ok (.iload_n 2, 1) := by decide +kernel
theorem dL_moveSource_6 : decode cL_moveSource 6 = .ok (.iload_n 3, 1) := by decide +kernel
theorem dL_moveSource_7 : decode cL_moveSource 7 = .ok (.invokevirtual 173, 3) := by decide +kernel
theorem dL_moveSource_10 : decode cL_moveSource 10 = .ok (.i2l, 1) := by decide +kernel
theorem dL_moveSource_11 : decode cL_moveSource 11 = .ok (.lastore, 1) := by decide +kernel
theorem dL_moveSource_12 : decode cL_moveSource 12 = .ok (.goto 11, 3) := by decide +kernel
theorem dL_moveSource_15 : decode cL_moveSource 15 = .ok (.astore 5, 2) := by decide +kernel
theorem dL_moveSource_17 : decode cL_moveSource 17 = .ok (.iconst 1, 1) := by decide +kernel
theorem dL_moveSource_18 : decode cL_moveSource 18 = .ok (.ireturn, 1) := by decide +kernel
theorem dL_moveSource_19 : decode cL_moveSource 19 = .ok (.astore 5, 2) := by decide +kernel
theorem dL_moveSource_21 : decode cL_moveSource 21 = .ok (.iconst 2, 1) := by decide +kernel
theorem dL_moveSource_22 : decode cL_moveSource 22 = .ok (.ireturn, 1) := by decide +kernel
theorem dL_moveSource_23 : decode cL_moveSource 23 = .ok (.iconst 0, 1) := by decide +kernel
theorem dL_moveSource_24 : decode cL_moveSource 24 = .ok (.ireturn, 1) := by decide +kernel
theorem dL_setDrift_0 : decode cL_setDrift 0 = .ok (.aload 4, 2) := by decide +kernel
theorem dL_setDrift_2 : decode cL_setDrift 2 = .ok (.iconst 0, 1) := by decide +kernel
theorem dL_setDrift_3 : decode cL_setDrift 3 = .ok (.aload_n 0, 1) := by decide +kernel
theorem dL_setDrift_4 : decode cL_setDrift 4 = .ok (.iload_n 1, 1) := by decide +kernel
theorem dL_setDrift_5 : decode cL_setDrift 5 = .ok (.iload_n 2, 1) := by decide +kernel
theorem dL_setDrift_6 : decode cL_setDrift 6 = .ok (.iload_n 3, 1) := by decide +kernel
theorem dL_setDrift_7 : decode cL_setDrift 7 = .ok (.invokevirtual 176, 3) := by decide +kernel
theorem dL_setDrift_10 : decode cL_setDrift 10 = .ok (.i2l, 1) := by decide +kernel
theorem dL_setDrift_11 : decode cL_setDrift 11 = .ok (.lastore, 1) := by decide +kernel
theorem dL_setDrift_12 : decode cL_setDrift 12 = .ok (.goto 15, 3) := by decide +kernel
theorem dL_setDrift_15 : decode cL_setDrift 15 = .ok (.astore 5, 2) := by decide +kernel
theorem dL_setDrift_17 : decode cL_setDrift 17 = .ok (.iconst 1, 1) := by decide +kernel
theorem dL_setDrift_18 : decode cL_setDrift 18 = .ok (.ireturn, 1) := by decide +kernel
theorem dL_setDrift_19 : decode cL_setDrift 19 = .ok (.astore 5, 2) := by decide +kernel
theorem dL_setDrift_21 : decode cL_setDrift 21 = .ok (.iconst 2, 1) := by decide +kernel
theorem dL_setDrift_22 : decode cL_setDrift 22 = .ok (.ireturn, 1) := by decide +kernel
theorem dL_setDrift_23 : decode cL_setDrift 23 = .ok (.astore 5, 2) := by decide +kernel
theorem dL_setDrift_25 : decode cL_setDrift 25 = .ok (.iconst 3, 1) := by decide +kernel
theorem dL_setDrift_26 : decode cL_setDrift 26 = .ok (.ireturn, 1) := by decide +kernel
theorem dL_setDrift_27 : decode cL_setDrift 27 = .ok (.iconst 0, 1) := by decide +kernel
theorem dL_setDrift_28 : decode cL_setDrift 28 = .ok (.ireturn, 1) := by decide +kernel
theorem dL_turnRow_0 : decode cL_turnRow 0 = .ok (.aload_n 2, 1) := by decide +kernel
theorem dL_turnRow_1 : decode cL_turnRow 1 = .ok (.iconst 0, 1) := by decide +kernel
theorem dL_turnRow_2 : decode cL_turnRow 2 = .ok (.aload_n 0, 1) := by decide +kernel
theorem dL_turnRow_3 : decode cL_turnRow 3 = .ok (.iload_n 1, 1) := by decide +kernel
theorem dL_turnRow_4 : decode cL_turnRow 4 = .ok (.invokevirtual 179, 3) := by decide +kernel
theorem dL_turnRow_7 : decode cL_turnRow 7 = .ok (.ifCond .eq 7, 3) := by decide +kernel
theorem dL_turnRow_10 : decode cL_turnRow 10 = .ok (.lconst 1, 1) := by decide +kernel
theorem dL_turnRow_11 : decode cL_turnRow 11 = .ok (.goto 4, 3) := by decide +kernel
theorem dL_turnRow_14 : decode cL_turnRow 14 = .ok (.lconst 0, 1) := by decide +kernel
theorem dL_turnRow_15 : decode cL_turnRow 15 = .ok (.lastore, 1) := by decide +kernel
theorem dL_turnRow_16 : decode cL_turnRow 16 = .ok (.goto 9, 3) := by decide +kernel
theorem dL_turnRow_19 : decode cL_turnRow 19 = .ok (.astore_n 3, 1) := by decide +kernel
theorem dL_turnRow_20 : decode cL_turnRow 20 = .ok (.iconst 1, 1) := by decide +kernel
theorem dL_turnRow_21 : decode cL_turnRow 21 = .ok (.ireturn, 1) := by decide +kernel
theorem dL_turnRow_22 : decode cL_turnRow 22 = .ok (.astore_n 3, 1) := by decide +kernel
theorem dL_turnRow_23 : decode cL_turnRow 23 = .ok (.iconst 2, 1) := by decide +kernel
theorem dL_turnRow_24 : decode cL_turnRow 24 = .ok (.ireturn, 1) := by decide +kernel
theorem dL_turnRow_25 : decode cL_turnRow 25 = .ok (.iconst 0, 1) := by decide +kernel
theorem dL_turnRow_26 : decode cL_turnRow 26 = .ok (.ireturn, 1) := by decide +kernel
theorem dL_undo_0 : decode cL_undo 0 = .ok (.aload_n 1, 1) := by decide +kernel
theorem dL_undo_1 : decode cL_undo 1 = .ok (.iconst 0, 1) := by decide +kernel
theorem dL_undo_2 : decode cL_undo 2 = .ok (.aload_n 0, 1) := by decide +kernel
theorem dL_undo_3 : decode cL_undo 3 = .ok (.invokevirtual 182, 3) := by decide +kernel
theorem dL_undo_6 : decode cL_undo 6 = .ok (.i2l, 1) := by decide +kernel
theorem dL_undo_7 : decode cL_undo 7 = .ok (.lastore, 1) := by decide +kernel
theorem dL_undo_8 : decode cL_undo 8 = .ok (.goto 6, 3) := by decide +kernel
theorem dL_undo_11 : decode cL_undo 11 = .ok (.astore_n 2, 1) := by decide +kernel
theorem dL_undo_12 : decode cL_undo 12 = .ok (.iconst 1, 1) := by decide +kernel
theorem dL_undo_13 : decode cL_undo 13 = .ok (.ireturn, 1) := by decide +kernel
theorem dL_undo_14 : decode cL_undo 14 = .ok (.iconst 0, 1) := by decide +kernel
theorem dL_undo_15 : decode cL_undo 15 = .ok (.ireturn, 1) := by decide +kernel
theorem dL_save_0 : decode cL_save 0 = .ok (.aload_n 2, 1) := by decide +kernel
theorem dL_save_1 : decode cL_save 1 = .ok (.iconst 0, 1) := by decide +kernel
theorem dL_save_2 : decode cL_save 2 = .ok (.aload_n 0, 1) := by decide +kernel
theorem dL_save_3 : decode cL_save 3 = .ok (.iload_n 1, 1) := by decide +kernel
theorem dL_save_4 : decode cL_save 4 = .ok (.invokevirtual 185, 3) := by decide +kernel
theorem dL_save_7 : decode cL_save 7 = .ok (.i2l, 1) := by decide +kernel
theorem dL_save_8 : decode cL_save 8 = .ok (.lastore, 1) := by decide +kernel
theorem dL_save_9 : decode cL_save 9 = .ok (.goto 9, 3) := by decide +kernel
theorem dL_save_12 : decode cL_save 12 = .ok (.astore_n 3, 1) := by decide +kernel
theorem dL_save_13 : decode cL_save 13 = .ok (.iconst 1, 1) := by decide +kernel
theorem dL_save_14 : decode cL_save 14 = .ok (.ireturn, 1) := by decide +kernel
theorem dL_save_15 : decode cL_save 15 = .ok (.astore_n 3, 1) := by decide +kernel
theorem dL_save_16 : decode cL_save 16 = .ok (.iconst 2, 1) := by decide +kernel
theorem dL_save_17 : decode cL_save 17 = .ok (.ireturn, 1) := by decide +kernel
theorem dL_save_18 : decode cL_save 18 = .ok (.iconst 0, 1) := by decide +kernel
theorem dL_save_19 : decode cL_save 19 = .ok (.ireturn, 1) := by decide +kernel
theorem dL_restore_0 : decode cL_restore 0 = .ok (.aload_n 2, 1) := by decide +kernel
theorem dL_restore_1 : decode cL_restore 1 = .ok (.iconst 0, 1) := by decide +kernel
theorem dL_restore_2 : decode cL_restore 2 = .ok (.aload_n 0, 1) := by decide +kernel
theorem dL_restore_3 : decode cL_restore 3 = .ok (.iload_n 1, 1) := by decide +kernel
theorem dL_restore_4 : decode cL_restore 4 = .ok (.invokevirtual 188, 3) := by decide +kernel
