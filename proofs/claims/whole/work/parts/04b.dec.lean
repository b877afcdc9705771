theorem dX9_sourceAt_9 : decode cX9_sourceAt 9 = .ok (.iload_n 2, 1) := by decide +kernel
theorem dX9_sourceAt_10 : decode cX9_sourceAt 10 = .ok (.iconst 0, 1) := by decide +kernel
theorem dX9_sourceAt_11 : decode cX9_sourceAt 11 = .ok (.iconst 1, 1) := by decide +kernel
theorem dX9_sourceAt_12 : decode cX9_sourceAt 12 = .ok (.invokestatic 153, 3) := by decide +kernel
theorem dX9_sourceAt_15 : decode cX9_sourceAt 15 = .ok (.iload_n 3, 1) := by decide +kernel
theorem dX9_sourceAt_16 : decode cX9_sourceAt 16 = .ok (.iconst 0, 1) := by decide +kernel
theorem dX9_sourceAt_17 : decode cX9_sourceAt 17 = .ok (.sipush 9999, 3) := by decide +kernel
theorem dX9_sourceAt_20 : decode cX9_sourceAt 20 = .ok (.invokestatic 153, 3) := by decide +kernel
theorem dX9_sourceAt_23 : decode cX9_sourceAt 23 = .ok (.iload_n 2, 1) := by decide +kernel
theorem dX9_sourceAt_24 : decode cX9_sourceAt 24 = .ok (.ifCond .ne 19, 3) := by decide +kernel
theorem dX9_sourceAt_27 : decode cX9_sourceAt 27 = .ok (.aload_n 0, 1) := by decide +kernel
theorem dX9_sourceAt_28 : decode cX9_sourceAt 28 = .ok (.getfield 72, 3) := by decide +kernel
theorem dX9_sourceAt_31 : decode cX9_sourceAt 31 = .ok (.aload_n 0, 1) := by decide +kernel
theorem dX9_sourceAt_32 : decode cX9_sourceAt 32 = .ok (.getfield 20, 3) := by decide +kernel
theorem dX9_sourceAt_35 : decode cX9_sourceAt 35 = .ok (.iload_n 1, 1) := by decide +kernel
theorem dX9_sourceAt_36 : decode cX9_sourceAt 36 = .ok (.iload_n 3, 1) := by decide +kernel
theorem dX9_sourceAt_37 : decode cX9_sourceAt 37 = .ok (.invokevirtual 157, 3) := by decide +kernel
theorem dX9_sourceAt_40 : decode cX9_sourceAt 40 = .ok (.goto 16, 3) := by decide +kernel
theorem dX9_sourceAt_43 : decode cX9_sourceAt 43 = .ok (.aload_n 0, 1) := by decide +kernel
theorem dX9_sourceAt_44 : decode cX9_sourceAt 44 = .ok (.getfield 72, 3) := by decide +kernel
theorem dX9_sourceAt_47 : decode cX9_sourceAt 47 = .ok (.aload_n 0, 1) := by decide +kernel
theorem dX9_sourceAt_48 : decode cX9_sourceAt 48 = .ok (.getfield 20, 3) := by decide +kernel
theorem dX9_sourceAt_51 : decode cX9_sourceAt 51 = .ok (.iload_n 1, 1) := by decide +kernel
theorem dX9_sourceAt_52 : decode cX9_sourceAt 52 = .ok (.iload_n 3, 1) := by decide +kernel
theorem dX9_sourceAt_53 : decode cX9_sourceAt 53 = .ok (.invokevirtual 161, 3) := by decide +kernel
theorem dX9_sourceAt_56 : decode cX9_sourceAt 56 = .ok (.ireturn, 1) := by decide +kernel
theorem dX9_property_0 : decode cX9_property 0 = .ok (.aload_n 0, 1) := by decide +kernel
theorem dX9_property_1 : decode cX9_property 1 = .ok (.invokevirtual 134, 3) := by decide +kernel
theorem dX9_property_4 : decode cX9_property 4 = .ok (.aload_n 0, 1) := by decide +kernel
theorem dX9_property_5 : decode cX9_property 5 = .ok (.iload_n 1, 1) := by decide +kernel
theorem dX9_property_6 : decode cX9_property 6 = .ok (.invokevirtual 150, 3) := by decide +kernel
theorem dX9_property_9 : decode cX9_property 9 = .ok (.iload_n 2, 1) := by decide +kernel
theorem dX9_property_10 : decode cX9_property 10 = .ok (.iconst 0, 1) := by decide +kernel
theorem dX9_property_11 : decode cX9_property 11 = .ok (.iconst 5, 1) := by decide +kernel
theorem dX9_property_12 : decode cX9_property 12 = .ok (.invokestatic 153, 3) := by decide +kernel
theorem dX9_property_15 : decode cX9_property 15 = .ok (.iload_n 2, 1) := by decide +kernel
theorem dX9_property_16 : decode cX9_property 16 = .ok (.tableswitch 95 0 4 #[36, 46, 59, 72, 82], 36) := by decide +kernel
theorem dX9_property_52 : decode cX9_property 52 = .ok (.aload_n 0, 1) := by decide +kernel
theorem dX9_property_53 : decode cX9_property 53 = .ok (.getfield 20, 3) := by decide +kernel
theorem dX9_property_56 : decode cX9_property 56 = .ok (.getfield 164, 3) := by decide +kernel
theorem dX9_property_59 : decode cX9_property 59 = .ok (.iload_n 1, 1) := by decide +kernel
theorem dX9_property_60 : decode cX9_property 60 = .ok (.iaload, 1) := by decide +kernel
theorem dX9_property_61 : decode cX9_property 61 = .ok (.ireturn, 1) := by decide +kernel
theorem dX9_property_62 : decode cX9_property 62 = .ok (.aload_n 0, 1) := by decide +kernel
theorem dX9_property_63 : decode cX9_property 63 = .ok (.getfield 72, 3) := by decide +kernel
theorem dX9_property_66 : decode cX9_property 66 = .ok (.getfield 167, 3) := by decide +kernel
theorem dX9_property_69 : decode cX9_property 69 = .ok (.iload_n 1, 1) := by decide +kernel
theorem dX9_property_70 : decode cX9_property 70 = .ok (.aaload, 1) := by decide +kernel
theorem dX9_property_71 : decode cX9_property 71 = .ok (.getfield 171, 3) := by decide +kernel
theorem dX9_property_74 : decode cX9_property 74 = .ok (.ireturn, 1) := by decide +kernel
theorem dX9_property_75 : decode cX9_property 75 = .ok (.aload_n 0, 1) := by decide +kernel
theorem dX9_property_76 : decode cX9_property 76 = .ok (.getfield 72, 3) := by decide +kernel
theorem dX9_property_79 : decode cX9_property 79 = .ok (.getfield 167, 3) := by decide +kernel
theorem dX9_property_82 : decode cX9_property 82 = .ok (.iload_n 1, 1) := by decide +kernel
theorem dX9_property_83 : decode cX9_property 83 = .ok (.aaload, 1) := by decide +kernel
theorem dX9_property_84 : decode cX9_property 84 = .ok (.getfield 176, 3) := by decide +kernel
theorem dX9_property_87 : decode cX9_property 87 = .ok (.ireturn, 1) := by decide +kernel
theorem dX9_property_88 : decode cX9_property 88 = .ok (.aload_n 0, 1) := by decide +kernel
theorem dX9_property_89 : decode cX9_property 89 = .ok (.getfield 20, 3) := by decide +kernel
theorem dX9_property_92 : decode cX9_property 92 = .ok (.getfield 179, 3) := by decide +kernel
theorem dX9_property_95 : decode cX9_property 95 = .ok (.iload_n 1, 1) := by decide +kernel
theorem dX9_property_96 : decode cX9_property 96 = .ok (.iaload, 1) := by decide +kernel
theorem dX9_property_97 : decode cX9_property 97 = .ok (.ireturn, 1) := by decide +kernel
theorem dX9_property_98 : decode cX9_property 98 = .ok (.aload_n 0, 1) := by decide +kernel
theorem dX9_property_99 : decode cX9_property 99 = .ok (.getfield 72, 3) := by decide +kernel
theorem dX9_property_102 : decode cX9_property 102 = .ok (.getfield 167, 3) := by decide +kernel
theorem dX9_property_105 : decode cX9_property 105 = .ok (.iload_n 1, 1) := by decide +kernel
theorem dX9_property_106 : decode cX9_property 106 = .ok (.aaload, 1) := by decide +kernel
theorem dX9_property_107 : decode cX9_property 107 = .ok (.getfield 182, 3) := by decide +kernel
theorem dX9_property_110 : decode cX9_property 110 = .ok (.ireturn, 1) := by decide +kernel
theorem dX9_property_111 : decode cX9_property 111 = .ok (.aload_n 0, 1) := by decide +kernel
theorem dX9_property_112 : decode cX9_property 112 = .ok (.getfield 72, 3) := by decide +kernel
theorem dX9_property_115 : decode cX9_property 115 = .ok (.getfield 167, 3) := by decide +kernel
theorem dX9_property_118 : decode cX9_property 118 = .ok (.iload_n 1, 1) := by decide +kernel
theorem dX9_property_119 : decode cX9_property 119 = .ok (.aaload, 1) := by decide +kernel
theorem dX9_property_120 : decode cX9_property 120 = .ok (.getfield 185, 3) := by decide +kernel
theorem dX9_property_123 : decode cX9_property 123 = .ok (.ireturn, 1) := by decide +kernel
theorem dX9_isOn_0 : decode cX9_isOn 0 = .ok (.aload_n 0, 1) := by decide +kernel
theorem dX9_isOn_1 : decode cX9_isOn 1 = .ok (.invokevirtual 134, 3) := by decide +kernel
theorem dX9_isOn_4 : decode cX9_isOn 4 = .ok (.aload_n 0, 1) := by decide +kernel
theorem dX9_isOn_5 : decode cX9_isOn 5 = .ok (.iload_n 1, 1) := by decide +kernel
theorem dX9_isOn_6 : decode cX9_isOn 6 = .ok (.invokevirtual 150, 3) := by decide +kernel
theorem dX9_isOn_9 : decode cX9_isOn 9 = .ok (.aload_n 0, 1) := by decide +kernel
theorem dX9_isOn_10 : decode cX9_isOn 10 = .ok (.getfield 20, 3) := by decide +kernel
theorem dX9_isOn_13 : decode cX9_isOn 13 = .ok (.getfield 188, 3) := by decide +kernel
theorem dX9_isOn_16 : decode cX9_isOn 16 = .ok (.iload_n 1, 1) := by decide +kernel
theorem dX9_isOn_17 : decode cX9_isOn 17 = .ok (.baload, 1) := by decide +kernel
theorem dX9_isOn_18 : decode cX9_isOn 18 = .ok (.ireturn, 1) := by decide +kernel
theorem dX9_amplitude_0 : decode cX9_amplitude 0 = .ok (.aload_n 0, 1) := by decide +kernel
theorem dX9_amplitude_1 : decode cX9_amplitude 1 = .ok (.invokevirtual 134, 3) := by decide +kernel
theorem dX9_amplitude_4 : decode cX9_amplitude 4 = .ok (.aload_n 0, 1) := by decide +kernel
theorem dX9_amplitude_5 : decode cX9_amplitude 5 = .ok (.iload_n 1, 1) := by decide +kernel
theorem dX9_amplitude_6 : decode cX9_amplitude 6 = .ok (.invokevirtual 150, 3) := by decide +kernel
theorem dX9_amplitude_9 : decode cX9_amplitude 9 = .ok (.iload_n 2, 1) := by decide +kernel
theorem dX9_amplitude_10 : decode cX9_amplitude 10 = .ok (.iconst 0, 1) := by decide +kernel
theorem dX9_amplitude_11 : decode cX9_amplitude 11 = .ok (.sipush 9999, 3) := by decide +kernel
theorem dX9_amplitude_14 : decode cX9_amplitude 14 = .ok (.invokestatic 153, 3) := by decide +kernel
theorem dX9_amplitude_17 : decode cX9_amplitude 17 = .ok (.aload_n 0, 1) := by decide +kernel
theorem dX9_amplitude_18 : decode cX9_amplitude 18 = .ok (.getfield 72, 3) := by decide +kernel
theorem dX9_amplitude_21 : decode cX9_amplitude 21 = .ok (.getfield 167, 3) := by decide +kernel
theorem dX9_amplitude_24 : decode cX9_amplitude 24 = .ok (.iload_n 1, 1) := by decide +kernel
theorem dX9_amplitude_25 : decode cX9_amplitude 25 = .ok (.aaload, 1) := by decide +kernel
theorem dX9_amplitude_26 : decode cX9_amplitude 26 = .ok (.aload_n 0, 1) := by decide +kernel
theorem dX9_amplitude_27 : decode cX9_amplitude 27 = .ok (.getfield 20, 3) := by decide +kernel
theorem dX9_amplitude_30 : decode cX9_amplitude 30 = .ok (.getfield 164, 3) := by decide +kernel
theorem dX9_amplitude_33 : decode cX9_amplitude 33 = .ok (.iload_n 1, 1) := by decide +kernel
theorem dX9_amplitude_34 : decode cX9_amplitude 34 = .ok (.iaload, 1) := by decide +kernel
theorem dX9_amplitude_35 : decode cX9_amplitude 35 = .ok (.iload_n 2, 1) := by decide +kernel
theorem dX9_amplitude_36 : decode cX9_amplitude 36 = .ok (.invokevirtual 191, 3) := by decide +kernel
theorem dX9_amplitude_39 : decode cX9_amplitude 39 = .ok (.ireturn, 1) := by decide +kernel
theorem dX9_sine_0 : decode cX9_sine 0 = .ok (.iload_n 1, 1) := by decide +kernel
theorem dX9_sine_1 : decode cX9_sine 1 = .ok (.iconst 0, 1) := by decide +kernel
theorem dX9_sine_2 : decode cX9_sine 2 = .ok (.sipush 359, 3) := by decide +kernel
theorem dX9_sine_5 : decode cX9_sine 5 = .ok (.invokestatic 153, 3) := by decide +kernel
theorem dX9_sine_8 : decode cX9_sine 8 = .ok (.iload_n 1, 1) := by decide +kernel
theorem dX9_sine_9 : decode cX9_sine 9 = .ok (.invokestatic 195, 3) := by decide +kernel
theorem dX9_sine_12 : decode cX9_sine 12 = .ok (.ireturn, 1) := by decide +kernel
theorem dX9_distance_0 : decode cX9_distance 0 = .ok (.iload_n 1, 1) := by decide +kernel
theorem dX9_distance_1 : decode cX9_distance 1 = .ok (.iconst 0, 1) := by decide +kernel
theorem dX9_distance_2 : decode cX9_distance 2 = .ok (.bipush 15, 2) := by decide +kernel
theorem dX9_distance_4 : decode cX9_distance 4 = .ok (.invokestatic 153, 3) := by decide +kernel
theorem dX9_distance_7 : decode cX9_distance 7 = .ok (.iload_n 2, 1) := by decide +kernel
theorem dX9_distance_8 : decode cX9_distance 8 = .ok (.iconst 0, 1) := by decide +kernel
theorem dX9_distance_9 : decode cX9_distance 9 = .ok (.bipush 9, 2) := by decide +kernel
theorem dX9_distance_11 : decode cX9_distance 11 = .ok (.invokestatic 153, 3) := by decide +kernel
theorem dX9_distance_14 : decode cX9_distance 14 = .ok (.aload_n 0, 1) := by decide +kernel
theorem dX9_distance_15 : decode cX9_distance 15 = .ok (.getfield 72, 3) := by decide +kernel
theorem dX9_distance_18 : decode cX9_distance 18 = .ok (.getfield 199, 3) := by decide +kernel
theorem dX9_distance_21 : decode cX9_distance 21 = .ok (.iload_n 1, 1) := by decide +kernel
theorem dX9_distance_22 : decode cX9_distance 22 = .ok (.iload_n 2, 1) := by decide +kernel
theorem dX9_distance_23 : decode cX9_distance 23 = .ok (.invokevirtual 203, 3) := by decide +kernel
theorem dX9_distance_26 : decode cX9_distance 26 = .ok (.ireturn, 1) := by decide +kernel
theorem dX9_isBehind_0 : decode cX9_isBehind 0 = .ok (.aload_n 0, 1) := by decide +kernel
theorem dX9_isBehind_1 : decode cX9_isBehind 1 = .ok (.invokevirtual 134, 3) := by decide +kernel
theorem dX9_isBehind_4 : decode cX9_isBehind 4 = .ok (.aload_n 0, 1) := by decide +kernel
theorem dX9_isBehind_5 : decode cX9_isBehind 5 = .ok (.iload_n 1, 1) := by decide +kernel
theorem dX9_isBehind_6 : decode cX9_isBehind 6 = .ok (.invokevirtual 150, 3) := by decide +kernel
theorem dX9_isBehind_9 : decode cX9_isBehind 9 = .ok (.aload_n 0, 1) := by decide +kernel
theorem dX9_isBehind_10 : decode cX9_isBehind 10 = .ok (.iload_n 2, 1) := by decide +kernel
theorem dX9_isBehind_11 : decode cX9_isBehind 11 = .ok (.iload_n 3, 1) := by decide +kernel
theorem dX9_isBehind_12 : decode cX9_isBehind 12 = .ok (.invokevirtual 206, 3) := by decide +kernel
theorem dX9_isBehind_15 : decode cX9_isBehind 15 = .ok (.aload_n 0, 1) := by decide +kernel
theorem dX9_isBehind_16 : decode cX9_isBehind 16 = .ok (.getfield 72, 3) := by decide +kernel
theorem dX9_isBehind_19 : decode cX9_isBehind 19 = .ok (.aload_n 0, 1) := by decide +kernel
theorem dX9_isBehind_20 : decode cX9_isBehind 20 = .ok (.getfield 72, 3) := by decide +kernel
theorem dX9_isBehind_23 : decode cX9_isBehind 23 = .ok (.aload_n 0, 1) := by decide +kernel
theorem dX9_isBehind_24 : decode cX9_isBehind 24 = .ok (.getfield 20, 3) := by decide +kernel
theorem dX9_isBehind_27 : decode cX9_isBehind 27 = .ok (.iload_n 1, 1) := by decide +kernel
theorem dX9_isBehind_28 : decode cX9_isBehind 28 = .ok (.aload_n 0, 1) := by decide +kernel
theorem dX9_isBehind_29 : decode cX9_isBehind 29 = .ok (.getfield 20, 3) := by decide +kernel
theorem dX9_isBehind_32 : decode cX9_isBehind 32 = .ok (.getfield 125, 3) := by decide +kernel
theorem dX9_isBehind_35 : decode cX9_isBehind 35 = .ok (.invokevirtual 157, 3) := by decide +kernel
theorem dX9_isBehind_38 : decode cX9_isBehind 38 = .ok (.iload_n 2, 1) := by decide +kernel
theorem dX9_isBehind_39 : decode cX9_isBehind 39 = .ok (.invokevirtual 210, 3) := by decide +kernel
theorem dX9_isBehind_42 : decode cX9_isBehind 42 = .ok (.ireturn, 1) := by decide +kernel
theorem dX9_path_0 : decode cX9_path 0 = .ok (.aload_n 0, 1) := by decide +kernel
theorem dX9_path_1 : decode cX9_path 1 = .ok (.invokevirtual 134, 3) := by decide +kernel
theorem dX9_path_4 : decode cX9_path 4 = .ok (.aload_n 0, 1) := by decide +kernel
theorem dX9_path_5 : decode cX9_path 5 = .ok (.iload_n 1, 1) := by decide +kernel
theorem dX9_path_6 : decode cX9_path 6 = .ok (.invokevirtual 150, 3) := by decide +kernel
theorem dX9_path_9 : decode cX9_path 9 = .ok (.aload_n 0, 1) := by decide +kernel
theorem dX9_path_10 : decode cX9_path 10 = .ok (.iload_n 2, 1) := by decide +kernel
theorem dX9_path_11 : decode cX9_path 11 = .ok (.iload_n 3, 1) := by decide +kernel
theorem dX9_path_12 : decode cX9_path 12 = .ok (.invokevirtual 206, 3) := by decide +kernel
theorem dX9_path_15 : decode cX9_path 15 = .ok (.aload_n 0, 1) := by decide +kernel
theorem dX9_path_16 : decode cX9_path 16 = .ok (.iload 4, 2) := by decide +kernel
theorem dX9_path_18 : decode cX9_path 18 = .ok (.invokevirtual 143, 3) := by decide +kernel
theorem dX9_path_21 : decode cX9_path 21 = .ok (.aload_n 0, 1) := by decide +kernel
theorem dX9_path_22 : decode cX9_path 22 = .ok (.getfield 72, 3) := by decide +kernel
theorem dX9_path_25 : decode cX9_path 25 = .ok (.getfield 137, 3) := by decide +kernel
theorem dX9_path_28 : decode cX9_path 28 = .ok (.iconst (-1), 1) := by decide +kernel
theorem dX9_path_29 : decode cX9_path 29 = .ok (.if_icmp .ne 5, 3) := by decide +kernel
theorem dX9_path_32 : decode cX9_path 32 = .ok (.iconst (-1), 1) := by decide +kernel
theorem dX9_path_33 : decode cX9_path 33 = .ok (.ireturn, 1) := by decide +kernel
theorem dX9_path_34 : decode cX9_path 34 = .ok (.aload_n 0, 1) := by decide +kernel
theorem dX9_path_35 : decode cX9_path 35 = .ok (.getfield 72, 3) := by decide +kernel
theorem dX9_path_38 : decode cX9_path 38 = .ok (.aload_n 0, 1) := by decide +kernel
theorem dX9_path_39 : decode cX9_path 39 = .ok (.getfield 20, 3) := by decide +kernel
theorem dX9_path_42 : decode cX9_path 42 = .ok (.iload_n 1, 1) := by decide +kernel
theorem dX9_path_43 : decode cX9_path 43 = .ok (.aload_n 0, 1) := by decide +kernel
theorem dX9_path_44 : decode cX9_path 44 = .ok (.getfield 20, 3) := by decide +kernel
theorem dX9_path_47 : decode cX9_path 47 = .ok (.getfield 125, 3) := by decide +kernel
theorem dX9_path_50 : decode cX9_path 50 = .ok (.invokevirtual 157, 3) := by decide +kernel
theorem dX9_path_53 : decode cX9_path 53 = .ok (.istore 5, 2) := by decide +kernel
theorem dX9_path_55 : decode cX9_path 55 = .ok (.aload_n 0, 1) := by decide +kernel
theorem dX9_path_56 : decode cX9_path 56 = .ok (.getfield 72, 3) := by decide +kernel
theorem dX9_path_59 : decode cX9_path 59 = .ok (.aload_n 0, 1) := by decide +kernel
theorem dX9_path_60 : decode cX9_path 60 = .ok (.getfield 20, 3) := by decide +kernel
theorem dX9_path_63 : decode cX9_path 63 = .ok (.iload_n 1, 1) := by decide +kernel
theorem dX9_path_64 : decode cX9_path 64 = .ok (.aload_n 0, 1) := by decide +kernel
theorem dX9_path_65 : decode cX9_path 65 = .ok (.getfield 20, 3) := by decide +kernel
theorem dX9_path_68 : decode cX9_path 68 = .ok (.getfield 125, 3) := by decide +kernel
theorem dX9_path_71 : decode cX9_path 71 = .ok (.invokevirtual 161, 3) := by decide +kernel
theorem dX9_path_74 : decode cX9_path 74 = .ok (.istore 6, 2) := by decide +kernel
theorem dX9_path_76 : decode cX9_path 76 = .ok (.aload_n 0, 1) := by decide +kernel
theorem dX9_path_77 : decode cX9_path 77 = .ok (.getfield 72, 3) := by decide +kernel
theorem dX9_path_80 : decode cX9_path 80 = .ok (.iload 4, 2) := by decide +kernel
theorem dX9_path_82 : decode cX9_path 82 = .ok (.iload 5, 2) := by decide +kernel
theorem dX9_path_84 : decode cX9_path 84 = .ok (.iload 6, 2) := by decide +kernel
theorem dX9_path_86 : decode cX9_path 86 = .ok (.iload_n 2, 1) := by decide +kernel
theorem dX9_path_87 : decode cX9_path 87 = .ok (.iload_n 3, 1) := by decide +kernel
theorem dX9_path_88 : decode cX9_path 88 = .ok (.invokevirtual 214, 3) := by decide +kernel
theorem dX9_path_91 : decode cX9_path 91 = .ok (.ireturn, 1) := by decide +kernel
theorem dX9_shortest_0 : decode cX9_shortest 0 = .ok (.aload_n 0, 1) := by decide +kernel
theorem dX9_shortest_1 : decode cX9_shortest 1 = .ok (.invokevirtual 134, 3) := by decide +kernel
theorem dX9_shortest_4 : decode cX9_shortest 4 = .ok (.aload_n 0, 1) := by decide +kernel
theorem dX9_shortest_5 : decode cX9_shortest 5 = .ok (.iload_n 1, 1) := by decide +kernel
theorem dX9_shortest_6 : decode cX9_shortest 6 = .ok (.invokevirtual 150, 3) := by decide +kernel
theorem dX9_shortest_9 : decode cX9_shortest 9 = .ok (.aload_n 0, 1) := by decide +kernel
theorem dX9_shortest_10 : decode cX9_shortest 10 = .ok (.iload_n 2, 1) := by decide +kernel
theorem dX9_shortest_11 : decode cX9_shortest 11 = .ok (.iload_n 3, 1) := by decide +kernel
theorem dX9_shortest_12 : decode cX9_shortest 12 = .ok (.invokevirtual 206, 3) := by decide +kernel
theorem dX9_shortest_15 : decode cX9_shortest 15 = .ok (.aload_n 0, 1) := by decide +kernel
theorem dX9_shortest_16 : decode cX9_shortest 16 = .ok (.getfield 72, 3) := by decide +kernel
theorem dX9_shortest_19 : decode cX9_shortest 19 = .ok (.aload_n 0, 1) := by decide +kernel
theorem dX9_shortest_20 : decode cX9_shortest 20 = .ok (.getfield 20, 3) := by decide +kernel
theorem dX9_shortest_23 : decode cX9_shortest 23 = .ok (.iload_n 1, 1) := by decide +kernel
theorem dX9_shortest_24 : decode cX9_shortest 24 = .ok (.iload_n 2, 1) := by decide +kernel
theorem dX9_shortest_25 : decode cX9_shortest 25 = .ok (.iload_n 3, 1) := by decide +kernel
theorem dX9_shortest_26 : decode cX9_shortest 26 = .ok (.invokevirtual 218, 3) := by decide +kernel
theorem dX9_shortest_29 : decode cX9_shortest 29 = .ok (.ireturn, 1) := by decide +kernel
theorem dX9_phase_0 : decode cX9_phase 0 = .ok (.aload_n 0, 1) := by decide +kernel
theorem dX9_phase_1 : decode cX9_phase 1 = .ok (.invokevirtual 134, 3) := by decide +kernel
theorem dX9_phase_4 : decode cX9_phase 4 = .ok (.aload_n 0, 1) := by decide +kernel
theorem dX9_phase_5 : decode cX9_phase 5 = .ok (.iload_n 1, 1) := by decide +kernel
theorem dX9_phase_6 : decode cX9_phase 6 = .ok (.invokevirtual 150, 3) := by decide +kernel
theorem dX9_phase_9 : decode cX9_phase 9 = .ok (.aload_n 0, 1) := by decide +kernel
theorem dX9_phase_10 : decode cX9_phase 10 = .ok (.iload_n 2, 1) := by decide +kernel
theorem dX9_phase_11 : decode cX9_phase 11 = .ok (.iload_n 3, 1) := by decide +kernel
theorem dX9_phase_12 : decode cX9_phase 12 = .ok (.invokevirtual 206, 3) := by decide +kernel
theorem dX9_phase_15 : decode cX9_phase 15 = .ok (.aload_n 0, 1) := by decide +kernel
theorem dX9_phase_16 : decode cX9_phase 16 = .ok (.getfield 72, 3) := by decide +kernel
theorem dX9_phase_19 : decode cX9_phase 19 = .ok (.aload_n 0, 1) := by decide +kernel
theorem dX9_phase_20 : decode cX9_phase 20 = .ok (.getfield 20, 3) := by decide +kernel
theorem dX9_phase_23 : decode cX9_phase 23 = .ok (.iload_n 1, 1) := by decide +kernel
theorem dX9_phase_24 : decode cX9_phase 24 = .ok (.iload_n 2, 1) := by decide +kernel
theorem dX9_phase_25 : decode cX9_phase 25 = .ok (.iload_n 3, 1) := by decide +kernel
theorem dX9_phase_26 : decode cX9_phase 26 = .ok (.invokevirtual 218, 3) := by decide +kernel
theorem dX9_phase_29 : decode cX9_phase 29 = .ok (.istore 4, 2) := by decide +kernel
theorem dX9_phase_31 : decode cX9_phase 31 = .ok (.iload 4, 2) := by decide +kernel
theorem dX9_phase_33 : decode cX9_phase 33 = .ok (.iconst (-1), 1) := by decide +kernel
theorem dX9_phase_34 : decode cX9_phase 34 = .ok (.if_icmp .ne 5, 3) := by decide +kernel
theorem dX9_phase_37 : decode cX9_phase 37 = .ok (.iconst (-1), 1) := by decide +kernel
theorem dX9_phase_38 : decode cX9_phase 38 = .ok (.ireturn, 1) := by decide +kernel
theorem dX9_phase_39 : decode cX9_phase 39 = .ok (.aload_n 0, 1) := by decide +kernel
theorem dX9_phase_40 : decode cX9_phase 40 = .ok (.getfield 72, 3) := by decide +kernel
theorem dX9_phase_43 : decode cX9_phase 43 = .ok (.getfield 167, 3) := by decide +kernel
theorem dX9_phase_46 : decode cX9_phase 46 = .ok (.iload_n 1, 1) := by decide +kernel
theorem dX9_phase_47 : decode cX9_phase 47 = .ok (.aaload, 1) := by decide +kernel
theorem dX9_phase_48 : decode cX9_phase 48 = .ok (.aload_n 0, 1) := by decide +kernel
theorem dX9_phase_49 : decode cX9_phase 49 = .ok (.getfield 20, 3) := by decide +kernel
theorem dX9_phase_52 : decode cX9_phase 52 = .ok (.getfield 179, 3) := by decide +kernel
theorem dX9_phase_55 : decode cX9_phase 55 = .ok (.iload_n 1, 1) := by decide +kernel
theorem dX9_phase_56 : decode cX9_phase 56 = .ok (.iaload, 1) := by decide +kernel
theorem dX9_phase_57 : decode cX9_phase 57 = .ok (.iload 4, 2) := by decide +kernel
theorem dX9_phase_59 : decode cX9_phase 59 = .ok (.aload_n 0, 1) := by decide +kernel
theorem dX9_phase_60 : decode cX9_phase 60 = .ok (.getfield 20, 3) := by decide +kernel
theorem dX9_phase_63 : decode cX9_phase 63 = .ok (.getfield 125, 3) := by decide +kernel
theorem dX9_phase_66 : decode cX9_phase 66 = .ok (.invokevirtual 222, 3) := by decide +kernel
theorem dX9_phase_69 : decode cX9_phase 69 = .ok (.ireturn, 1) := by decide +kernel
theorem dX9_arrival_0 : decode cX9_arrival 0 = .ok (.aload_n 0, 1) := by decide +kernel
theorem dX9_arrival_1 : decode cX9_arrival 1 = .ok (.invokevirtual 134, 3) := by decide +kernel
theorem dX9_arrival_4 : decode cX9_arrival 4 = .ok (.aload_n 0, 1) := by decide +kernel
theorem dX9_arrival_5 : decode cX9_arrival 5 = .ok (.iload_n 1, 1) := by decide +kernel
theorem dX9_arrival_6 : decode cX9_arrival 6 = .ok (.invokevirtual 150, 3) := by decide +kernel
theorem dX9_arrival_9 : decode cX9_arrival 9 = .ok (.aload_n 0, 1) := by decide +kernel
theorem dX9_arrival_10 : decode cX9_arrival 10 = .ok (.iload_n 2, 1) := by decide +kernel
theorem dX9_arrival_11 : decode cX9_arrival 11 = .ok (.iload_n 3, 1) := by decide +kernel
theorem dX9_arrival_12 : decode cX9_arrival 12 = .ok (.invokevirtual 206, 3) := by decide +kernel
theorem dX9_arrival_15 : decode cX9_arrival 15 = .ok (.aload_n 0, 1) := by decide +kernel
theorem dX9_arrival_16 : decode cX9_arrival 16 = .ok (.getfield 72, 3) := by decide +kernel
theorem dX9_arrival_19 : decode cX9_arrival 19 = .ok (.aload_n 0, 1) := by decide +kernel
theorem dX9_arrival_20 : decode cX9_arrival 20 = .ok (.getfield 20, 3) := by decide +kernel
theorem dX9_arrival_23 : decode cX9_arrival 23 = .ok (.iload_n 1, 1) := by decide +kernel
theorem dX9_arrival_24 : decode cX9_arrival 24 = .ok (.iload_n 2, 1) := by decide +kernel
theorem dX9_arrival_25 : decode cX9_arrival 25 = .ok (.iload_n 3, 1) := by decide +kernel
theorem dX9_arrival_26 : decode cX9_arrival 26 = .ok (.invokevirtual 226, 3) := by decide +kernel
theorem dX9_arrival_29 : decode cX9_arrival 29 = .ok (.ireturn, 1) := by decide +kernel
theorem dX9_reached_0 : decode cX9_reached 0 = .ok (.aload_n 0, 1) := by decide +kernel
theorem dX9_reached_1 : decode cX9_reached 1 = .ok (.invokevirtual 134, 3) := by decide +kernel
theorem dX9_reached_4 : decode cX9_reached 4 = .ok (.aload_n 0, 1) := by decide +kernel
theorem dX9_reached_5 : decode cX9_reached 5 = .ok (.iload_n 1, 1) := by decide +kernel
theorem dX9_reached_6 : decode cX9_reached 6 = .ok (.invokevirtual 150, 3) := by decide +kernel
theorem dX9_reached_9 : decode cX9_reached 9 = .ok (.iconst 0, 1) := by decide +kernel
theorem dX9_reached_10 : decode cX9_reached 10 = .ok (.istore_n 2, 1) := by decide +kernel
theorem dX9_reached_11 : decode cX9_reached 11 = .ok (.iconst 0, 1) := by decide +kernel
theorem dX9_reached_12 : decode cX9_reached 12 = .ok (.istore_n 3, 1) := by decide +kernel
theorem dX9_reached_13 : decode cX9_reached 13 = .ok (.iload_n 3, 1) := by decide +kernel
theorem dX9_reached_14 : decode cX9_reached 14 = .ok (.aload_n 0, 1) := by decide +kernel
theorem dX9_reached_15 : decode cX9_reached 15 = .ok (.getfield 72, 3) := by decide +kernel
theorem dX9_reached_18 : decode cX9_reached 18 = .ok (.getfield 131, 3) := by decide +kernel
theorem dX9_reached_21 : decode cX9_reached 21 = .ok (.if_icmp .ge 68, 3) := by decide +kernel
theorem dX9_reached_24 : decode cX9_reached 24 = .ok (.iconst 0, 1) := by decide +kernel
theorem dX9_reached_25 : decode cX9_reached 25 = .ok (.istore 4, 2) := by decide +kernel
theorem dX9_reached_27 : decode cX9_reached 27 = .ok (.iload 4, 2) := by decide +kernel
theorem dX9_reached_29 : decode cX9_reached 29 = .ok (.aload_n 0, 1) := by decide +kernel
theorem dX9_reached_30 : decode cX9_reached 30 = .ok (.getfield 72, 3) := by decide +kernel
theorem dX9_reached_33 : decode cX9_reached 33 = .ok (.getfield 128, 3) := by decide +kernel
theorem dX9_reached_36 : decode cX9_reached 36 = .ok (.if_icmp .ge 47, 3) := by decide +kernel
theorem dX9_reached_39 : decode cX9_reached 39 = .ok (.aload_n 0, 1) := by decide +kernel
theorem dX9_reached_40 : decode cX9_reached 40 = .ok (.getfield 72, 3) := by decide +kernel
theorem dX9_reached_43 : decode cX9_reached 43 = .ok (.aload_n 0, 1) := by decide +kernel
theorem dX9_reached_44 : decode cX9_reached 44 = .ok (.getfield 20, 3) := by decide +kernel
theorem dX9_reached_47 : decode cX9_reached 47 = .ok (.iload_n 1, 1) := by decide +kernel
theorem dX9_reached_48 : decode cX9_reached 48 = .ok (.iload 4, 2) := by decide +kernel
theorem dX9_reached_50 : decode cX9_reached 50 = .ok (.iload_n 3, 1) := by decide +kernel
theorem dX9_reached_51 : decode cX9_reached 51 = .ok (.invokevirtual 226, 3) := by decide +kernel
theorem dX9_reached_54 : decode cX9_reached 54 = .ok (.istore 5, 2) := by decide +kernel
theorem dX9_reached_56 : decode cX9_reached 56 = .ok (.iload 5, 2) := by decide +kernel
theorem dX9_reached_58 : decode cX9_reached 58 = .ok (.iconst (-1), 1) := by decide +kernel
theorem dX9_reached_59 : decode cX9_reached 59 = .ok (.if_icmp .eq 18, 3) := by decide +kernel
theorem dX9_reached_62 : decode cX9_reached 62 = .ok (.iload 5, 2) := by decide +kernel
theorem dX9_reached_64 : decode cX9_reached 64 = .ok (.aload_n 0, 1) := by decide +kernel
theorem dX9_reached_65 : decode cX9_reached 65 = .ok (.getfield 20, 3) := by decide +kernel
theorem dX9_reached_68 : decode cX9_reached 68 = .ok (.getfield 125, 3) := by decide +kernel
theorem dX9_reached_71 : decode cX9_reached 71 = .ok (.if_icmp .gt 6, 3) := by decide +kernel
theorem dX9_reached_74 : decode cX9_reached 74 = .ok (.iinc 2 1, 3) := by decide +kernel
theorem dX9_reached_77 : decode cX9_reached 77 = .ok (.iinc 4 1, 3) := by decide +kernel
theorem dX9_reached_80 : decode cX9_reached 80 = .ok (.goto (-53), 3) := by decide +kernel
theorem dX9_reached_83 : decode cX9_reached 83 = .ok (.iinc 3 1, 3) := by decide +kernel
theorem dX9_reached_86 : decode cX9_reached 86 = .ok (.goto (-73), 3) := by decide +kernel
theorem dX9_reached_89 : decode cX9_reached 89 = .ok (.iload_n 2, 1) := by decide +kernel
theorem dX9_reached_90 : decode cX9_reached 90 = .ok (.ireturn, 1) := by decide +kernel
theorem dX9_part_0 : decode cX9_part 0 = .ok (.aload_n 0, 1) := by decide +kernel
theorem dX9_part_1 : decode cX9_part 1 = .ok (.invokevirtual 134, 3) := by decide +kernel
theorem dX9_part_4 : decode cX9_part 4 = .ok (.aload_n 0, 1) := by decide +kernel
theorem dX9_part_5 : decode cX9_part 5 = .ok (.iload_n 1, 1) := by decide +kernel
theorem dX9_part_6 : decode cX9_part 6 = .ok (.invokevirtual 150, 3) := by decide +kernel
theorem dX9_part_9 : decode cX9_part 9 = .ok (.aload_n 0, 1) := by decide +kernel
theorem dX9_part_10 : decode cX9_part 10 = .ok (.iload_n 2, 1) := by decide +kernel
theorem dX9_part_11 : decode cX9_part 11 = .ok (.iload_n 3, 1) := by decide +kernel
theorem dX9_part_12 : decode cX9_part 12 = .ok (.invokevirtual 206, 3) := by decide +kernel
theorem dX9_part_15 : decode cX9_part 15 = .ok (.aload_n 0, 1) := by decide +kernel
theorem dX9_part_16 : decode cX9_part 16 = .ok (.getfield 72, 3) := by decide +kernel
theorem dX9_part_19 : decode cX9_part 19 = .ok (.aload_n 0, 1) := by decide +kernel
theorem dX9_part_20 : decode cX9_part 20 = .ok (.getfield 20, 3) := by decide +kernel
theorem dX9_part_23 : decode cX9_part 23 = .ok (.iload_n 1, 1) := by decide +kernel
theorem dX9_part_24 : decode cX9_part 24 = .ok (.iload_n 2, 1) := by decide +kernel
theorem dX9_part_25 : decode cX9_part 25 = .ok (.iload_n 3, 1) := by decide +kernel
theorem dX9_part_26 : decode cX9_part 26 = .ok (.aload_n 0, 1) := by decide +kernel
theorem dX9_part_27 : decode cX9_part 27 = .ok (.getfield 20, 3) := by decide +kernel
theorem dX9_part_30 : decode cX9_part 30 = .ok (.getfield 125, 3) := by decide +kernel
theorem dX9_part_33 : decode cX9_part 33 = .ok (.invokevirtual 229, 3) := by decide +kernel
theorem dX9_part_36 : decode cX9_part 36 = .ok (.ireturn, 1) := by decide +kernel
theorem dX9_wave_0 : decode cX9_wave 0 = .ok (.aload_n 0, 1) := by decide +kernel
theorem dX9_wave_1 : decode cX9_wave 1 = .ok (.invokevirtual 134, 3) := by decide +kernel
theorem dX9_wave_4 : decode cX9_wave 4 = .ok (.aload_n 0, 1) := by decide +kernel
theorem dX9_wave_5 : decode cX9_wave 5 = .ok (.iload_n 1, 1) := by decide +kernel
theorem dX9_wave_6 : decode cX9_wave 6 = .ok (.iload_n 2, 1) := by decide +kernel
theorem dX9_wave_7 : decode cX9_wave 7 = .ok (.invokevirtual 206, 3) := by decide +kernel
theorem dX9_wave_10 : decode cX9_wave 10 = .ok (.aload_n 0, 1) := by decide +kernel
theorem dX9_wave_11 : decode cX9_wave 11 = .ok (.getfield 72, 3) := by decide +kernel
theorem dX9_wave_14 : decode cX9_wave 14 = .ok (.aload_n 0, 1) := by decide +kernel
theorem dX9_wave_15 : decode cX9_wave 15 = .ok (.getfield 20, 3) := by decide +kernel
theorem dX9_wave_18 : decode cX9_wave 18 = .ok (.iload_n 1, 1) := by decide +kernel
theorem dX9_wave_19 : decode cX9_wave 19 = .ok (.iload_n 2, 1) := by decide +kernel
theorem dX9_wave_20 : decode cX9_wave 20 = .ok (.aload_n 0, 1) := by decide +kernel
theorem dX9_wave_21 : decode cX9_wave 21 = .ok (.getfield 20, 3) := by decide +kernel
theorem dX9_wave_24 : decode cX9_wave 24 = .ok (.getfield 125, 3) := by decide +kernel
theorem dX9_wave_27 : decode cX9_wave 27 = .ok (.invokevirtual 233, 3) := by decide +kernel
theorem dX9_wave_30 : decode cX9_wave 30 = .ok (.ireturn, 1) := by decide +kernel
theorem dX9_waveAt_0 : decode cX9_waveAt 0 = .ok (.aload_n 0, 1) := by decide +kernel
theorem dX9_waveAt_1 : decode cX9_waveAt 1 = .ok (.invokevirtual 134, 3) := by decide +kernel
theorem dX9_waveAt_4 : decode cX9_waveAt 4 = .ok (.aload_n 0, 1) := by decide +kernel
theorem dX9_waveAt_5 : decode cX9_waveAt 5 = .ok (.iload_n 1, 1) := by decide +kernel
theorem dX9_waveAt_6 : decode cX9_waveAt 6 = .ok (.iload_n 2, 1) := by decide +kernel
theorem dX9_waveAt_7 : decode cX9_waveAt 7 = .ok (.invokevirtual 206, 3) := by decide +kernel
theorem dX9_waveAt_10 : decode cX9_waveAt 10 = .ok (.iload_n 3, 1) := by decide +kernel
theorem dX9_waveAt_11 : decode cX9_waveAt 11 = .ok (.iconst 0, 1) := by decide +kernel
theorem dX9_waveAt_12 : decode cX9_waveAt 12 = .ok (.sipush 9999, 3) := by decide +kernel
theorem dX9_waveAt_15 : decode cX9_waveAt 15 = .ok (.invokestatic 153, 3) := by decide +kernel
theorem dX9_waveAt_18 : decode cX9_waveAt 18 = .ok (.aload_n 0, 1) := by decide +kernel
theorem dX9_waveAt_19 : decode cX9_waveAt 19 = .ok (.getfield 72, 3) := by decide +kernel
theorem dX9_waveAt_22 : decode cX9_waveAt 22 = .ok (.aload_n 0, 1) := by decide +kernel
theorem dX9_waveAt_23 : decode cX9_waveAt 23 = .ok (.getfield 20, 3) := by decide +kernel
theorem dX9_waveAt_26 : decode cX9_waveAt 26 = .ok (.iload_n 1, 1) := by decide +kernel
theorem dX9_waveAt_27 : decode cX9_waveAt 27 = .ok (.iload_n 2, 1) := by decide +kernel
theorem dX9_waveAt_28 : decode cX9_waveAt 28 = .ok (.iload_n 3, 1) := by decide +kernel
theorem dX9_waveAt_29 : decode cX9_waveAt 29 = .ok (.invokevirtual 233, 3) := by decide +kernel
theorem dX9_waveAt_32 : decode cX9_waveAt 32 = .ok (.ireturn, 1) := by decide +kernel
theorem dX9_quietIn_0 : decode cX9_quietIn 0 = .ok (.aload_n 0, 1) := by decide +kernel
theorem dX9_quietIn_1 : decode cX9_quietIn 1 = .ok (.invokevirtual 134, 3) := by decide +kernel
theorem dX9_quietIn_4 : decode cX9_quietIn 4 = .ok (.aload_n 0, 1) := by decide +kernel
theorem dX9_quietIn_5 : decode cX9_quietIn 5 = .ok (.iload_n 1, 1) := by decide +kernel
theorem dX9_quietIn_6 : decode cX9_quietIn 6 = .ok (.iload_n 2, 1) := by decide +kernel
theorem dX9_quietIn_7 : decode cX9_quietIn 7 = .ok (.invokevirtual 206, 3) := by decide +kernel
theorem dX9_quietIn_10 : decode cX9_quietIn 10 = .ok (.iload_n 3, 1) := by decide +kernel
theorem dX9_quietIn_11 : decode cX9_quietIn 11 = .ok (.invokestatic 236, 3) := by decide +kernel
theorem dX9_quietIn_14 : decode cX9_quietIn 14 = .ok (.iload 4, 2) := by decide +kernel
theorem dX9_quietIn_16 : decode cX9_quietIn 16 = .ok (.iconst 1, 1) := by decide +kernel
theorem dX9_quietIn_17 : decode cX9_quietIn 17 = .ok (.sipush 200, 3) := by decide +kernel
theorem dX9_quietIn_20 : decode cX9_quietIn 20 = .ok (.invokestatic 153, 3) := by decide +kernel
theorem dX9_quietIn_23 : decode cX9_quietIn 23 = .ok (.iconst 0, 1) := by decide +kernel
theorem dX9_quietIn_24 : decode cX9_quietIn 24 = .ok (.istore 5, 2) := by decide +kernel
theorem dX9_quietIn_26 : decode cX9_quietIn 26 = .ok (.iload 5, 2) := by decide +kernel
theorem dX9_quietIn_28 : decode cX9_quietIn 28 = .ok (.iload 4, 2) := by decide +kernel
theorem dX9_quietIn_30 : decode cX9_quietIn 30 = .ok (.if_icmp .gt 42, 3) := by decide +kernel
theorem dX9_quietIn_33 : decode cX9_quietIn 33 = .ok (.aload_n 0, 1) := by decide +kernel
theorem dX9_quietIn_34 : decode cX9_quietIn 34 = .ok (.getfield 72, 3) := by decide +kernel
theorem dX9_quietIn_37 : decode cX9_quietIn 37 = .ok (.aload_n 0, 1) := by decide +kernel
theorem dX9_quietIn_38 : decode cX9_quietIn 38 = .ok (.getfield 20, 3) := by decide +kernel
theorem dX9_quietIn_41 : decode cX9_quietIn 41 = .ok (.iload_n 1, 1) := by decide +kernel
theorem dX9_quietIn_42 : decode cX9_quietIn 42 = .ok (.iload_n 2, 1) := by decide +kernel
theorem dX9_quietIn_43 : decode cX9_quietIn 43 = .ok (.aload_n 0, 1) := by decide +kernel
theorem dX9_quietIn_44 : decode cX9_quietIn 44 = .ok (.getfield 20, 3) := by decide +kernel
theorem dX9_quietIn_47 : decode cX9_quietIn 47 = .ok (.getfield 125, 3) := by decide +kernel
theorem dX9_quietIn_50 : decode cX9_quietIn 50 = .ok (.iload 5, 2) := by decide +kernel
theorem dX9_quietIn_52 : decode cX9_quietIn 52 = .ok (.iadd, 1) := by decide +kernel
theorem dX9_quietIn_53 : decode cX9_quietIn 53 = .ok (.invokevirtual 233, 3) := by decide +kernel
theorem dX9_quietIn_56 : decode cX9_quietIn 56 = .ok (.invokestatic 239, 3) := by decide +kernel
theorem dX9_quietIn_59 : decode cX9_quietIn 59 = .ok (.iload_n 3, 1) := by decide +kernel
theorem dX9_quietIn_60 : decode cX9_quietIn 60 = .ok (.if_icmp .gt 6, 3) := by decide +kernel
theorem dX9_quietIn_63 : decode cX9_quietIn 63 = .ok (.iload 5, 2) := by decide +kernel
theorem dX9_quietIn_65 : decode cX9_quietIn 65 = .ok (.ireturn, 1) := by decide +kernel
theorem dX9_quietIn_66 : decode cX9_quietIn 66 = .ok (.iinc 5 1, 3) := by decide +kernel
theorem dX9_quietIn_69 : decode cX9_quietIn 69 = .ok (.goto (-43), 3) := by decide +kernel
theorem dX9_quietIn_72 : decode cX9_quietIn 72 = .ok (.iconst (-1), 1) := by decide +kernel
theorem dX9_quietIn_73 : decode cX9_quietIn 73 = .ok (.ireturn, 1) := by decide +kernel
theorem dX9_gauges_0 : decode cX9_gauges 0 = .ok (.aload_n 0, 1) := by decide +kernel
theorem dX9_gauges_1 : decode cX9_gauges 1 = .ok (.getfield 118, 3) := by decide +kernel
theorem dX9_gauges_4 : decode cX9_gauges 4 = .ok (.ifCond .eq 13, 3) := by decide +kernel
theorem dX9_gauges_7 : decode cX9_gauges 7 = .ok (.aload_n 0, 1) := by decide +kernel
theorem dX9_gauges_8 : decode cX9_gauges 8 = .ok (.getfield 72, 3) := by decide +kernel
theorem dX9_gauges_11 : decode cX9_gauges 11 = .ok (.getfield 244, 3) := by decide +kernel
theorem dX9_gauges_14 : decode cX9_gauges 14 = .ok (.goto 4, 3) := by decide +kernel
theorem dX9_gauges_17 : decode cX9_gauges 17 = .ok (.iconst 0, 1) := by decide +kernel
theorem dX9_gauges_18 : decode cX9_gauges 18 = .ok (.ireturn, 1) := by decide +kernel
theorem dX9_gaugeAt_0 : decode cX9_gaugeAt 0 = .ok (.aload_n 0, 1) := by decide +kernel
theorem dX9_gaugeAt_1 : decode cX9_gaugeAt 1 = .ok (.invokevirtual 134, 3) := by decide +kernel
theorem dX9_gaugeAt_4 : decode cX9_gaugeAt 4 = .ok (.aload_n 0, 1) := by decide +kernel
theorem dX9_gaugeAt_5 : decode cX9_gaugeAt 5 = .ok (.iload_n 1, 1) := by decide +kernel
theorem dX9_gaugeAt_6 : decode cX9_gaugeAt 6 = .ok (.invokevirtual 247, 3) := by decide +kernel
theorem dX9_gaugeAt_9 : decode cX9_gaugeAt 9 = .ok (.iload_n 2, 1) := by decide +kernel
theorem dX9_gaugeAt_10 : decode cX9_gaugeAt 10 = .ok (.iconst 0, 1) := by decide +kernel
theorem dX9_gaugeAt_11 : decode cX9_gaugeAt 11 = .ok (.iconst 1, 1) := by decide +kernel
theorem dX9_gaugeAt_12 : decode cX9_gaugeAt 12 = .ok (.invokestatic 153, 3) := by decide +kernel
theorem dX9_gaugeAt_15 : decode cX9_gaugeAt 15 = .ok (.iload_n 2, 1) := by decide +kernel
theorem dX9_gaugeAt_16 : decode cX9_gaugeAt 16 = .ok (.ifCond .ne 15, 3) := by decide +kernel
theorem dX9_gaugeAt_19 : decode cX9_gaugeAt 19 = .ok (.aload_n 0, 1) := by decide +kernel
theorem dX9_gaugeAt_20 : decode cX9_gaugeAt 20 = .ok (.getfield 72, 3) := by decide +kernel
theorem dX9_gaugeAt_23 : decode cX9_gaugeAt 23 = .ok (.getfield 250, 3) := by decide +kernel
theorem dX9_gaugeAt_26 : decode cX9_gaugeAt 26 = .ok (.iload_n 1, 1) := by decide +kernel
theorem dX9_gaugeAt_27 : decode cX9_gaugeAt 27 = .ok (.iaload, 1) := by decide +kernel
theorem dX9_gaugeAt_28 : decode cX9_gaugeAt 28 = .ok (.goto 12, 3) := by decide +kernel
theorem dX9_gaugeAt_31 : decode cX9_gaugeAt 31 = .ok (.aload_n 0, 1) := by decide +kernel
theorem dX9_gaugeAt_32 : decode cX9_gaugeAt 32 = .ok (.getfield 72, 3) := by decide +kernel
theorem dX9_gaugeAt_35 : decode cX9_gaugeAt 35 = .ok (.getfield 253, 3) := by decide +kernel
theorem dX9_gaugeAt_38 : decode cX9_gaugeAt 38 = .ok (.iload_n 1, 1) := by decide +kernel
theorem dX9_gaugeAt_39 : decode cX9_gaugeAt 39 = .ok (.iaload, 1) := by decide +kernel
theorem dX9_gaugeAt_40 : decode cX9_gaugeAt 40 = .ok (.ireturn, 1) := by decide +kernel
theorem dX9_peak_0 : decode cX9_peak 0 = .ok (.aload_n 0, 1) := by decide +kernel
theorem dX9_peak_1 : decode cX9_peak 1 = .ok (.invokevirtual 134, 3) := by decide +kernel
theorem dX9_peak_4 : decode cX9_peak 4 = .ok (.aload_n 0, 1) := by decide +kernel
theorem dX9_peak_5 : decode cX9_peak 5 = .ok (.iload_n 1, 1) := by decide +kernel
theorem dX9_peak_6 : decode cX9_peak 6 = .ok (.invokevirtual 247, 3) := by decide +kernel
theorem dX9_peak_9 : decode cX9_peak 9 = .ok (.iload_n 2, 1) := by decide +kernel
theorem dX9_peak_10 : decode cX9_peak 10 = .ok (.invokestatic 256, 3) := by decide +kernel
theorem dX9_peak_13 : decode cX9_peak 13 = .ok (.aload_n 0, 1) := by decide +kernel
theorem dX9_peak_14 : decode cX9_peak 14 = .ok (.iload_n 1, 1) := by decide +kernel
theorem dX9_peak_15 : decode cX9_peak 15 = .ok (.iload_n 2, 1) := by decide +kernel
theorem dX9_peak_16 : decode cX9_peak 16 = .ok (.invokevirtual 259, 3) := by decide +kernel
theorem dX9_peak_19 : decode cX9_peak 19 = .ok (.iconst 0, 1) := by decide +kernel
theorem dX9_peak_20 : decode cX9_peak 20 = .ok (.istore_n 3, 1) := by decide +kernel
theorem dX9_peak_21 : decode cX9_peak 21 = .ok (.iconst 0, 1) := by decide +kernel
theorem dX9_peak_22 : decode cX9_peak 22 = .ok (.istore 4, 2) := by decide +kernel
theorem dX9_peak_24 : decode cX9_peak 24 = .ok (.iload 4, 2) := by decide +kernel
theorem dX9_peak_26 : decode cX9_peak 26 = .ok (.iload_n 2, 1) := by decide +kernel
theorem dX9_peak_27 : decode cX9_peak 27 = .ok (.if_icmp .ge 24, 3) := by decide +kernel
theorem dX9_peak_30 : decode cX9_peak 30 = .ok (.iload_n 3, 1) := by decide +kernel
theorem dX9_peak_31 : decode cX9_peak 31 = .ok (.aload_n 0, 1) := by decide +kernel
theorem dX9_peak_32 : decode cX9_peak 32 = .ok (.getfield 60, 3) := by decide +kernel
theorem dX9_peak_35 : decode cX9_peak 35 = .ok (.iload 4, 2) := by decide +kernel
theorem dX9_peak_37 : decode cX9_peak 37 = .ok (.iaload, 1) := by decide +kernel
theorem dX9_peak_38 : decode cX9_peak 38 = .ok (.invokestatic 239, 3) := by decide +kernel
theorem dX9_peak_41 : decode cX9_peak 41 = .ok (.invokestatic 262, 3) := by decide +kernel
theorem dX9_peak_44 : decode cX9_peak 44 = .ok (.istore_n 3, 1) := by decide +kernel
theorem dX9_peak_45 : decode cX9_peak 45 = .ok (.iinc 4 1, 3) := by decide +kernel
theorem dX9_peak_48 : decode cX9_peak 48 = .ok (.goto (-24), 3) := by decide +kernel
theorem dX9_peak_51 : decode cX9_peak 51 = .ok (.iload_n 3, 1) := by decide +kernel
theorem dX9_peak_52 : decode cX9_peak 52 = .ok (.ireturn, 1) := by decide +kernel
theorem dX9_crossings_0 : decode cX9_crossings 0 = .ok (.aload_n 0, 1) := by decide +kernel
theorem dX9_crossings_1 : decode cX9_crossings 1 = .ok (.invokevirtual 134, 3) := by decide +kernel
theorem dX9_crossings_4 : decode cX9_crossings 4 = .ok (.aload_n 0, 1) := by decide +kernel
theorem dX9_crossings_5 : decode cX9_crossings 5 = .ok (.iload_n 1, 1) := by decide +kernel
theorem dX9_crossings_6 : decode cX9_crossings 6 = .ok (.invokevirtual 247, 3) := by decide +kernel
theorem dX9_crossings_9 : decode cX9_crossings 9 = .ok (.iload_n 2, 1) := by decide +kernel
theorem dX9_crossings_10 : decode cX9_crossings 10 = .ok (.invokestatic 256, 3) := by decide +kernel
theorem dX9_crossings_13 : decode cX9_crossings 13 = .ok (.aload_n 0, 1) := by decide +kernel
theorem dX9_crossings_14 : decode cX9_crossings 14 = .ok (.iload_n 1, 1) := by decide +kernel
theorem dX9_crossings_15 : decode cX9_crossings 15 = .ok (.iload_n 2, 1) := by decide +kernel
theorem dX9_crossings_16 : decode cX9_crossings 16 = .ok (.invokevirtual 259, 3) := by decide +kernel
theorem dX9_crossings_19 : decode cX9_crossings 19 = .ok (.iconst 0, 1) := by decide +kernel
theorem dX9_crossings_20 : decode cX9_crossings 20 = .ok (.istore_n 3, 1) := by decide +kernel
theorem dX9_crossings_21 : decode cX9_crossings 21 = .ok (.iconst 0, 1) := by decide +kernel
theorem dX9_crossings_22 : decode cX9_crossings 22 = .ok (.istore 4, 2) := by decide +kernel
theorem dX9_crossings_24 : decode cX9_crossings 24 = .ok (.iconst 0, 1) := by decide +kernel
theorem dX9_crossings_25 : decode cX9_crossings 25 = .ok (.istore 5, 2) := by decide +kernel
theorem dX9_crossings_27 : decode cX9_crossings 27 = .ok (.iload 5, 2) := by decide +kernel
theorem dX9_crossings_29 : decode cX9_crossings 29 = .ok (.iload_n 2, 1) := by decide +kernel
theorem dX9_crossings_30 : decode cX9_crossings 30 = .ok (.if_icmp .ge 55, 3) := by decide +kernel
theorem dX9_crossings_33 : decode cX9_crossings 33 = .ok (.aload_n 0, 1) := by decide +kernel
theorem dX9_crossings_34 : decode cX9_crossings 34 = .ok (.getfield 60, 3) := by decide +kernel
theorem dX9_crossings_37 : decode cX9_crossings 37 = .ok (.iload 5, 2) := by decide +kernel
theorem dX9_crossings_39 : decode cX9_crossings 39 = .ok (.iaload, 1) := by decide +kernel
theorem dX9_crossings_40 : decode cX9_crossings 40 = .ok (.ifCond .eq 39, 3) := by decide +kernel
theorem dX9_crossings_43 : decode cX9_crossings 43 = .ok (.aload_n 0, 1) := by decide +kernel
theorem dX9_crossings_44 : decode cX9_crossings 44 = .ok (.getfield 60, 3) := by decide +kernel
theorem dX9_crossings_47 : decode cX9_crossings 47 = .ok (.iload 5, 2) := by decide +kernel
theorem dX9_crossings_49 : decode cX9_crossings 49 = .ok (.iaload, 1) := by decide +kernel
theorem dX9_crossings_50 : decode cX9_crossings 50 = .ok (.ifCond .le 7, 3) := by decide +kernel
theorem dX9_crossings_53 : decode cX9_crossings 53 = .ok (.iconst 1, 1) := by decide +kernel
theorem dX9_crossings_54 : decode cX9_crossings 54 = .ok (.goto 4, 3) := by decide +kernel
theorem dX9_crossings_57 : decode cX9_crossings 57 = .ok (.iconst (-1), 1) := by decide +kernel
theorem dX9_crossings_58 : decode cX9_crossings 58 = .ok (.istore 6, 2) := by decide +kernel
theorem dX9_crossings_60 : decode cX9_crossings 60 = .ok (.iload 4, 2) := by decide +kernel
theorem dX9_crossings_62 : decode cX9_crossings 62 = .ok (.ifCond .eq 13, 3) := by decide +kernel
theorem dX9_crossings_65 : decode cX9_crossings 65 = .ok (.iload 6, 2) := by decide +kernel
theorem dX9_crossings_67 : decode cX9_crossings 67 = .ok (.iload 4, 2) := by decide +kernel
theorem dX9_crossings_69 : decode cX9_crossings 69 = .ok (.if_icmp .eq 6, 3) := by decide +kernel
theorem dX9_crossings_72 : decode cX9_crossings 72 = .ok (.iinc 3 1, 3) := by decide +kernel
theorem dX9_crossings_75 : decode cX9_crossings 75 = .ok (.iload 6, 2) := by decide +kernel
theorem dX9_crossings_77 : decode cX9_crossings 77 = .ok (.istore 4, 2) := by decide +kernel
theorem dX9_crossings_79 : decode cX9_crossings 79 = .ok (.iinc 5 1, 3) := by decide +kernel
theorem dX9_crossings_82 : decode cX9_crossings 82 = .ok (.goto (-55), 3) := by decide +kernel
theorem dX9_crossings_85 : decode cX9_crossings 85 = .ok (.iload_n 3, 1) := by decide +kernel
theorem dX9_crossings_86 : decode cX9_crossings 86 = .ok (.ireturn, 1) := by decide +kernel
theorem dX9_rhythm_0 : decode cX9_rhythm 0 = .ok (.aload_n 0, 1) := by decide +kernel
theorem dX9_rhythm_1 : decode cX9_rhythm 1 = .ok (.invokevirtual 134, 3) := by decide +kernel
theorem dX9_rhythm_4 : decode cX9_rhythm 4 = .ok (.aload_n 0, 1) := by decide +kernel
theorem dX9_rhythm_5 : decode cX9_rhythm 5 = .ok (.iload_n 1, 1) := by decide +kernel
theorem dX9_rhythm_6 : decode cX9_rhythm 6 = .ok (.invokevirtual 247, 3) := by decide +kernel
theorem dX9_rhythm_9 : decode cX9_rhythm 9 = .ok (.iload_n 2, 1) := by decide +kernel
theorem dX9_rhythm_10 : decode cX9_rhythm 10 = .ok (.invokestatic 256, 3) := by decide +kernel
theorem dX9_rhythm_13 : decode cX9_rhythm 13 = .ok (.aload_n 0, 1) := by decide +kernel
theorem dX9_rhythm_14 : decode cX9_rhythm 14 = .ok (.iload_n 1, 1) := by decide +kernel
theorem dX9_rhythm_15 : decode cX9_rhythm 15 = .ok (.iload_n 2, 1) := by decide +kernel
theorem dX9_rhythm_16 : decode cX9_rhythm 16 = .ok (.bipush 20, 2) := by decide +kernel
theorem dX9_rhythm_18 : decode cX9_rhythm 18 = .ok (.iadd, 1) := by decide +kernel
theorem dX9_rhythm_19 : decode cX9_rhythm 19 = .ok (.invokevirtual 259, 3) := by decide +kernel
theorem dX9_rhythm_22 : decode cX9_rhythm 22 = .ok (.iconst 1, 1) := by decide +kernel
theorem dX9_rhythm_23 : decode cX9_rhythm 23 = .ok (.istore_n 3, 1) := by decide +kernel
theorem dX9_rhythm_24 : decode cX9_rhythm 24 = .ok (.aload_n 0, 1) := by decide +kernel
theorem dX9_rhythm_25 : decode cX9_rhythm 25 = .ok (.iload_n 2, 1) := by decide +kernel
theorem dX9_rhythm_26 : decode cX9_rhythm 26 = .ok (.iconst 1, 1) := by decide +kernel
theorem dX9_rhythm_27 : decode cX9_rhythm 27 = .ok (.invokevirtual 265, 3) := by decide +kernel
theorem dX9_rhythm_30 : decode cX9_rhythm 30 = .ok (.lstore 4, 2) := by decide +kernel
theorem dX9_rhythm_32 : decode cX9_rhythm 32 = .ok (.iconst 2, 1) := by decide +kernel
theorem dX9_rhythm_33 : decode cX9_rhythm 33 = .ok (.istore 6, 2) := by decide +kernel
theorem dX9_rhythm_35 : decode cX9_rhythm 35 = .ok (.iload 6, 2) := by decide +kernel
theorem dX9_rhythm_37 : decode cX9_rhythm 37 = .ok (.bipush 20, 2) := by decide +kernel
theorem dX9_rhythm_39 : decode cX9_rhythm 39 = .ok (.if_icmp .gt 33, 3) := by decide +kernel
theorem dX9_rhythm_42 : decode cX9_rhythm 42 = .ok (.aload_n 0, 1) := by decide +kernel
theorem dX9_rhythm_43 : decode cX9_rhythm 43 = .ok (.iload_n 2, 1) := by decide +kernel
theorem dX9_rhythm_44 : decode cX9_rhythm 44 = .ok (.iload 6, 2) := by decide +kernel
theorem dX9_rhythm_46 : decode cX9_rhythm 46 = .ok (.invokevirtual 265, 3) := by decide +kernel
theorem dX9_rhythm_49 : decode cX9_rhythm 49 = .ok (.lstore 7, 2) := by decide +kernel
theorem dX9_rhythm_51 : decode cX9_rhythm 51 = .ok (.lload 7, 2) := by decide +kernel
theorem dX9_rhythm_53 : decode cX9_rhythm 53 = .ok (.lload 4, 2) := by decide +kernel
theorem dX9_rhythm_55 : decode cX9_rhythm 55 = .ok (.lcmp, 1) := by decide +kernel
theorem dX9_rhythm_56 : decode cX9_rhythm 56 = .ok (.ifCond .le 10, 3) := by decide +kernel
theorem dX9_rhythm_59 : decode cX9_rhythm 59 = .ok (.lload 7, 2) := by decide +kernel
theorem dX9_rhythm_61 : decode cX9_rhythm 61 = .ok (.lstore 4, 2) := by decide +kernel
theorem dX9_rhythm_63 : decode cX9_rhythm 63 = .ok (.iload 6, 2) := by decide +kernel
theorem dX9_rhythm_65 : decode cX9_rhythm 65 = .ok (.istore_n 3, 1) := by decide +kernel
theorem dX9_rhythm_66 : decode cX9_rhythm 66 = .ok (.iinc 6 1, 3) := by decide +kernel
theorem dX9_rhythm_69 : decode cX9_rhythm 69 = .ok (.goto (-34), 3) := by decide +kernel
theorem dX9_rhythm_72 : decode cX9_rhythm 72 = .ok (.iload_n 3, 1) := by decide +kernel
theorem dX9_rhythm_73 : decode cX9_rhythm 73 = .ok (.ireturn, 1) := by decide +kernel
theorem dX9_isNode_0 : decode cX9_isNode 0 = .ok (.aload_n 0, 1) := by decide +kernel
theorem dX9_isNode_1 : decode cX9_isNode 1 = .ok (.invokevirtual 134, 3) := by decide +kernel
theorem dX9_isNode_4 : decode cX9_isNode 4 = .ok (.aload_n 0, 1) := by decide +kernel
theorem dX9_isNode_5 : decode cX9_isNode 5 = .ok (.iload_n 1, 1) := by decide +kernel
theorem dX9_isNode_6 : decode cX9_isNode 6 = .ok (.iload_n 2, 1) := by decide +kernel
theorem dX9_isNode_7 : decode cX9_isNode 7 = .ok (.invokevirtual 206, 3) := by decide +kernel
theorem dX9_isNode_10 : decode cX9_isNode 10 = .ok (.iload_n 3, 1) := by decide +kernel
theorem dX9_isNode_11 : decode cX9_isNode 11 = .ok (.invokestatic 256, 3) := by decide +kernel
theorem dX9_isNode_14 : decode cX9_isNode 14 = .ok (.iload 4, 2) := by decide +kernel
theorem dX9_isNode_16 : decode cX9_isNode 16 = .ok (.invokestatic 236, 3) := by decide +kernel
theorem dX9_isNode_19 : decode cX9_isNode 19 = .ok (.aload_n 0, 1) := by decide +kernel
theorem dX9_isNode_20 : decode cX9_isNode 20 = .ok (.getfield 72, 3) := by decide +kernel
theorem dX9_isNode_23 : decode cX9_isNode 23 = .ok (.aload_n 0, 1) := by decide +kernel
theorem dX9_isNode_24 : decode cX9_isNode 24 = .ok (.getfield 20, 3) := by decide +kernel
theorem dX9_isNode_27 : decode cX9_isNode 27 = .ok (.iload_n 1, 1) := by decide +kernel
theorem dX9_isNode_28 : decode cX9_isNode 28 = .ok (.iload_n 2, 1) := by decide +kernel
theorem dX9_isNode_29 : decode cX9_isNode 29 = .ok (.iload_n 3, 1) := by decide +kernel
theorem dX9_isNode_30 : decode cX9_isNode 30 = .ok (.iload 4, 2) := by decide +kernel
theorem dX9_isNode_32 : decode cX9_isNode 32 = .ok (.invokevirtual 269, 3) := by decide +kernel
theorem dX9_isNode_35 : decode cX9_isNode 35 = .ok (.ireturn, 1) := by decide +kernel
theorem dX9_nodes_0 : decode cX9_nodes 0 = .ok (.aload_n 0, 1) := by decide +kernel
theorem dX9_nodes_1 : decode cX9_nodes 1 = .ok (.invokevirtual 134, 3) := by decide +kernel
theorem dX9_nodes_4 : decode cX9_nodes 4 = .ok (.iload_n 1, 1) := by decide +kernel
theorem dX9_nodes_5 : decode cX9_nodes 5 = .ok (.invokestatic 256, 3) := by decide +kernel
theorem dX9_nodes_8 : decode cX9_nodes 8 = .ok (.iload_n 2, 1) := by decide +kernel
theorem dX9_nodes_9 : decode cX9_nodes 9 = .ok (.invokestatic 236, 3) := by decide +kernel
theorem dX9_nodes_12 : decode cX9_nodes 12 = .ok (.aload_n 0, 1) := by decide +kernel
theorem dX9_nodes_13 : decode cX9_nodes 13 = .ok (.aload_n 0, 1) := by decide +kernel
theorem dX9_nodes_14 : decode cX9_nodes 14 = .ok (.getfield 20, 3) := by decide +kernel
theorem dX9_nodes_17 : decode cX9_nodes 17 = .ok (.iload_n 1, 1) := by decide +kernel
theorem dX9_nodes_18 : decode cX9_nodes 18 = .ok (.iload_n 2, 1) := by decide +kernel
theorem dX9_nodes_19 : decode cX9_nodes 19 = .ok (.invokevirtual 273, 3) := by decide +kernel
theorem dX9_nodes_22 : decode cX9_nodes 22 = .ok (.ireturn, 1) := by decide +kernel
theorem dX9_nodeRows_0 : decode cX9_nodeRows 0 = .ok (.aload_n 0, 1) := by decide +kernel
theorem dX9_nodeRows_1 : decode cX9_nodeRows 1 = .ok (.invokevirtual 134, 3) := by decide +kernel
theorem dX9_nodeRows_4 : decode cX9_nodeRows 4 = .ok (.aload_n 0, 1) := by decide +kernel
theorem dX9_nodeRows_5 : decode cX9_nodeRows 5 = .ok (.iload_n 1, 1) := by decide +kernel
theorem dX9_nodeRows_6 : decode cX9_nodeRows 6 = .ok (.invokevirtual 143, 3) := by decide +kernel
theorem dX9_nodeRows_9 : decode cX9_nodeRows 9 = .ok (.iload_n 2, 1) := by decide +kernel
theorem dX9_nodeRows_10 : decode cX9_nodeRows 10 = .ok (.invokestatic 256, 3) := by decide +kernel
theorem dX9_nodeRows_13 : decode cX9_nodeRows 13 = .ok (.iload_n 3, 1) := by decide +kernel
theorem dX9_nodeRows_14 : decode cX9_nodeRows 14 = .ok (.invokestatic 236, 3) := by decide +kernel
theorem dX9_nodeRows_17 : decode cX9_nodeRows 17 = .ok (.aload_n 0, 1) := by decide +kernel
theorem dX9_nodeRows_18 : decode cX9_nodeRows 18 = .ok (.aload_n 0, 1) := by decide +kernel
theorem dX9_nodeRows_19 : decode cX9_nodeRows 19 = .ok (.getfield 20, 3) := by decide +kernel
theorem dX9_nodeRows_22 : decode cX9_nodeRows 22 = .ok (.iload_n 1, 1) := by decide +kernel
theorem dX9_nodeRows_23 : decode cX9_nodeRows 23 = .ok (.iload_n 2, 1) := by decide +kernel
theorem dX9_nodeRows_24 : decode cX9_nodeRows 24 = .ok (.iload_n 3, 1) := by decide +kernel
theorem dX9_nodeRows_25 : decode cX9_nodeRows 25 = .ok (.invokevirtual 276, 3) := by decide +kernel
theorem dX9_nodeRows_28 : decode cX9_nodeRows 28 = .ok (.ireturn, 1) := by decide +kernel
theorem dX9_nodeGroups_0 : decode cX9_nodeGroups 0 = .ok (.aload_n 0, 1) := by decide +kernel
theorem dX9_nodeGroups_1 : decode cX9_nodeGroups 1 = .ok (.invokevirtual 134, 3) := by decide +kernel
theorem dX9_nodeGroups_4 : decode cX9_nodeGroups 4 = .ok (.iload_n 1, 1) := by decide +kernel
theorem dX9_nodeGroups_5 : decode cX9_nodeGroups 5 = .ok (.invokestatic 256, 3) := by decide +kernel
theorem dX9_nodeGroups_8 : decode cX9_nodeGroups 8 = .ok (.iload_n 2, 1) := by decide +kernel
theorem dX9_nodeGroups_9 : decode cX9_nodeGroups 9 = .ok (.invokestatic 236, 3) := by decide +kernel
theorem dX9_nodeGroups_12 : decode cX9_nodeGroups 12 = .ok (.iconst 0, 1) := by decide +kernel
theorem dX9_nodeGroups_13 : decode cX9_nodeGroups 13 = .ok (.istore_n 3, 1) := by decide +kernel
theorem dX9_nodeGroups_14 : decode cX9_nodeGroups 14 = .ok (.iload_n 3, 1) := by decide +kernel
theorem dX9_nodeGroups_15 : decode cX9_nodeGroups 15 = .ok (.aload_n 0, 1) := by decide +kernel
theorem dX9_nodeGroups_16 : decode cX9_nodeGroups 16 = .ok (.getfield 72, 3) := by decide +kernel
theorem dX9_nodeGroups_19 : decode cX9_nodeGroups 19 = .ok (.getfield 131, 3) := by decide +kernel
theorem dX9_nodeGroups_22 : decode cX9_nodeGroups 22 = .ok (.if_icmp .ge 29, 3) := by decide +kernel
theorem dX9_nodeGroups_25 : decode cX9_nodeGroups 25 = .ok (.aload_n 0, 1) := by decide +kernel
theorem dX9_nodeGroups_26 : decode cX9_nodeGroups 26 = .ok (.getfield 52, 3) := by decide +kernel
theorem dX9_nodeGroups_29 : decode cX9_nodeGroups 29 = .ok (.getfield 279, 3) := by decide +kernel
theorem dX9_nodeGroups_32 : decode cX9_nodeGroups 32 = .ok (.iload_n 3, 1) := by decide +kernel
theorem dX9_nodeGroups_33 : decode cX9_nodeGroups 33 = .ok (.aload_n 0, 1) := by decide +kernel
theorem dX9_nodeGroups_34 : decode cX9_nodeGroups 34 = .ok (.aload_n 0, 1) := by decide +kernel
theorem dX9_nodeGroups_35 : decode cX9_nodeGroups 35 = .ok (.getfield 20, 3) := by decide +kernel
theorem dX9_nodeGroups_38 : decode cX9_nodeGroups 38 = .ok (.iload_n 3, 1) := by decide +kernel
theorem dX9_nodeGroups_39 : decode cX9_nodeGroups 39 = .ok (.iload_n 1, 1) := by decide +kernel
theorem dX9_nodeGroups_40 : decode cX9_nodeGroups 40 = .ok (.iload_n 2, 1) := by decide +kernel
theorem dX9_nodeGroups_41 : decode cX9_nodeGroups 41 = .ok (.invokevirtual 276, 3) := by decide +kernel
theorem dX9_nodeGroups_44 : decode cX9_nodeGroups 44 = .ok (.iastore, 1) := by decide +kernel
theorem dX9_nodeGroups_45 : decode cX9_nodeGroups 45 = .ok (.iinc 3 1, 3) := by decide +kernel
theorem dX9_nodeGroups_48 : decode cX9_nodeGroups 48 = .ok (.goto (-34), 3) := by decide +kernel
theorem dX9_nodeGroups_51 : decode cX9_nodeGroups 51 = .ok (.aload_n 0, 1) := by decide +kernel
theorem dX9_nodeGroups_52 : decode cX9_nodeGroups 52 = .ok (.getfield 52, 3) := by decide +kernel
theorem dX9_nodeGroups_55 : decode cX9_nodeGroups 55 = .ok (.aload_n 0, 1) := by decide +kernel
theorem dX9_nodeGroups_56 : decode cX9_nodeGroups 56 = .ok (.getfield 72, 3) := by decide +kernel
theorem dX9_nodeGroups_59 : decode cX9_nodeGroups 59 = .ok (.getfield 128, 3) := by decide +kernel
theorem dX9_nodeGroups_62 : decode cX9_nodeGroups 62 = .ok (.aload_n 0, 1) := by decide +kernel
theorem dX9_nodeGroups_63 : decode cX9_nodeGroups 63 = .ok (.getfield 72, 3) := by decide +kernel
theorem dX9_nodeGroups_66 : decode cX9_nodeGroups 66 = .ok (.getfield 131, 3) := by decide +kernel
theorem dX9_nodeGroups_69 : decode cX9_nodeGroups 69 = .ok (.invokevirtual 282, 3) := by decide +kernel
theorem dX9_nodeGroups_72 : decode cX9_nodeGroups 72 = .ok (.ireturn, 1) := by decide +kernel
theorem dX9_energy_0 : decode cX9_energy 0 = .ok (.aload_n 0, 1) := by decide +kernel
theorem dX9_energy_1 : decode cX9_energy 1 = .ok (.invokevirtual 134, 3) := by decide +kernel
theorem dX9_energy_4 : decode cX9_energy 4 = .ok (.aload_n 0, 1) := by decide +kernel
theorem dX9_energy_5 : decode cX9_energy 5 = .ok (.iload_n 1, 1) := by decide +kernel
theorem dX9_energy_6 : decode cX9_energy 6 = .ok (.iload_n 2, 1) := by decide +kernel
theorem dX9_energy_7 : decode cX9_energy 7 = .ok (.invokevirtual 206, 3) := by decide +kernel
theorem dX9_energy_10 : decode cX9_energy 10 = .ok (.iload_n 3, 1) := by decide +kernel
theorem dX9_energy_11 : decode cX9_energy 11 = .ok (.invokestatic 256, 3) := by decide +kernel
theorem dX9_energy_14 : decode cX9_energy 14 = .ok (.aload_n 0, 1) := by decide +kernel
theorem dX9_energy_15 : decode cX9_energy 15 = .ok (.getfield 72, 3) := by decide +kernel
theorem dX9_energy_18 : decode cX9_energy 18 = .ok (.aload_n 0, 1) := by decide +kernel
theorem dX9_energy_19 : decode cX9_energy 19 = .ok (.getfield 20, 3) := by decide +kernel
theorem dX9_energy_22 : decode cX9_energy 22 = .ok (.iload_n 1, 1) := by decide +kernel
theorem dX9_energy_23 : decode cX9_energy 23 = .ok (.iload_n 2, 1) := by decide +kernel
theorem dX9_energy_24 : decode cX9_energy 24 = .ok (.iload_n 3, 1) := by decide +kernel
theorem dX9_energy_25 : decode cX9_energy 25 = .ok (.invokevirtual 285, 3) := by decide +kernel
theorem dX9_energy_28 : decode cX9_energy 28 = .ok (.lreturn, 1) := by decide +kernel
theorem dX9_rowEnergy_0 : decode cX9_rowEnergy 0 = .ok (.aload_n 0, 1) := by decide +kernel
theorem dX9_rowEnergy_1 : decode cX9_rowEnergy 1 = .ok (.invokevirtual 134, 3) := by decide +kernel
theorem dX9_rowEnergy_4 : decode cX9_rowEnergy 4 = .ok (.aload_n 0, 1) := by decide +kernel
theorem dX9_rowEnergy_5 : decode cX9_rowEnergy 5 = .ok (.iload_n 1, 1) := by decide +kernel
theorem dX9_rowEnergy_6 : decode cX9_rowEnergy 6 = .ok (.invokevirtual 143, 3) := by decide +kernel
theorem dX9_rowEnergy_9 : decode cX9_rowEnergy 9 = .ok (.iload_n 2, 1) := by decide +kernel
theorem dX9_rowEnergy_10 : decode cX9_rowEnergy 10 = .ok (.invokestatic 256, 3) := by decide +kernel
theorem dX9_rowEnergy_13 : decode cX9_rowEnergy 13 = .ok (.lconst 0, 1) := by decide +kernel
theorem dX9_rowEnergy_14 : decode cX9_rowEnergy 14 = .ok (.lstore_n 3, 1) := by decide +kernel
theorem dX9_rowEnergy_15 : decode cX9_rowEnergy 15 = .ok (.iconst 0, 1) := by decide +kernel
theorem dX9_rowEnergy_16 : decode cX9_rowEnergy 16 = .ok (.istore 5, 2) := by decide +kernel
theorem dX9_rowEnergy_18 : decode cX9_rowEnergy 18 = .ok (.iload 5, 2) := by decide +kernel
theorem dX9_rowEnergy_20 : decode cX9_rowEnergy 20 = .ok (.aload_n 0, 1) := by decide +kernel
theorem dX9_rowEnergy_21 : decode cX9_rowEnergy 21 = .ok (.getfield 72, 3) := by decide +kernel
theorem dX9_rowEnergy_24 : decode cX9_rowEnergy 24 = .ok (.getfield 128, 3) := by decide +kernel
theorem dX9_rowEnergy_27 : decode cX9_rowEnergy 27 = .ok (.if_icmp .ge 27, 3) := by decide +kernel
theorem dX9_rowEnergy_30 : decode cX9_rowEnergy 30 = .ok (.lload_n 3, 1) := by decide +kernel
theorem dX9_rowEnergy_31 : decode cX9_rowEnergy 31 = .ok (.aload_n 0, 1) := by decide +kernel
theorem dX9_rowEnergy_32 : decode cX9_rowEnergy 32 = .ok (.getfield 72, 3) := by decide +kernel
theorem dX9_rowEnergy_35 : decode cX9_rowEnergy 35 = .ok (.aload_n 0, 1) := by decide +kernel
theorem dX9_rowEnergy_36 : decode cX9_rowEnergy 36 = .ok (.getfield 20, 3) := by decide +kernel
theorem dX9_rowEnergy_39 : decode cX9_rowEnergy 39 = .ok (.iload 5, 2) := by decide +kernel
theorem dX9_rowEnergy_41 : decode cX9_rowEnergy 41 = .ok (.iload_n 1, 1) := by decide +kernel
theorem dX9_rowEnergy_42 : decode cX9_rowEnergy 42 = .ok (.iload_n 2, 1) := by decide +kernel
theorem dX9_rowEnergy_43 : decode cX9_rowEnergy 43 = .ok (.invokevirtual 285, 3) := by decide +kernel
theorem dX9_rowEnergy_46 : decode cX9_rowEnergy 46 = .ok (.ladd, 1) := by decide +kernel
theorem dX9_rowEnergy_47 : decode cX9_rowEnergy 47 = .ok (.lstore_n 3, 1) := by decide +kernel
theorem dX9_rowEnergy_48 : decode cX9_rowEnergy 48 = .ok (.iinc 5 1, 3) := by decide +kernel
theorem dX9_rowEnergy_51 : decode cX9_rowEnergy 51 = .ok (.goto (-33), 3) := by decide +kernel
theorem dX9_rowEnergy_54 : decode cX9_rowEnergy 54 = .ok (.lload_n 3, 1) := by decide +kernel
theorem dX9_rowEnergy_55 : decode cX9_rowEnergy 55 = .ok (.lreturn, 1) := by decide +kernel
theorem dX9_allEnergy_0 : decode cX9_allEnergy 0 = .ok (.aload_n 0, 1) := by decide +kernel
theorem dX9_allEnergy_1 : decode cX9_allEnergy 1 = .ok (.invokevirtual 134, 3) := by decide +kernel
theorem dX9_allEnergy_4 : decode cX9_allEnergy 4 = .ok (.iload_n 1, 1) := by decide +kernel
theorem dX9_allEnergy_5 : decode cX9_allEnergy 5 = .ok (.invokestatic 256, 3) := by decide +kernel
theorem dX9_allEnergy_8 : decode cX9_allEnergy 8 = .ok (.aload_n 0, 1) := by decide +kernel
theorem dX9_allEnergy_9 : decode cX9_allEnergy 9 = .ok (.iload_n 1, 1) := by decide +kernel
theorem dX9_allEnergy_10 : decode cX9_allEnergy 10 = .ok (.invokevirtual 289, 3) := by decide +kernel
theorem dX9_allEnergy_13 : decode cX9_allEnergy 13 = .ok (.lconst 0, 1) := by decide +kernel
theorem dX9_allEnergy_14 : decode cX9_allEnergy 14 = .ok (.lstore_n 2, 1) := by decide +kernel
theorem dX9_allEnergy_15 : decode cX9_allEnergy 15 = .ok (.iconst 0, 1) := by decide +kernel
theorem dX9_allEnergy_16 : decode cX9_allEnergy 16 = .ok (.istore 4, 2) := by decide +kernel
theorem dX9_allEnergy_18 : decode cX9_allEnergy 18 = .ok (.iload 4, 2) := by decide +kernel
theorem dX9_allEnergy_20 : decode cX9_allEnergy 20 = .ok (.aload_n 0, 1) := by decide +kernel
theorem dX9_allEnergy_21 : decode cX9_allEnergy 21 = .ok (.getfield 72, 3) := by decide +kernel
theorem dX9_allEnergy_24 : decode cX9_allEnergy 24 = .ok (.invokevirtual 292, 3) := by decide +kernel
theorem dX9_allEnergy_27 : decode cX9_allEnergy 27 = .ok (.if_icmp .ge 19, 3) := by decide +kernel
theorem dX9_allEnergy_30 : decode cX9_allEnergy 30 = .ok (.lload_n 2, 1) := by decide +kernel
theorem dX9_allEnergy_31 : decode cX9_allEnergy 31 = .ok (.aload_n 0, 1) := by decide +kernel
theorem dX9_allEnergy_32 : decode cX9_allEnergy 32 = .ok (.getfield 56, 3) := by decide +kernel
theorem dX9_allEnergy_35 : decode cX9_allEnergy 35 = .ok (.iload 4, 2) := by decide +kernel
theorem dX9_allEnergy_37 : decode cX9_allEnergy 37 = .ok (.laload, 1) := by decide +kernel
theorem dX9_allEnergy_38 : decode cX9_allEnergy 38 = .ok (.ladd, 1) := by decide +kernel
theorem dX9_allEnergy_39 : decode cX9_allEnergy 39 = .ok (.lstore_n 2, 1) := by decide +kernel
theorem dX9_allEnergy_40 : decode cX9_allEnergy 40 = .ok (.iinc 4 1, 3) := by decide +kernel
theorem dX9_allEnergy_43 : decode cX9_allEnergy 43 = .ok (.goto (-25), 3) := by decide +kernel
theorem dX9_allEnergy_46 : decode cX9_allEnergy 46 = .ok (.lload_n 2, 1) := by decide +kernel
theorem dX9_allEnergy_47 : decode cX9_allEnergy 47 = .ok (.lreturn, 1) := by decide +kernel
theorem dX9_strongest_0 : decode cX9_strongest 0 = .ok (.aload_n 0, 1) := by decide +kernel
theorem dX9_strongest_1 : decode cX9_strongest 1 = .ok (.invokevirtual 134, 3) := by decide +kernel
theorem dX9_strongest_4 : decode cX9_strongest 4 = .ok (.iload_n 1, 1) := by decide +kernel
theorem dX9_strongest_5 : decode cX9_strongest 5 = .ok (.ifCond .lt 14, 3) := by decide +kernel
theorem dX9_strongest_8 : decode cX9_strongest 8 = .ok (.iload_n 1, 1) := by decide +kernel
theorem dX9_strongest_9 : decode cX9_strongest 9 = .ok (.aload_n 0, 1) := by decide +kernel
theorem dX9_strongest_10 : decode cX9_strongest 10 = .ok (.getfield 72, 3) := by decide +kernel
theorem dX9_strongest_13 : decode cX9_strongest 13 = .ok (.invokevirtual 292, 3) := by decide +kernel
theorem dX9_strongest_16 : decode cX9_strongest 16 = .ok (.if_icmp .lt 14, 3) := by decide +kernel
theorem dX9_strongest_19 : decode cX9_strongest 19 = .ok (.new 86, 3) := by decide +kernel
theorem dX9_strongest_22 : decode cX9_strongest 22 = .ok (.dup, 1) := by decide +kernel
theorem dX9_strongest_23 : decode cX9_strongest 23 = .ok (.ldc_w 296, 3) := by decide +kernel
theorem dX9_strongest_26 : decode cX9_strongest 26 = .ok (.invokespecial 90, 3) := by decide +kernel
theorem dX9_strongest_29 : decode cX9_strongest 29 = .ok (.athrow, 1) := by decide +kernel
theorem dX9_strongest_30 : decode cX9_strongest 30 = .ok (.iload_n 2, 1) := by decide +kernel
theorem dX9_strongest_31 : decode cX9_strongest 31 = .ok (.invokestatic 256, 3) := by decide +kernel
theorem dX9_strongest_34 : decode cX9_strongest 34 = .ok (.aload_n 0, 1) := by decide +kernel
theorem dX9_strongest_35 : decode cX9_strongest 35 = .ok (.iload_n 2, 1) := by decide +kernel
theorem dX9_strongest_36 : decode cX9_strongest 36 = .ok (.invokevirtual 289, 3) := by decide +kernel
theorem dX9_strongest_39 : decode cX9_strongest 39 = .ok (.iconst (-1), 1) := by decide +kernel
theorem dX9_strongest_40 : decode cX9_strongest 40 = .ok (.istore_n 3, 1) := by decide +kernel
theorem dX9_strongest_41 : decode cX9_strongest 41 = .ok (.iconst 0, 1) := by decide +kernel
theorem dX9_strongest_42 : decode cX9_strongest 42 = .ok (.istore 4, 2) := by decide +kernel
theorem dX9_strongest_44 : decode cX9_strongest 44 = .ok (.iload 4, 2) := by decide +kernel
theorem dX9_strongest_46 : decode cX9_strongest 46 = .ok (.aload_n 0, 1) := by decide +kernel
theorem dX9_strongest_47 : decode cX9_strongest 47 = .ok (.getfield 72, 3) := by decide +kernel
theorem dX9_strongest_50 : decode cX9_strongest 50 = .ok (.invokevirtual 292, 3) := by decide +kernel
theorem dX9_strongest_53 : decode cX9_strongest 53 = .ok (.if_icmp .ge 27, 3) := by decide +kernel
theorem dX9_strongest_56 : decode cX9_strongest 56 = .ok (.iload_n 3, 1) := by decide +kernel
theorem dX9_strongest_57 : decode cX9_strongest 57 = .ok (.iconst (-1), 1) := by decide +kernel
theorem dX9_strongest_58 : decode cX9_strongest 58 = .ok (.if_icmp .ne 22, 3) := by decide +kernel
theorem dX9_strongest_61 : decode cX9_strongest 61 = .ok (.aload_n 0, 1) := by decide +kernel
theorem dX9_strongest_62 : decode cX9_strongest 62 = .ok (.iload 4, 2) := by decide +kernel
theorem dX9_strongest_64 : decode cX9_strongest 64 = .ok (.invokevirtual 298, 3) := by decide +kernel
theorem dX9_strongest_67 : decode cX9_strongest 67 = .ok (.iload_n 1, 1) := by decide +kernel
theorem dX9_strongest_68 : decode cX9_strongest 68 = .ok (.if_icmp .ne 6, 3) := by decide +kernel
theorem dX9_strongest_71 : decode cX9_strongest 71 = .ok (.iload 4, 2) := by decide +kernel
theorem dX9_strongest_73 : decode cX9_strongest 73 = .ok (.istore_n 3, 1) := by decide +kernel
theorem dX9_strongest_74 : decode cX9_strongest 74 = .ok (.iinc 4 1, 3) := by decide +kernel
theorem dX9_strongest_77 : decode cX9_strongest 77 = .ok (.goto (-33), 3) := by decide +kernel
theorem dX9_strongest_80 : decode cX9_strongest 80 = .ok (.iload_n 3, 1) := by decide +kernel
theorem dX9_strongest_81 : decode cX9_strongest 81 = .ok (.ireturn, 1) := by decide +kernel
theorem dX9_marks_0 : decode cX9_marks 0 = .ok (.aload_n 0, 1) := by decide +kernel
theorem dX9_marks_1 : decode cX9_marks 1 = .ok (.invokevirtual 134, 3) := by decide +kernel
theorem dX9_marks_4 : decode cX9_marks 4 = .ok (.iload_n 1, 1) := by decide +kernel
theorem dX9_marks_5 : decode cX9_marks 5 = .ok (.invokestatic 256, 3) := by decide +kernel
theorem dX9_marks_8 : decode cX9_marks 8 = .ok (.iload_n 2, 1) := by decide +kernel
theorem dX9_marks_9 : decode cX9_marks 9 = .ok (.iconst 1, 1) := by decide +kernel
theorem dX9_marks_10 : decode cX9_marks 10 = .ok (.bipush 100, 2) := by decide +kernel
theorem dX9_marks_12 : decode cX9_marks 12 = .ok (.invokestatic 153, 3) := by decide +kernel
theorem dX9_marks_15 : decode cX9_marks 15 = .ok (.aload_n 0, 1) := by decide +kernel
theorem dX9_marks_16 : decode cX9_marks 16 = .ok (.iload_n 1, 1) := by decide +kernel
theorem dX9_marks_17 : decode cX9_marks 17 = .ok (.invokevirtual 289, 3) := by decide +kernel
theorem dX9_marks_20 : decode cX9_marks 20 = .ok (.aload_n 0, 1) := by decide +kernel
theorem dX9_marks_21 : decode cX9_marks 21 = .ok (.invokevirtual 301, 3) := by decide +kernel
theorem dX9_marks_24 : decode cX9_marks 24 = .ok (.lstore_n 3, 1) := by decide +kernel
theorem dX9_marks_25 : decode cX9_marks 25 = .ok (.iconst 0, 1) := by decide +kernel
theorem dX9_marks_26 : decode cX9_marks 26 = .ok (.istore 5, 2) := by decide +kernel
theorem dX9_marks_28 : decode cX9_marks 28 = .ok (.iconst 0, 1) := by decide +kernel
theorem dX9_marks_29 : decode cX9_marks 29 = .ok (.istore 6, 2) := by decide +kernel
theorem dX9_marks_31 : decode cX9_marks 31 = .ok (.iload 6, 2) := by decide +kernel
theorem dX9_marks_33 : decode cX9_marks 33 = .ok (.aload_n 0, 1) := by decide +kernel
theorem dX9_marks_34 : decode cX9_marks 34 = .ok (.getfield 72, 3) := by decide +kernel
theorem dX9_marks_37 : decode cX9_marks 37 = .ok (.invokevirtual 292, 3) := by decide +kernel
theorem dX9_marks_40 : decode cX9_marks 40 = .ok (.if_icmp .ge 27, 3) := by decide +kernel
theorem dX9_marks_43 : decode cX9_marks 43 = .ok (.aload_n 0, 1) := by decide +kernel
theorem dX9_marks_44 : decode cX9_marks 44 = .ok (.getfield 56, 3) := by decide +kernel
theorem dX9_marks_47 : decode cX9_marks 47 = .ok (.iload 6, 2) := by decide +kernel
theorem dX9_marks_49 : decode cX9_marks 49 = .ok (.laload, 1) := by decide +kernel
theorem dX9_marks_50 : decode cX9_marks 50 = .ok (.iload_n 2, 1) := by decide +kernel
theorem dX9_marks_51 : decode cX9_marks 51 = .ok (.lload_n 3, 1) := by decide +kernel
theorem dX9_marks_52 : decode cX9_marks 52 = .ok (.invokestatic 305, 3) := by decide +kernel
theorem dX9_marks_55 : decode cX9_marks 55 = .ok (.ifCond .eq 6, 3) := by decide +kernel
theorem dX9_marks_58 : decode cX9_marks 58 = .ok (.iinc 5 1, 3) := by decide +kernel
theorem dX9_marks_61 : decode cX9_marks 61 = .ok (.iinc 6 1, 3) := by decide +kernel
theorem dX9_marks_64 : decode cX9_marks 64 = .ok (.goto (-33), 3) := by decide +kernel
theorem dX9_marks_67 : decode cX9_marks 67 = .ok (.iload 5, 2) := by decide +kernel
theorem dX9_marks_69 : decode cX9_marks 69 = .ok (.ireturn, 1) := by decide +kernel
theorem dX9_isMark_0 : decode cX9_isMark 0 = .ok (.aload_n 0, 1) := by decide +kernel
theorem dX9_isMark_1 : decode cX9_isMark 1 = .ok (.invokevirtual 134, 3) := by decide +kernel
theorem dX9_isMark_4 : decode cX9_isMark 4 = .ok (.aload_n 0, 1) := by decide +kernel
theorem dX9_isMark_5 : decode cX9_isMark 5 = .ok (.iload_n 1, 1) := by decide +kernel
theorem dX9_isMark_6 : decode cX9_isMark 6 = .ok (.iload_n 2, 1) := by decide +kernel
theorem dX9_isMark_7 : decode cX9_isMark 7 = .ok (.invokevirtual 206, 3) := by decide +kernel
theorem dX9_isMark_10 : decode cX9_isMark 10 = .ok (.iload_n 3, 1) := by decide +kernel
theorem dX9_isMark_11 : decode cX9_isMark 11 = .ok (.invokestatic 256, 3) := by decide +kernel
theorem dX9_isMark_14 : decode cX9_isMark 14 = .ok (.iload 4, 2) := by decide +kernel
theorem dX9_isMark_16 : decode cX9_isMark 16 = .ok (.iconst 1, 1) := by decide +kernel
theorem dX9_isMark_17 : decode cX9_isMark 17 = .ok (.bipush 100, 2) := by decide +kernel
theorem dX9_isMark_19 : decode cX9_isMark 19 = .ok (.invokestatic 153, 3) := by decide +kernel
theorem dX9_isMark_22 : decode cX9_isMark 22 = .ok (.aload_n 0, 1) := by decide +kernel
theorem dX9_isMark_23 : decode cX9_isMark 23 = .ok (.iload_n 3, 1) := by decide +kernel
theorem dX9_isMark_24 : decode cX9_isMark 24 = .ok (.invokevirtual 289, 3) := by decide +kernel
theorem dX9_isMark_27 : decode cX9_isMark 27 = .ok (.aload_n 0, 1) := by decide +kernel
theorem dX9_isMark_28 : decode cX9_isMark 28 = .ok (.getfield 56, 3) := by decide +kernel
theorem dX9_isMark_31 : decode cX9_isMark 31 = .ok (.aload_n 0, 1) := by decide +kernel
theorem dX9_isMark_32 : decode cX9_isMark 32 = .ok (.getfield 72, 3) := by decide +kernel
theorem dX9_isMark_35 : decode cX9_isMark 35 = .ok (.iload_n 1, 1) := by decide +kernel
theorem dX9_isMark_36 : decode cX9_isMark 36 = .ok (.iload_n 2, 1) := by decide +kernel
theorem dX9_isMark_37 : decode cX9_isMark 37 = .ok (.invokevirtual 309, 3) := by decide +kernel
theorem dX9_isMark_40 : decode cX9_isMark 40 = .ok (.laload, 1) := by decide +kernel
theorem dX9_isMark_41 : decode cX9_isMark 41 = .ok (.iload 4, 2) := by decide +kernel
theorem dX9_isMark_43 : decode cX9_isMark 43 = .ok (.aload_n 0, 1) := by decide +kernel
theorem dX9_isMark_44 : decode cX9_isMark 44 = .ok (.invokevirtual 301, 3) := by decide +kernel
theorem dX9_isMark_47 : decode cX9_isMark 47 = .ok (.invokestatic 305, 3) := by decide +kernel
theorem dX9_isMark_50 : decode cX9_isMark 50 = .ok (.ireturn, 1) := by decide +kernel
theorem dX9_fringes_0 : decode cX9_fringes 0 = .ok (.aload_n 0, 1) := by decide +kernel
theorem dX9_fringes_1 : decode cX9_fringes 1 = .ok (.invokevirtual 134, 3) := by decide +kernel
theorem dX9_fringes_4 : decode cX9_fringes 4 = .ok (.aload_n 0, 1) := by decide +kernel
theorem dX9_fringes_5 : decode cX9_fringes 5 = .ok (.iload_n 1, 1) := by decide +kernel
theorem dX9_fringes_6 : decode cX9_fringes 6 = .ok (.invokevirtual 312, 3) := by decide +kernel
theorem dX9_fringes_9 : decode cX9_fringes 9 = .ok (.iload_n 2, 1) := by decide +kernel
theorem dX9_fringes_10 : decode cX9_fringes 10 = .ok (.invokestatic 256, 3) := by decide +kernel
theorem dX9_fringes_13 : decode cX9_fringes 13 = .ok (.aload_n 0, 1) := by decide +kernel
theorem dX9_fringes_14 : decode cX9_fringes 14 = .ok (.iload_n 1, 1) := by decide +kernel
theorem dX9_fringes_15 : decode cX9_fringes 15 = .ok (.iload_n 2, 1) := by decide +kernel
theorem dX9_fringes_16 : decode cX9_fringes 16 = .ok (.invokevirtual 315, 3) := by decide +kernel
theorem dX9_fringes_19 : decode cX9_fringes 19 = .ok (.iconst 0, 1) := by decide +kernel
theorem dX9_fringes_20 : decode cX9_fringes 20 = .ok (.istore_n 3, 1) := by decide +kernel
theorem dX9_fringes_21 : decode cX9_fringes 21 = .ok (.iconst 0, 1) := by decide +kernel
theorem dX9_fringes_22 : decode cX9_fringes 22 = .ok (.istore 4, 2) := by decide +kernel
theorem dX9_fringes_24 : decode cX9_fringes 24 = .ok (.iload 4, 2) := by decide +kernel
theorem dX9_fringes_26 : decode cX9_fringes 26 = .ok (.aload_n 0, 1) := by decide +kernel
theorem dX9_fringes_27 : decode cX9_fringes 27 = .ok (.getfield 72, 3) := by decide +kernel
theorem dX9_fringes_30 : decode cX9_fringes 30 = .ok (.getfield 131, 3) := by decide +kernel
theorem dX9_fringes_33 : decode cX9_fringes 33 = .ok (.if_icmp .ge 95, 3) := by decide +kernel
theorem dX9_fringes_36 : decode cX9_fringes 36 = .ok (.iload 4, 2) := by decide +kernel
theorem dX9_fringes_38 : decode cX9_fringes 38 = .ok (.ifCond .eq 23, 3) := by decide +kernel
theorem dX9_fringes_41 : decode cX9_fringes 41 = .ok (.aload_n 0, 1) := by decide +kernel
theorem dX9_fringes_42 : decode cX9_fringes 42 = .ok (.getfield 56, 3) := by decide +kernel
theorem dX9_fringes_45 : decode cX9_fringes 45 = .ok (.iload 4, 2) := by decide +kernel
theorem dX9_fringes_47 : decode cX9_fringes 47 = .ok (.iconst 1, 1) := by decide +kernel
theorem dX9_fringes_48 : decode cX9_fringes 48 = .ok (.isub, 1) := by decide +kernel
theorem dX9_fringes_49 : decode cX9_fringes 49 = .ok (.laload, 1) := by decide +kernel
theorem dX9_fringes_50 : decode cX9_fringes 50 = .ok (.aload_n 0, 1) := by decide +kernel
theorem dX9_fringes_51 : decode cX9_fringes 51 = .ok (.getfield 56, 3) := by decide +kernel
theorem dX9_fringes_54 : decode cX9_fringes 54 = .ok (.iload 4, 2) := by decide +kernel
theorem dX9_fringes_56 : decode cX9_fringes 56 = .ok (.laload, 1) := by decide +kernel
theorem dX9_fringes_57 : decode cX9_fringes 57 = .ok (.lcmp, 1) := by decide +kernel
theorem dX9_fringes_58 : decode cX9_fringes 58 = .ok (.ifCond .ge 7, 3) := by decide +kernel
theorem dX9_fringes_61 : decode cX9_fringes 61 = .ok (.iconst 1, 1) := by decide +kernel
theorem dX9_fringes_62 : decode cX9_fringes 62 = .ok (.goto 4, 3) := by decide +kernel
theorem dX9_fringes_65 : decode cX9_fringes 65 = .ok (.iconst 0, 1) := by decide +kernel
theorem dX9_fringes_66 : decode cX9_fringes 66 = .ok (.istore 5, 2) := by decide +kernel
theorem dX9_fringes_68 : decode cX9_fringes 68 = .ok (.iload 4, 2) := by decide +kernel
theorem dX9_fringes_70 : decode cX9_fringes 70 = .ok (.aload_n 0, 1) := by decide +kernel
theorem dX9_fringes_71 : decode cX9_fringes 71 = .ok (.getfield 72, 3) := by decide +kernel
theorem dX9_fringes_74 : decode cX9_fringes 74 = .ok (.getfield 131, 3) := by decide +kernel
theorem dX9_fringes_77 : decode cX9_fringes 77 = .ok (.iconst 1, 1) := by decide +kernel
theorem dX9_fringes_78 : decode cX9_fringes 78 = .ok (.isub, 1) := by decide +kernel
theorem dX9_fringes_79 : decode cX9_fringes 79 = .ok (.if_icmp .eq 23, 3) := by decide +kernel
theorem dX9_fringes_82 : decode cX9_fringes 82 = .ok (.aload_n 0, 1) := by decide +kernel
theorem dX9_fringes_83 : decode cX9_fringes 83 = .ok (.getfield 56, 3) := by decide +kernel
theorem dX9_fringes_86 : decode cX9_fringes 86 = .ok (.iload 4, 2) := by decide +kernel
theorem dX9_fringes_88 : decode cX9_fringes 88 = .ok (.iconst 1, 1) := by decide +kernel
theorem dX9_fringes_89 : decode cX9_fringes 89 = .ok (.iadd, 1) := by decide +kernel
theorem dX9_fringes_90 : decode cX9_fringes 90 = .ok (.laload, 1) := by decide +kernel
theorem dX9_fringes_91 : decode cX9_fringes 91 = .ok (.aload_n 0, 1) := by decide +kernel
theorem dX9_fringes_92 : decode cX9_fringes 92 = .ok (.getfield 56, 3) := by decide +kernel
theorem dX9_fringes_95 : decode cX9_fringes 95 = .ok (.iload 4, 2) := by decide +kernel
theorem dX9_fringes_97 : decode cX9_fringes 97 = .ok (.laload, 1) := by decide +kernel
theorem dX9_fringes_98 : decode cX9_fringes 98 = .ok (.lcmp, 1) := by decide +kernel
theorem dX9_fringes_99 : decode cX9_fringes 99 = .ok (.ifCond .ge 7, 3) := by decide +kernel
theorem dX9_fringes_102 : decode cX9_fringes 102 = .ok (.iconst 1, 1) := by decide +kernel
theorem dX9_fringes_103 : decode cX9_fringes 103 = .ok (.goto 4, 3) := by decide +kernel
theorem dX9_fringes_106 : decode cX9_fringes 106 = .ok (.iconst 0, 1) := by decide +kernel
theorem dX9_fringes_107 : decode cX9_fringes 107 = .ok (.istore 6, 2) := by decide +kernel
theorem dX9_fringes_109 : decode cX9_fringes 109 = .ok (.iload 5, 2) := by decide +kernel
theorem dX9_fringes_111 : decode cX9_fringes 111 = .ok (.ifCond .eq 11, 3) := by decide +kernel
theorem dX9_fringes_114 : decode cX9_fringes 114 = .ok (.iload 6, 2) := by decide +kernel
theorem dX9_fringes_116 : decode cX9_fringes 116 = .ok (.ifCond .eq 6, 3) := by decide +kernel
theorem dX9_fringes_119 : decode cX9_fringes 119 = .ok (.iinc 3 1, 3) := by decide +kernel
theorem dX9_fringes_122 : decode cX9_fringes 122 = .ok (.iinc 4 1, 3) := by decide +kernel
theorem dX9_fringes_125 : decode cX9_fringes 125 = .ok (.goto (-101), 3) := by decide +kernel
theorem dX9_fringes_128 : decode cX9_fringes 128 = .ok (.iload_n 3, 1) := by decide +kernel
theorem dX9_fringes_129 : decode cX9_fringes 129 = .ok (.ireturn, 1) := by decide +kernel
theorem dX9_visibility_0 : decode cX9_visibility 0 = .ok (.aload_n 0, 1) := by decide +kernel
theorem dX9_visibility_1 : decode cX9_visibility 1 = .ok (.invokevirtual 134, 3) := by decide +kernel
theorem dX9_visibility_4 : decode cX9_visibility 4 = .ok (.aload_n 0, 1) := by decide +kernel
theorem dX9_visibility_5 : decode cX9_visibility 5 = .ok (.iload_n 1, 1) := by decide +kernel
theorem dX9_visibility_6 : decode cX9_visibility 6 = .ok (.invokevirtual 312, 3) := by decide +kernel
theorem dX9_visibility_9 : decode cX9_visibility 9 = .ok (.iload_n 2, 1) := by decide +kernel
theorem dX9_visibility_10 : decode cX9_visibility 10 = .ok (.invokestatic 256, 3) := by decide +kernel
theorem dX9_visibility_13 : decode cX9_visibility 13 = .ok (.aload_n 0, 1) := by decide +kernel
theorem dX9_visibility_14 : decode cX9_visibility 14 = .ok (.iload_n 1, 1) := by decide +kernel
theorem dX9_visibility_15 : decode cX9_visibility 15 = .ok (.iload_n 2, 1) := by decide +kernel
theorem dX9_visibility_16 : decode cX9_visibility 16 = .ok (.invokevirtual 315, 3) := by decide +kernel
theorem dX9_visibility_19 : decode cX9_visibility 19 = .ok (.aload_n 0, 1) := by decide +kernel
theorem dX9_visibility_20 : decode cX9_visibility 20 = .ok (.getfield 56, 3) := by decide +kernel
theorem dX9_visibility_23 : decode cX9_visibility 23 = .ok (.iconst 0, 1) := by decide +kernel
theorem dX9_visibility_24 : decode cX9_visibility 24 = .ok (.laload, 1) := by decide +kernel
theorem dX9_visibility_25 : decode cX9_visibility 25 = .ok (.lstore_n 3, 1) := by decide +kernel
theorem dX9_visibility_26 : decode cX9_visibility 26 = .ok (.aload_n 0, 1) := by decide +kernel
theorem dX9_visibility_27 : decode cX9_visibility 27 = .ok (.getfield 56, 3) := by decide +kernel
theorem dX9_visibility_30 : decode cX9_visibility 30 = .ok (.iconst 0, 1) := by decide +kernel
theorem dX9_visibility_31 : decode cX9_visibility 31 = .ok (.laload, 1) := by decide +kernel
theorem dX9_visibility_32 : decode cX9_visibility 32 = .ok (.lstore 5, 2) := by decide +kernel
theorem dX9_visibility_34 : decode cX9_visibility 34 = .ok (.iconst 1, 1) := by decide +kernel
theorem dX9_visibility_35 : decode cX9_visibility 35 = .ok (.istore 7, 2) := by decide +kernel
theorem dX9_visibility_37 : decode cX9_visibility 37 = .ok (.iload 7, 2) := by decide +kernel
theorem dX9_visibility_39 : decode cX9_visibility 39 = .ok (.aload_n 0, 1) := by decide +kernel
theorem dX9_visibility_40 : decode cX9_visibility 40 = .ok (.getfield 72, 3) := by decide +kernel
theorem dX9_visibility_43 : decode cX9_visibility 43 = .ok (.getfield 131, 3) := by decide +kernel
theorem dX9_visibility_46 : decode cX9_visibility 46 = .ok (.if_icmp .ge 35, 3) := by decide +kernel
theorem dX9_visibility_49 : decode cX9_visibility 49 = .ok (.lload_n 3, 1) := by decide +kernel
theorem dX9_visibility_50 : decode cX9_visibility 50 = .ok (.aload_n 0, 1) := by decide +kernel
theorem dX9_visibility_51 : decode cX9_visibility 51 = .ok (.getfield 56, 3) := by decide +kernel
theorem dX9_visibility_54 : decode cX9_visibility 54 = .ok (.iload 7, 2) := by decide +kernel
theorem dX9_visibility_56 : decode cX9_visibility 56 = .ok (.laload, 1) := by decide +kernel
theorem dX9_visibility_57 : decode cX9_visibility 57 = .ok (.invokestatic 318, 3) := by decide +kernel
theorem dX9_visibility_60 : decode cX9_visibility 60 = .ok (.lstore_n 3, 1) := by decide +kernel
theorem dX9_visibility_61 : decode cX9_visibility 61 = .ok (.lload 5, 2) := by decide +kernel
theorem dX9_visibility_63 : decode cX9_visibility 63 = .ok (.aload_n 0, 1) := by decide +kernel
theorem dX9_visibility_64 : decode cX9_visibility 64 = .ok (.getfield 56, 3) := by decide +kernel
theorem dX9_visibility_67 : decode cX9_visibility 67 = .ok (.iload 7, 2) := by decide +kernel
theorem dX9_visibility_69 : decode cX9_visibility 69 = .ok (.laload, 1) := by decide +kernel
theorem dX9_visibility_70 : decode cX9_visibility 70 = .ok (.invokestatic 321, 3) := by decide +kernel
theorem dX9_visibility_73 : decode cX9_visibility 73 = .ok (.lstore 5, 2) := by decide +kernel
theorem dX9_visibility_75 : decode cX9_visibility 75 = .ok (.iinc 7 1, 3) := by decide +kernel
theorem dX9_visibility_78 : decode cX9_visibility 78 = .ok (.goto (-41), 3) := by decide +kernel
theorem dX9_visibility_81 : decode cX9_visibility 81 = .ok (.lload_n 3, 1) := by decide +kernel
theorem dX9_visibility_82 : decode cX9_visibility 82 = .ok (.lconst 0, 1) := by decide +kernel
theorem dX9_visibility_83 : decode cX9_visibility 83 = .ok (.lcmp, 1) := by decide +kernel
theorem dX9_visibility_84 : decode cX9_visibility 84 = .ok (.ifCond .ne 5, 3) := by decide +kernel
theorem dX9_visibility_87 : decode cX9_visibility 87 = .ok (.fconst 0, 1) := by decide +kernel
theorem dX9_visibility_88 : decode cX9_visibility 88 = .ok (.freturn, 1) := by decide +kernel
theorem dX9_visibility_89 : decode cX9_visibility 89 = .ok (.lload_n 3, 1) := by decide +kernel
theorem dX9_visibility_90 : decode cX9_visibility 90 = .ok (.lload 5, 2) := by decide +kernel
theorem dX9_visibility_92 : decode cX9_visibility 92 = .ok (.lsub, 1) := by decide +kernel
theorem dX9_visibility_93 : decode cX9_visibility 93 = .ok (.l2f, 1) := by decide +kernel
theorem dX9_visibility_94 : decode cX9_visibility 94 = .ok (.lload_n 3, 1) := by decide +kernel
theorem dX9_visibility_95 : decode cX9_visibility 95 = .ok (.lload 5, 2) := by decide +kernel
theorem dX9_visibility_97 : decode cX9_visibility 97 = .ok (.ladd, 1) := by decide +kernel
theorem dX9_visibility_98 : decode cX9_visibility 98 = .ok (.l2f, 1) := by decide +kernel
theorem dX9_visibility_99 : decode cX9_visibility 99 = .ok (.fdiv, 1) := by decide +kernel
theorem dX9_visibility_100 : decode cX9_visibility 100 = .ok (.freturn, 1) := by decide +kernel
theorem dX9_writeRow_0 : decode cX9_writeRow 0 = .ok (.aload_n 0, 1) := by decide +kernel
theorem dX9_writeRow_1 : decode cX9_writeRow 1 = .ok (.invokevirtual 134, 3) := by decide +kernel
theorem dX9_writeRow_4 : decode cX9_writeRow 4 = .ok (.aload_n 0, 1) := by decide +kernel
theorem dX9_writeRow_5 : decode cX9_writeRow 5 = .ok (.iload_n 1, 1) := by decide +kernel
theorem dX9_writeRow_6 : decode cX9_writeRow 6 = .ok (.invokevirtual 143, 3) := by decide +kernel
theorem dX9_writeRow_9 : decode cX9_writeRow 9 = .ok (.aload_n 0, 1) := by decide +kernel
theorem dX9_writeRow_10 : decode cX9_writeRow 10 = .ok (.getfield 45, 3) := by decide +kernel
theorem dX9_writeRow_13 : decode cX9_writeRow 13 = .ok (.iconst 0, 1) := by decide +kernel
theorem dX9_writeRow_14 : decode cX9_writeRow 14 = .ok (.putfield 324, 3) := by decide +kernel
theorem dX9_writeRow_17 : decode cX9_writeRow 17 = .ok (.iconst 0, 1) := by decide +kernel
theorem dX9_writeRow_18 : decode cX9_writeRow 18 = .ok (.istore_n 2, 1) := by decide +kernel
theorem dX9_writeRow_19 : decode cX9_writeRow 19 = .ok (.iload_n 2, 1) := by decide +kernel
theorem dX9_writeRow_20 : decode cX9_writeRow 20 = .ok (.aload_n 0, 1) := by decide +kernel
theorem dX9_writeRow_21 : decode cX9_writeRow 21 = .ok (.getfield 72, 3) := by decide +kernel
theorem dX9_writeRow_24 : decode cX9_writeRow 24 = .ok (.getfield 128, 3) := by decide +kernel
theorem dX9_writeRow_27 : decode cX9_writeRow 27 = .ok (.if_icmp .ge 49, 3) := by decide +kernel
theorem dX9_writeRow_30 : decode cX9_writeRow 30 = .ok (.iload_n 2, 1) := by decide +kernel
theorem dX9_writeRow_31 : decode cX9_writeRow 31 = .ok (.ifCond .le 12, 3) := by decide +kernel
theorem dX9_writeRow_34 : decode cX9_writeRow 34 = .ok (.aload_n 0, 1) := by decide +kernel
theorem dX9_writeRow_35 : decode cX9_writeRow 35 = .ok (.getfield 45, 3) := by decide +kernel
theorem dX9_writeRow_38 : decode cX9_writeRow 38 = .ok (.bipush 44, 2) := by decide +kernel
theorem dX9_writeRow_40 : decode cX9_writeRow 40 = .ok (.invokevirtual 325, 3) := by decide +kernel
theorem dX9_writeRow_43 : decode cX9_writeRow 43 = .ok (.aload_n 0, 1) := by decide +kernel
theorem dX9_writeRow_44 : decode cX9_writeRow 44 = .ok (.getfield 45, 3) := by decide +kernel
theorem dX9_writeRow_47 : decode cX9_writeRow 47 = .ok (.aload_n 0, 1) := by decide +kernel
theorem dX9_writeRow_48 : decode cX9_writeRow 48 = .ok (.getfield 72, 3) := by decide +kernel
theorem dX9_writeRow_51 : decode cX9_writeRow 51 = .ok (.aload_n 0, 1) := by decide +kernel
theorem dX9_writeRow_52 : decode cX9_writeRow 52 = .ok (.getfield 20, 3) := by decide +kernel
theorem dX9_writeRow_55 : decode cX9_writeRow 55 = .ok (.iload_n 2, 1) := by decide +kernel
theorem dX9_writeRow_56 : decode cX9_writeRow 56 = .ok (.iload_n 1, 1) := by decide +kernel
theorem dX9_writeRow_57 : decode cX9_writeRow 57 = .ok (.aload_n 0, 1) := by decide +kernel
theorem dX9_writeRow_58 : decode cX9_writeRow 58 = .ok (.getfield 20, 3) := by decide +kernel
theorem dX9_writeRow_61 : decode cX9_writeRow 61 = .ok (.getfield 125, 3) := by decide +kernel
theorem dX9_writeRow_64 : decode cX9_writeRow 64 = .ok (.invokevirtual 233, 3) := by decide +kernel
theorem dX9_writeRow_67 : decode cX9_writeRow 67 = .ok (.invokevirtual 328, 3) := by decide +kernel
theorem dX9_writeRow_70 : decode cX9_writeRow 70 = .ok (.iinc 2 1, 3) := by decide +kernel
theorem dX9_writeRow_73 : decode cX9_writeRow 73 = .ok (.goto (-54), 3) := by decide +kernel
theorem dX9_writeRow_76 : decode cX9_writeRow 76 = .ok (.aload_n 0, 1) := by decide +kernel
theorem dX9_writeRow_77 : decode cX9_writeRow 77 = .ok (.getfield 45, 3) := by decide +kernel
theorem dX9_writeRow_80 : decode cX9_writeRow 80 = .ok (.getfield 324, 3) := by decide +kernel
theorem dX9_writeRow_83 : decode cX9_writeRow 83 = .ok (.ireturn, 1) := by decide +kernel
theorem dX9_writeMap_0 : decode cX9_writeMap 0 = .ok (.aload_n 0, 1) := by decide +kernel
theorem dX9_writeMap_1 : decode cX9_writeMap 1 = .ok (.invokevirtual 134, 3) := by decide +kernel
theorem dX9_writeMap_4 : decode cX9_writeMap 4 = .ok (.iload_n 1, 1) := by decide +kernel
theorem dX9_writeMap_5 : decode cX9_writeMap 5 = .ok (.invokestatic 256, 3) := by decide +kernel
theorem dX9_writeMap_8 : decode cX9_writeMap 8 = .ok (.aload_n 0, 1) := by decide +kernel
theorem dX9_writeMap_9 : decode cX9_writeMap 9 = .ok (.iload_n 1, 1) := by decide +kernel
theorem dX9_writeMap_10 : decode cX9_writeMap 10 = .ok (.invokevirtual 289, 3) := by decide +kernel
theorem dX9_writeMap_13 : decode cX9_writeMap 13 = .ok (.aload_n 0, 1) := by decide +kernel
theorem dX9_writeMap_14 : decode cX9_writeMap 14 = .ok (.invokevirtual 301, 3) := by decide +kernel
theorem dX9_writeMap_17 : decode cX9_writeMap 17 = .ok (.lstore_n 2, 1) := by decide +kernel
theorem dX9_writeMap_18 : decode cX9_writeMap 18 = .ok (.aload_n 0, 1) := by decide +kernel
theorem dX9_writeMap_19 : decode cX9_writeMap 19 = .ok (.getfield 45, 3) := by decide +kernel
theorem dX9_writeMap_22 : decode cX9_writeMap 22 = .ok (.iconst 0, 1) := by decide +kernel
theorem dX9_writeMap_23 : decode cX9_writeMap 23 = .ok (.putfield 324, 3) := by decide +kernel
theorem dX9_writeMap_26 : decode cX9_writeMap 26 = .ok (.iconst 0, 1) := by decide +kernel
theorem dX9_writeMap_27 : decode cX9_writeMap 27 = .ok (.istore 4, 2) := by decide +kernel
theorem dX9_writeMap_29 : decode cX9_writeMap 29 = .ok (.iload 4, 2) := by decide +kernel
theorem dX9_writeMap_31 : decode cX9_writeMap 31 = .ok (.aload_n 0, 1) := by decide +kernel
theorem dX9_writeMap_32 : decode cX9_writeMap 32 = .ok (.getfield 72, 3) := by decide +kernel
theorem dX9_writeMap_35 : decode cX9_writeMap 35 = .ok (.invokevirtual 292, 3) := by decide +kernel
theorem dX9_writeMap_38 : decode cX9_writeMap 38 = .ok (.if_icmp .ge 70, 3) := by decide +kernel
theorem dX9_writeMap_41 : decode cX9_writeMap 41 = .ok (.iload 4, 2) := by decide +kernel
theorem dX9_writeMap_43 : decode cX9_writeMap 43 = .ok (.ifCond .le 25, 3) := by decide +kernel
theorem dX9_writeMap_46 : decode cX9_writeMap 46 = .ok (.iload 4, 2) := by decide +kernel
theorem dX9_writeMap_48 : decode cX9_writeMap 48 = .ok (.aload_n 0, 1) := by decide +kernel
theorem dX9_writeMap_49 : decode cX9_writeMap 49 = .ok (.getfield 72, 3) := by decide +kernel
theorem dX9_writeMap_52 : decode cX9_writeMap 52 = .ok (.getfield 128, 3) := by decide +kernel
theorem dX9_writeMap_55 : decode cX9_writeMap 55 = .ok (.irem, 1) := by decide +kernel
theorem dX9_writeMap_56 : decode cX9_writeMap 56 = .ok (.ifCond .ne 12, 3) := by decide +kernel
theorem dX9_writeMap_59 : decode cX9_writeMap 59 = .ok (.aload_n 0, 1) := by decide +kernel
theorem dX9_writeMap_60 : decode cX9_writeMap 60 = .ok (.getfield 45, 3) := by decide +kernel
theorem dX9_writeMap_63 : decode cX9_writeMap 63 = .ok (.bipush 59, 2) := by decide +kernel
theorem dX9_writeMap_65 : decode cX9_writeMap 65 = .ok (.invokevirtual 325, 3) := by decide +kernel
theorem dX9_writeMap_68 : decode cX9_writeMap 68 = .ok (.aload_n 0, 1) := by decide +kernel
theorem dX9_writeMap_69 : decode cX9_writeMap 69 = .ok (.getfield 45, 3) := by decide +kernel
theorem dX9_writeMap_72 : decode cX9_writeMap 72 = .ok (.bipush 48, 2) := by decide +kernel
theorem dX9_writeMap_74 : decode cX9_writeMap 74 = .ok (.lload_n 2, 1) := by decide +kernel
theorem dX9_writeMap_75 : decode cX9_writeMap 75 = .ok (.lconst 0, 1) := by decide +kernel
theorem dX9_writeMap_76 : decode cX9_writeMap 76 = .ok (.lcmp, 1) := by decide +kernel
theorem dX9_writeMap_77 : decode cX9_writeMap 77 = .ok (.ifCond .ne 7, 3) := by decide +kernel
theorem dX9_writeMap_80 : decode cX9_writeMap 80 = .ok (.iconst 0, 1) := by decide +kernel
theorem dX9_writeMap_81 : decode cX9_writeMap 81 = .ok (.goto 17, 3) := by decide +kernel
theorem dX9_writeMap_84 : decode cX9_writeMap 84 = .ok (.ldc2_w 331, 3) := by decide +kernel
theorem dX9_writeMap_87 : decode cX9_writeMap 87 = .ok (.aload_n 0, 1) := by decide +kernel
theorem dX9_writeMap_88 : decode cX9_writeMap 88 = .ok (.getfield 56, 3) := by decide +kernel
theorem dX9_writeMap_91 : decode cX9_writeMap 91 = .ok (.iload 4, 2) := by decide +kernel
theorem dX9_writeMap_93 : decode cX9_writeMap 93 = .ok (.laload, 1) := by decide +kernel
theorem dX9_writeMap_94 : decode cX9_writeMap 94 = .ok (.lmul, 1) := by decide +kernel
theorem dX9_writeMap_95 : decode cX9_writeMap 95 = .ok (.lload_n 2, 1) := by decide +kernel
theorem dX9_writeMap_96 : decode cX9_writeMap 96 = .ok (.ldiv, 1) := by decide +kernel
theorem dX9_writeMap_97 : decode cX9_writeMap 97 = .ok (.l2i, 1) := by decide +kernel
theorem dX9_writeMap_98 : decode cX9_writeMap 98 = .ok (.iadd, 1) := by decide +kernel
theorem dX9_writeMap_99 : decode cX9_writeMap 99 = .ok (.invokevirtual 325, 3) := by decide +kernel
theorem dX9_writeMap_102 : decode cX9_writeMap 102 = .ok (.iinc 4 1, 3) := by decide +kernel
theorem dX9_writeMap_105 : decode cX9_writeMap 105 = .ok (.goto (-76), 3) := by decide +kernel
theorem dX9_writeMap_108 : decode cX9_writeMap 108 = .ok (.aload_n 0, 1) := by decide +kernel
theorem dX9_writeMap_109 : decode cX9_writeMap 109 = .ok (.getfield 45, 3) := by decide +kernel
theorem dX9_writeMap_112 : decode cX9_writeMap 112 = .ok (.getfield 324, 3) := by decide +kernel
theorem dX9_writeMap_115 : decode cX9_writeMap 115 = .ok (.ireturn, 1) := by decide +kernel
theorem dX9_textByte_0 : decode cX9_textByte 0 = .ok (.iload_n 1, 1) := by decide +kernel
theorem dX9_textByte_1 : decode cX9_textByte 1 = .ok (.ifCond .lt 14, 3) := by decide +kernel
theorem dX9_textByte_4 : decode cX9_textByte 4 = .ok (.iload_n 1, 1) := by decide +kernel
theorem dX9_textByte_5 : decode cX9_textByte 5 = .ok (.aload_n 0, 1) := by decide +kernel
theorem dX9_textByte_6 : decode cX9_textByte 6 = .ok (.getfield 45, 3) := by decide +kernel
theorem dX9_textByte_9 : decode cX9_textByte 9 = .ok (.getfield 324, 3) := by decide +kernel
theorem dX9_textByte_12 : decode cX9_textByte 12 = .ok (.if_icmp .lt 14, 3) := by decide +kernel
theorem dX9_textByte_15 : decode cX9_textByte 15 = .ok (.new 86, 3) := by decide +kernel
theorem dX9_textByte_18 : decode cX9_textByte 18 = .ok (.dup, 1) := by decide +kernel
theorem dX9_textByte_19 : decode cX9_textByte 19 = .ok (.ldc_w 333, 3) := by decide +kernel
theorem dX9_textByte_22 : decode cX9_textByte 22 = .ok (.invokespecial 90, 3) := by decide +kernel
theorem dX9_textByte_25 : decode cX9_textByte 25 = .ok (.athrow, 1) := by decide +kernel
theorem dX9_textByte_26 : decode cX9_textByte 26 = .ok (.aload_n 0, 1) := by decide +kernel
theorem dX9_textByte_27 : decode cX9_textByte 27 = .ok (.getfield 45, 3) := by decide +kernel
theorem dX9_textByte_30 : decode cX9_textByte 30 = .ok (.getfield 335, 3) := by decide +kernel
theorem dX9_textByte_33 : decode cX9_textByte 33 = .ok (.iload_n 1, 1) := by decide +kernel
theorem dX9_textByte_34 : decode cX9_textByte 34 = .ok (.baload, 1) := by decide +kernel
theorem dX9_textByte_35 : decode cX9_textByte 35 = .ok (.ireturn, 1) := by decide +kernel
theorem dX9_nodesIfOff_0 : decode cX9_nodesIfOff 0 = .ok (.aload_n 0, 1) := by decide +kernel
theorem dX9_nodesIfOff_1 : decode cX9_nodesIfOff 1 = .ok (.invokevirtual 134, 3) := by decide +kernel
theorem dX9_nodesIfOff_4 : decode cX9_nodesIfOff 4 = .ok (.aload_n 0, 1) := by decide +kernel
theorem dX9_nodesIfOff_5 : decode cX9_nodesIfOff 5 = .ok (.iload_n 1, 1) := by decide +kernel
theorem dX9_nodesIfOff_6 : decode cX9_nodesIfOff 6 = .ok (.invokevirtual 150, 3) := by decide +kernel
theorem dX9_nodesIfOff_9 : decode cX9_nodesIfOff 9 = .ok (.iload_n 2, 1) := by decide +kernel
theorem dX9_nodesIfOff_10 : decode cX9_nodesIfOff 10 = .ok (.invokestatic 256, 3) := by decide +kernel
theorem dX9_nodesIfOff_13 : decode cX9_nodesIfOff 13 = .ok (.iload_n 3, 1) := by decide +kernel
theorem dX9_nodesIfOff_14 : decode cX9_nodesIfOff 14 = .ok (.invokestatic 236, 3) := by decide +kernel
theorem dX9_nodesIfOff_17 : decode cX9_nodesIfOff 17 = .ok (.aload_n 0, 1) := by decide +kernel
theorem dX9_nodesIfOff_18 : decode cX9_nodesIfOff 18 = .ok (.getfield 24, 3) := by decide +kernel
theorem dX9_nodesIfOff_21 : decode cX9_nodesIfOff 21 = .ok (.aload_n 0, 1) := by decide +kernel
theorem dX9_nodesIfOff_22 : decode cX9_nodesIfOff 22 = .ok (.getfield 20, 3) := by decide +kernel
theorem dX9_nodesIfOff_25 : decode cX9_nodesIfOff 25 = .ok (.invokevirtual 111, 3) := by decide +kernel
theorem dX9_nodesIfOff_28 : decode cX9_nodesIfOff 28 = .ok (.aload_n 0, 1) := by decide +kernel
theorem dX9_nodesIfOff_29 : decode cX9_nodesIfOff 29 = .ok (.getfield 24, 3) := by decide +kernel
theorem dX9_nodesIfOff_32 : decode cX9_nodesIfOff 32 = .ok (.getfield 188, 3) := by decide +kernel
theorem dX9_nodesIfOff_35 : decode cX9_nodesIfOff 35 = .ok (.iload_n 1, 1) := by decide +kernel
theorem dX9_nodesIfOff_36 : decode cX9_nodesIfOff 36 = .ok (.iconst 0, 1) := by decide +kernel
theorem dX9_nodesIfOff_37 : decode cX9_nodesIfOff 37 = .ok (.bastore, 1) := by decide +kernel
theorem dX9_nodesIfOff_38 : decode cX9_nodesIfOff 38 = .ok (.aload_n 0, 1) := by decide +kernel
theorem dX9_nodesIfOff_39 : decode cX9_nodesIfOff 39 = .ok (.aload_n 0, 1) := by decide +kernel
theorem dX9_nodesIfOff_40 : decode cX9_nodesIfOff 40 = .ok (.getfield 24, 3) := by decide +kernel
theorem dX9_nodesIfOff_43 : decode cX9_nodesIfOff 43 = .ok (.iload_n 2, 1) := by decide +kernel
theorem dX9_nodesIfOff_44 : decode cX9_nodesIfOff 44 = .ok (.iload_n 3, 1) := by decide +kernel
theorem dX9_nodesIfOff_45 : decode cX9_nodesIfOff 45 = .ok (.invokevirtual 273, 3) := by decide +kernel
theorem dX9_nodesIfOff_48 : decode cX9_nodesIfOff 48 = .ok (.ireturn, 1) := by decide +kernel
theorem dX9_bestPhase_0 : decode cX9_bestPhase 0 = .ok (.aload_n 0, 1) := by decide +kernel
theorem dX9_bestPhase_1 : decode cX9_bestPhase 1 = .ok (.invokevirtual 134, 3) := by decide +kernel
theorem dX9_bestPhase_4 : decode cX9_bestPhase 4 = .ok (.aload_n 0, 1) := by decide +kernel
theorem dX9_bestPhase_5 : decode cX9_bestPhase 5 = .ok (.iload_n 1, 1) := by decide +kernel
theorem dX9_bestPhase_6 : decode cX9_bestPhase 6 = .ok (.invokevirtual 150, 3) := by decide +kernel
theorem dX9_bestPhase_9 : decode cX9_bestPhase 9 = .ok (.aload_n 0, 1) := by decide +kernel
theorem dX9_bestPhase_10 : decode cX9_bestPhase 10 = .ok (.iload_n 2, 1) := by decide +kernel
theorem dX9_bestPhase_11 : decode cX9_bestPhase 11 = .ok (.iload_n 3, 1) := by decide +kernel
theorem dX9_bestPhase_12 : decode cX9_bestPhase 12 = .ok (.invokevirtual 206, 3) := by decide +kernel
theorem dX9_bestPhase_15 : decode cX9_bestPhase 15 = .ok (.iload 4, 2) := by decide +kernel
theorem dX9_bestPhase_17 : decode cX9_bestPhase 17 = .ok (.invokestatic 256, 3) := by decide +kernel
theorem dX9_bestPhase_20 : decode cX9_bestPhase 20 = .ok (.aload_n 0, 1) := by decide +kernel
theorem dX9_bestPhase_21 : decode cX9_bestPhase 21 = .ok (.getfield 24, 3) := by decide +kernel
theorem dX9_bestPhase_24 : decode cX9_bestPhase 24 = .ok (.aload_n 0, 1) := by decide +kernel
theorem dX9_bestPhase_25 : decode cX9_bestPhase 25 = .ok (.getfield 20, 3) := by decide +kernel
theorem dX9_bestPhase_28 : decode cX9_bestPhase 28 = .ok (.invokevirtual 111, 3) := by decide +kernel
theorem dX9_bestPhase_31 : decode cX9_bestPhase 31 = .ok (.iconst (-1), 1) := by decide +kernel
theorem dX9_bestPhase_32 : decode cX9_bestPhase 32 = .ok (.istore 5, 2) := by decide +kernel
theorem dX9_bestPhase_34 : decode cX9_bestPhase 34 = .ok (.lconst 0, 1) := by decide +kernel
theorem dX9_bestPhase_35 : decode cX9_bestPhase 35 = .ok (.lstore 6, 2) := by decide +kernel
theorem dX9_bestPhase_37 : decode cX9_bestPhase 37 = .ok (.iconst 0, 1) := by decide +kernel
theorem dX9_bestPhase_38 : decode cX9_bestPhase 38 = .ok (.istore 8, 2) := by decide +kernel
theorem dX9_bestPhase_40 : decode cX9_bestPhase 40 = .ok (.iload 8, 2) := by decide +kernel
theorem dX9_bestPhase_42 : decode cX9_bestPhase 42 = .ok (.sipush 360, 3) := by decide +kernel
theorem dX9_bestPhase_45 : decode cX9_bestPhase 45 = .ok (.if_icmp .ge 59, 3) := by decide +kernel
theorem dX9_bestPhase_48 : decode cX9_bestPhase 48 = .ok (.aload_n 0, 1) := by decide +kernel
theorem dX9_bestPhase_49 : decode cX9_bestPhase 49 = .ok (.getfield 24, 3) := by decide +kernel
theorem dX9_bestPhase_52 : decode cX9_bestPhase 52 = .ok (.getfield 179, 3) := by decide +kernel
theorem dX9_bestPhase_55 : decode cX9_bestPhase 55 = .ok (.iload_n 1, 1) := by decide +kernel
theorem dX9_bestPhase_56 : decode cX9_bestPhase 56 = .ok (.iload 8, 2) := by decide +kernel
theorem dX9_bestPhase_58 : decode cX9_bestPhase 58 = .ok (.iastore, 1) := by decide +kernel
theorem dX9_bestPhase_59 : decode cX9_bestPhase 59 = .ok (.aload_n 0, 1) := by decide +kernel
theorem dX9_bestPhase_60 : decode cX9_bestPhase 60 = .ok (.getfield 72, 3) := by decide +kernel
theorem dX9_bestPhase_63 : decode cX9_bestPhase 63 = .ok (.aload_n 0, 1) := by decide +kernel
theorem dX9_bestPhase_64 : decode cX9_bestPhase 64 = .ok (.getfield 24, 3) := by decide +kernel
theorem dX9_bestPhase_67 : decode cX9_bestPhase 67 = .ok (.iload_n 2, 1) := by decide +kernel
theorem dX9_bestPhase_68 : decode cX9_bestPhase 68 = .ok (.iload_n 3, 1) := by decide +kernel
theorem dX9_bestPhase_69 : decode cX9_bestPhase 69 = .ok (.iload 4, 2) := by decide +kernel
theorem dX9_bestPhase_71 : decode cX9_bestPhase 71 = .ok (.invokevirtual 285, 3) := by decide +kernel
theorem dX9_bestPhase_74 : decode cX9_bestPhase 74 = .ok (.lstore 9, 2) := by decide +kernel
theorem dX9_bestPhase_76 : decode cX9_bestPhase 76 = .ok (.iload 5, 2) := by decide +kernel
theorem dX9_bestPhase_78 : decode cX9_bestPhase 78 = .ok (.iconst (-1), 1) := by decide +kernel
theorem dX9_bestPhase_79 : decode cX9_bestPhase 79 = .ok (.if_icmp .eq 11, 3) := by decide +kernel
theorem dX9_bestPhase_82 : decode cX9_bestPhase 82 = .ok (.lload 9, 2) := by decide +kernel
theorem dX9_bestPhase_84 : decode cX9_bestPhase 84 = .ok (.lload 6, 2) := by decide +kernel
theorem dX9_bestPhase_86 : decode cX9_bestPhase 86 = .ok (.lcmp, 1) := by decide +kernel
theorem dX9_bestPhase_87 : decode cX9_bestPhase 87 = .ok (.ifCond .ge 11, 3) := by decide +kernel
theorem dX9_bestPhase_90 : decode cX9_bestPhase 90 = .ok (.lload 9, 2) := by decide +kernel
theorem dX9_bestPhase_92 : decode cX9_bestPhase 92 = .ok (.lstore 6, 2) := by decide +kernel
theorem dX9_bestPhase_94 : decode cX9_bestPhase 94 = .ok (.iload 8, 2) := by decide +kernel
theorem dX9_bestPhase_96 : decode cX9_bestPhase 96 = .ok (.istore 5, 2) := by decide +kernel
theorem dX9_bestPhase_98 : decode cX9_bestPhase 98 = .ok (.iinc 8 15, 3) := by decide +kernel
theorem dX9_bestPhase_101 : decode cX9_bestPhase 101 = .ok (.goto (-61), 3) := by decide +kernel
theorem dX9_bestPhase_104 : decode cX9_bestPhase 104 = .ok (.iload 5, 2) := by decide +kernel
theorem dX9_bestPhase_106 : decode cX9_bestPhase 106 = .ok (.ireturn, 1) := by decide +kernel
theorem dX9_bestPlace_0 : decode cX9_bestPlace 0 = .ok (.aload_n 0, 1) := by decide +kernel
theorem dX9_bestPlace_1 : decode cX9_bestPlace 1 = .ok (.invokevirtual 134, 3) := by decide +kernel
theorem dX9_bestPlace_4 : decode cX9_bestPlace 4 = .ok (.aload_n 0, 1) := by decide +kernel
theorem dX9_bestPlace_5 : decode cX9_bestPlace 5 = .ok (.iload_n 1, 1) := by decide +kernel
theorem dX9_bestPlace_6 : decode cX9_bestPlace 6 = .ok (.invokevirtual 150, 3) := by decide +kernel
theorem dX9_bestPlace_9 : decode cX9_bestPlace 9 = .ok (.aload_n 0, 1) := by decide +kernel
theorem dX9_bestPlace_10 : decode cX9_bestPlace 10 = .ok (.iload_n 2, 1) := by decide +kernel
theorem dX9_bestPlace_11 : decode cX9_bestPlace 11 = .ok (.iload_n 3, 1) := by decide +kernel
theorem dX9_bestPlace_12 : decode cX9_bestPlace 12 = .ok (.invokevirtual 206, 3) := by decide +kernel
theorem dX9_bestPlace_15 : decode cX9_bestPlace 15 = .ok (.iload 4, 2) := by decide +kernel
theorem dX9_bestPlace_17 : decode cX9_bestPlace 17 = .ok (.invokestatic 256, 3) := by decide +kernel
theorem dX9_bestPlace_20 : decode cX9_bestPlace 20 = .ok (.aload_n 0, 1) := by decide +kernel
theorem dX9_bestPlace_21 : decode cX9_bestPlace 21 = .ok (.getfield 24, 3) := by decide +kernel
theorem dX9_bestPlace_24 : decode cX9_bestPlace 24 = .ok (.aload_n 0, 1) := by decide +kernel
theorem dX9_bestPlace_25 : decode cX9_bestPlace 25 = .ok (.getfield 20, 3) := by decide +kernel
theorem dX9_bestPlace_28 : decode cX9_bestPlace 28 = .ok (.invokevirtual 111, 3) := by decide +kernel
theorem dX9_bestPlace_31 : decode cX9_bestPlace 31 = .ok (.iconst (-1), 1) := by decide +kernel
theorem dX9_bestPlace_32 : decode cX9_bestPlace 32 = .ok (.istore 5, 2) := by decide +kernel
theorem dX9_bestPlace_34 : decode cX9_bestPlace 34 = .ok (.lconst 0, 1) := by decide +kernel
theorem dX9_bestPlace_35 : decode cX9_bestPlace 35 = .ok (.lstore 6, 2) := by decide +kernel
theorem dX9_bestPlace_37 : decode cX9_bestPlace 37 = .ok (.iconst 0, 1) := by decide +kernel
theorem dX9_bestPlace_38 : decode cX9_bestPlace 38 = .ok (.istore 8, 2) := by decide +kernel
theorem dX9_bestPlace_40 : decode cX9_bestPlace 40 = .ok (.iload 8, 2) := by decide +kernel
theorem dX9_bestPlace_42 : decode cX9_bestPlace 42 = .ok (.aload_n 0, 1) := by decide +kernel
theorem dX9_bestPlace_43 : decode cX9_bestPlace 43 = .ok (.getfield 72, 3) := by decide +kernel
theorem dX9_bestPlace_46 : decode cX9_bestPlace 46 = .ok (.invokevirtual 292, 3) := by decide +kernel
theorem dX9_bestPlace_49 : decode cX9_bestPlace 49 = .ok (.if_icmp .ge 86, 3) := by decide +kernel
theorem dX9_bestPlace_52 : decode cX9_bestPlace 52 = .ok (.aload_n 0, 1) := by decide +kernel
theorem dX9_bestPlace_53 : decode cX9_bestPlace 53 = .ok (.getfield 24, 3) := by decide +kernel
theorem dX9_bestPlace_56 : decode cX9_bestPlace 56 = .ok (.getfield 338, 3) := by decide +kernel
theorem dX9_bestPlace_59 : decode cX9_bestPlace 59 = .ok (.iload_n 1, 1) := by decide +kernel
theorem dX9_bestPlace_60 : decode cX9_bestPlace 60 = .ok (.iload 8, 2) := by decide +kernel
theorem dX9_bestPlace_62 : decode cX9_bestPlace 62 = .ok (.aload_n 0, 1) := by decide +kernel
theorem dX9_bestPlace_63 : decode cX9_bestPlace 63 = .ok (.getfield 72, 3) := by decide +kernel
theorem dX9_bestPlace_66 : decode cX9_bestPlace 66 = .ok (.getfield 128, 3) := by decide +kernel
theorem dX9_bestPlace_69 : decode cX9_bestPlace 69 = .ok (.irem, 1) := by decide +kernel
theorem dX9_bestPlace_70 : decode cX9_bestPlace 70 = .ok (.iastore, 1) := by decide +kernel
theorem dX9_bestPlace_71 : decode cX9_bestPlace 71 = .ok (.aload_n 0, 1) := by decide +kernel
theorem dX9_bestPlace_72 : decode cX9_bestPlace 72 = .ok (.getfield 24, 3) := by decide +kernel
theorem dX9_bestPlace_75 : decode cX9_bestPlace 75 = .ok (.getfield 340, 3) := by decide +kernel
theorem dX9_bestPlace_78 : decode cX9_bestPlace 78 = .ok (.iload_n 1, 1) := by decide +kernel
theorem dX9_bestPlace_79 : decode cX9_bestPlace 79 = .ok (.iload 8, 2) := by decide +kernel
theorem dX9_bestPlace_81 : decode cX9_bestPlace 81 = .ok (.aload_n 0, 1) := by decide +kernel
theorem dX9_bestPlace_82 : decode cX9_bestPlace 82 = .ok (.getfield 72, 3) := by decide +kernel
theorem dX9_bestPlace_85 : decode cX9_bestPlace 85 = .ok (.getfield 128, 3) := by decide +kernel
theorem dX9_bestPlace_88 : decode cX9_bestPlace 88 = .ok (.idiv, 1) := by decide +kernel
theorem dX9_bestPlace_89 : decode cX9_bestPlace 89 = .ok (.iastore, 1) := by decide +kernel
theorem dX9_bestPlace_90 : decode cX9_bestPlace 90 = .ok (.aload_n 0, 1) := by decide +kernel
theorem dX9_bestPlace_91 : decode cX9_bestPlace 91 = .ok (.getfield 72, 3) := by decide +kernel
theorem dX9_bestPlace_94 : decode cX9_bestPlace 94 = .ok (.aload_n 0, 1) := by decide +kernel
theorem dX9_bestPlace_95 : decode cX9_bestPlace 95 = .ok (.getfield 24, 3) := by decide +kernel
theorem dX9_bestPlace_98 : decode cX9_bestPlace 98 = .ok (.iload_n 2, 1) := by decide +kernel
theorem dX9_bestPlace_99 : decode cX9_bestPlace 99 = .ok (.iload_n 3, 1) := by decide +kernel
theorem dX9_bestPlace_100 : decode cX9_bestPlace 100 = .ok (.iload 4, 2) := by decide +kernel
theorem dX9_bestPlace_102 : decode cX9_bestPlace 102 = .ok (.invokevirtual 285, 3) := by decide +kernel
theorem dX9_bestPlace_105 : decode cX9_bestPlace 105 = .ok (.lstore 9, 2) := by decide +kernel
theorem dX9_bestPlace_107 : decode cX9_bestPlace 107 = .ok (.iload 5, 2) := by decide +kernel
theorem dX9_bestPlace_109 : decode cX9_bestPlace 109 = .ok (.iconst (-1), 1) := by decide +kernel
theorem dX9_bestPlace_110 : decode cX9_bestPlace 110 = .ok (.if_icmp .eq 11, 3) := by decide +kernel
theorem dX9_bestPlace_113 : decode cX9_bestPlace 113 = .ok (.lload 9, 2) := by decide +kernel
theorem dX9_bestPlace_115 : decode cX9_bestPlace 115 = .ok (.lload 6, 2) := by decide +kernel
theorem dX9_bestPlace_117 : decode cX9_bestPlace 117 = .ok (.lcmp, 1) := by decide +kernel
theorem dX9_bestPlace_118 : decode cX9_bestPlace 118 = .ok (.ifCond .ge 11, 3) := by decide +kernel
theorem dX9_bestPlace_121 : decode cX9_bestPlace 121 = .ok (.lload 9, 2) := by decide +kernel
theorem dX9_bestPlace_123 : decode cX9_bestPlace 123 = .ok (.lstore 6, 2) := by decide +kernel
theorem dX9_bestPlace_125 : decode cX9_bestPlace 125 = .ok (.iload 8, 2) := by decide +kernel
theorem dX9_bestPlace_127 : decode cX9_bestPlace 127 = .ok (.istore 5, 2) := by decide +kernel
theorem dX9_bestPlace_129 : decode cX9_bestPlace 129 = .ok (.iinc 8 1, 3) := by decide +kernel
theorem dX9_bestPlace_132 : decode cX9_bestPlace 132 = .ok (.goto (-92), 3) := by decide +kernel
theorem dX9_bestPlace_135 : decode cX9_bestPlace 135 = .ok (.iload 5, 2) := by decide +kernel
theorem dX9_bestPlace_137 : decode cX9_bestPlace 137 = .ok (.ireturn, 1) := by decide +kernel
theorem dX9_energyIfTurned_0 : decode cX9_energyIfTurned 0 = .ok (.aload_n 0, 1) := by decide +kernel
theorem dX9_energyIfTurned_1 : decode cX9_energyIfTurned 1 = .ok (.invokevirtual 134, 3) := by decide +kernel
theorem dX9_energyIfTurned_4 : decode cX9_energyIfTurned 4 = .ok (.aload_n 0, 1) := by decide +kernel
theorem dX9_energyIfTurned_5 : decode cX9_energyIfTurned 5 = .ok (.iload_n 1, 1) := by decide +kernel
theorem dX9_energyIfTurned_6 : decode cX9_energyIfTurned 6 = .ok (.iload_n 2, 1) := by decide +kernel
theorem dX9_energyIfTurned_7 : decode cX9_energyIfTurned 7 = .ok (.invokevirtual 206, 3) := by decide +kernel
theorem dX9_energyIfTurned_10 : decode cX9_energyIfTurned 10 = .ok (.aload_n 0, 1) := by decide +kernel
theorem dX9_energyIfTurned_11 : decode cX9_energyIfTurned 11 = .ok (.iload_n 3, 1) := by decide +kernel
theorem dX9_energyIfTurned_12 : decode cX9_energyIfTurned 12 = .ok (.invokevirtual 143, 3) := by decide +kernel
theorem dX9_energyIfTurned_15 : decode cX9_energyIfTurned 15 = .ok (.iload 4, 2) := by decide +kernel
theorem dX9_energyIfTurned_17 : decode cX9_energyIfTurned 17 = .ok (.invokestatic 256, 3) := by decide +kernel
theorem dX9_energyIfTurned_20 : decode cX9_energyIfTurned 20 = .ok (.aload_n 0, 1) := by decide +kernel
theorem dX9_energyIfTurned_21 : decode cX9_energyIfTurned 21 = .ok (.iload_n 1, 1) := by decide +kernel
theorem dX9_energyIfTurned_22 : decode cX9_energyIfTurned 22 = .ok (.iload_n 2, 1) := by decide +kernel
theorem dX9_energyIfTurned_23 : decode cX9_energyIfTurned 23 = .ok (.iload_n 3, 1) := by decide +kernel
theorem dX9_energyIfTurned_24 : decode cX9_energyIfTurned 24 = .ok (.iload 4, 2) := by decide +kernel
theorem dX9_energyIfTurned_26 : decode cX9_energyIfTurned 26 = .ok (.invokevirtual 342, 3) := by decide +kernel
theorem dX9_energyIfTurned_29 : decode cX9_energyIfTurned 29 = .ok (.lreturn, 1) := by decide +kernel
theorem dX9_bestRow_0 : decode cX9_bestRow 0 = .ok (.aload_n 0, 1) := by decide +kernel
theorem dX9_bestRow_1 : decode cX9_bestRow 1 = .ok (.invokevirtual 134, 3) := by decide +kernel
theorem dX9_bestRow_4 : decode cX9_bestRow 4 = .ok (.aload_n 0, 1) := by decide +kernel
theorem dX9_bestRow_5 : decode cX9_bestRow 5 = .ok (.iload_n 1, 1) := by decide +kernel
theorem dX9_bestRow_6 : decode cX9_bestRow 6 = .ok (.iload_n 2, 1) := by decide +kernel
theorem dX9_bestRow_7 : decode cX9_bestRow 7 = .ok (.invokevirtual 206, 3) := by decide +kernel
theorem dX9_bestRow_10 : decode cX9_bestRow 10 = .ok (.iload_n 3, 1) := by decide +kernel
theorem dX9_bestRow_11 : decode cX9_bestRow 11 = .ok (.invokestatic 256, 3) := by decide +kernel
theorem dX9_bestRow_14 : decode cX9_bestRow 14 = .ok (.iconst (-1), 1) := by decide +kernel
theorem dX9_bestRow_15 : decode cX9_bestRow 15 = .ok (.istore 4, 2) := by decide +kernel
theorem dX9_bestRow_17 : decode cX9_bestRow 17 = .ok (.ldc2_w 346, 3) := by decide +kernel
theorem dX9_bestRow_20 : decode cX9_bestRow 20 = .ok (.lstore 5, 2) := by decide +kernel
theorem dX9_bestRow_22 : decode cX9_bestRow 22 = .ok (.iconst 0, 1) := by decide +kernel
theorem dX9_bestRow_23 : decode cX9_bestRow 23 = .ok (.istore 7, 2) := by decide +kernel
theorem dX9_bestRow_25 : decode cX9_bestRow 25 = .ok (.iload 7, 2) := by decide +kernel
theorem dX9_bestRow_27 : decode cX9_bestRow 27 = .ok (.aload_n 0, 1) := by decide +kernel
theorem dX9_bestRow_28 : decode cX9_bestRow 28 = .ok (.getfield 72, 3) := by decide +kernel
theorem dX9_bestRow_31 : decode cX9_bestRow 31 = .ok (.getfield 131, 3) := by decide +kernel
theorem dX9_bestRow_34 : decode cX9_bestRow 34 = .ok (.if_icmp .ge 36, 3) := by decide +kernel
theorem dX9_bestRow_37 : decode cX9_bestRow 37 = .ok (.aload_n 0, 1) := by decide +kernel
theorem dX9_bestRow_38 : decode cX9_bestRow 38 = .ok (.iload_n 1, 1) := by decide +kernel
theorem dX9_bestRow_39 : decode cX9_bestRow 39 = .ok (.iload_n 2, 1) := by decide +kernel
theorem dX9_bestRow_40 : decode cX9_bestRow 40 = .ok (.iload 7, 2) := by decide +kernel
theorem dX9_bestRow_42 : decode cX9_bestRow 42 = .ok (.iload_n 3, 1) := by decide +kernel
theorem dX9_bestRow_43 : decode cX9_bestRow 43 = .ok (.invokevirtual 342, 3) := by decide +kernel
theorem dX9_bestRow_46 : decode cX9_bestRow 46 = .ok (.lstore 8, 2) := by decide +kernel
theorem dX9_bestRow_48 : decode cX9_bestRow 48 = .ok (.lload 8, 2) := by decide +kernel
theorem dX9_bestRow_50 : decode cX9_bestRow 50 = .ok (.lload 5, 2) := by decide +kernel
theorem dX9_bestRow_52 : decode cX9_bestRow 52 = .ok (.lcmp, 1) := by decide +kernel
theorem dX9_bestRow_53 : decode cX9_bestRow 53 = .ok (.ifCond .le 11, 3) := by decide +kernel
theorem dX9_bestRow_56 : decode cX9_bestRow 56 = .ok (.lload 8, 2) := by decide +kernel
theorem dX9_bestRow_58 : decode cX9_bestRow 58 = .ok (.lstore 5, 2) := by decide +kernel
theorem dX9_bestRow_60 : decode cX9_bestRow 60 = .ok (.iload 7, 2) := by decide +kernel
theorem dX9_bestRow_62 : decode cX9_bestRow 62 = .ok (.istore 4, 2) := by decide +kernel
theorem dX9_bestRow_64 : decode cX9_bestRow 64 = .ok (.iinc 7 1, 3) := by decide +kernel
theorem dX9_bestRow_67 : decode cX9_bestRow 67 = .ok (.goto (-42), 3) := by decide +kernel
theorem dX9_bestRow_70 : decode cX9_bestRow 70 = .ok (.iload 4, 2) := by decide +kernel
theorem dX9_bestRow_72 : decode cX9_bestRow 72 = .ok (.ireturn, 1) := by decide +kernel
theorem dX9_advance_0 : decode cX9_advance 0 = .ok (.aload_n 0, 1) := by decide +kernel
theorem dX9_advance_1 : decode cX9_advance 1 = .ok (.invokevirtual 134, 3) := by decide +kernel
theorem dX9_advance_4 : decode cX9_advance 4 = .ok (.iload_n 1, 1) := by decide +kernel
theorem dX9_advance_5 : decode cX9_advance 5 = .ok (.iconst 1, 1) := by decide +kernel
theorem dX9_advance_6 : decode cX9_advance 6 = .ok (.sipush 999, 3) := by decide +kernel
theorem dX9_advance_9 : decode cX9_advance 9 = .ok (.invokestatic 153, 3) := by decide +kernel
theorem dX9_advance_12 : decode cX9_advance 12 = .ok (.aload_n 0, 1) := by decide +kernel
theorem dX9_advance_13 : decode cX9_advance 13 = .ok (.getfield 20, 3) := by decide +kernel
theorem dX9_advance_16 : decode cX9_advance 16 = .ok (.getfield 125, 3) := by decide +kernel
theorem dX9_advance_19 : decode cX9_advance 19 = .ok (.iload_n 1, 1) := by decide +kernel
theorem dX9_advance_20 : decode cX9_advance 20 = .ok (.iadd, 1) := by decide +kernel
theorem dX9_advance_21 : decode cX9_advance 21 = .ok (.iconst 0, 1) := by decide +kernel
theorem dX9_advance_22 : decode cX9_advance 22 = .ok (.sipush 9999, 3) := by decide +kernel
theorem dX9_advance_25 : decode cX9_advance 25 = .ok (.invokestatic 153, 3) := by decide +kernel
theorem dX9_advance_28 : decode cX9_advance 28 = .ok (.aload_n 0, 1) := by decide +kernel
theorem dX9_advance_29 : decode cX9_advance 29 = .ok (.getfield 30, 3) := by decide +kernel
theorem dX9_advance_32 : decode cX9_advance 32 = .ok (.aload_n 0, 1) := by decide +kernel
theorem dX9_advance_33 : decode cX9_advance 33 = .ok (.getfield 20, 3) := by decide +kernel
theorem dX9_advance_36 : decode cX9_advance 36 = .ok (.invokevirtual 348, 3) := by decide +kernel
theorem dX9_advance_39 : decode cX9_advance 39 = .ok (.aload_n 0, 1) := by decide +kernel
theorem dX9_advance_40 : decode cX9_advance 40 = .ok (.getfield 20, 3) := by decide +kernel
theorem dX9_advance_43 : decode cX9_advance 43 = .ok (.dup, 1) := by decide +kernel
theorem dX9_advance_44 : decode cX9_advance 44 = .ok (.getfield 125, 3) := by decide +kernel
theorem dX9_advance_47 : decode cX9_advance 47 = .ok (.iload_n 1, 1) := by decide +kernel
theorem dX9_advance_48 : decode cX9_advance 48 = .ok (.iadd, 1) := by decide +kernel
theorem dX9_advance_49 : decode cX9_advance 49 = .ok (.putfield 125, 3) := by decide +kernel
theorem dX9_advance_52 : decode cX9_advance 52 = .ok (.aload_n 0, 1) := by decide +kernel
theorem dX9_advance_53 : decode cX9_advance 53 = .ok (.getfield 20, 3) := by decide +kernel
theorem dX9_advance_56 : decode cX9_advance 56 = .ok (.getfield 125, 3) := by decide +kernel
theorem dX9_advance_59 : decode cX9_advance 59 = .ok (.ireturn, 1) := by decide +kernel
theorem dX9_setOn_0 : decode cX9_setOn 0 = .ok (.aload_n 0, 1) := by decide +kernel
theorem dX9_setOn_1 : decode cX9_setOn 1 = .ok (.invokevirtual 134, 3) := by decide +kernel
theorem dX9_setOn_4 : decode cX9_setOn 4 = .ok (.aload_n 0, 1) := by decide +kernel
theorem dX9_setOn_5 : decode cX9_setOn 5 = .ok (.iload_n 1, 1) := by decide +kernel
theorem dX9_setOn_6 : decode cX9_setOn 6 = .ok (.invokevirtual 150, 3) := by decide +kernel
theorem dX9_setOn_9 : decode cX9_setOn 9 = .ok (.aload_n 0, 1) := by decide +kernel
theorem dX9_setOn_10 : decode cX9_setOn 10 = .ok (.getfield 30, 3) := by decide +kernel
theorem dX9_setOn_13 : decode cX9_setOn 13 = .ok (.aload_n 0, 1) := by decide +kernel
theorem dX9_setOn_14 : decode cX9_setOn 14 = .ok (.getfield 20, 3) := by decide +kernel
theorem dX9_setOn_17 : decode cX9_setOn 17 = .ok (.invokevirtual 348, 3) := by decide +kernel
theorem dX9_setOn_20 : decode cX9_setOn 20 = .ok (.aload_n 0, 1) := by decide +kernel
theorem dX9_setOn_21 : decode cX9_setOn 21 = .ok (.getfield 20, 3) := by decide +kernel
theorem dX9_setOn_24 : decode cX9_setOn 24 = .ok (.getfield 188, 3) := by decide +kernel
theorem dX9_setOn_27 : decode cX9_setOn 27 = .ok (.iload_n 1, 1) := by decide +kernel
theorem dX9_setOn_28 : decode cX9_setOn 28 = .ok (.baload, 1) := by decide +kernel
theorem dX9_setOn_29 : decode cX9_setOn 29 = .ok (.istore_n 3, 1) := by decide +kernel
theorem dX9_setOn_30 : decode cX9_setOn 30 = .ok (.aload_n 0, 1) := by decide +kernel
theorem dX9_setOn_31 : decode cX9_setOn 31 = .ok (.getfield 20, 3) := by decide +kernel
theorem dX9_setOn_34 : decode cX9_setOn 34 = .ok (.getfield 188, 3) := by decide +kernel
theorem dX9_setOn_37 : decode cX9_setOn 37 = .ok (.iload_n 1, 1) := by decide +kernel
theorem dX9_setOn_38 : decode cX9_setOn 38 = .ok (.iload_n 2, 1) := by decide +kernel
theorem dX9_setOn_39 : decode cX9_setOn 39 = .ok (.bastore, 1) := by decide +kernel
theorem dX9_setOn_40 : decode cX9_setOn 40 = .ok (.iload_n 3, 1) := by decide +kernel
theorem dX9_setOn_41 : decode cX9_setOn 41 = .ok (.ireturn, 1) := by decide +kernel
theorem dX9_setPhase_0 : decode cX9_setPhase 0 = .ok (.aload_n 0, 1) := by decide +kernel
theorem dX9_setPhase_1 : decode cX9_setPhase 1 = .ok (.invokevirtual 134, 3) := by decide +kernel
theorem dX9_setPhase_4 : decode cX9_setPhase 4 = .ok (.aload_n 0, 1) := by decide +kernel
theorem dX9_setPhase_5 : decode cX9_setPhase 5 = .ok (.iload_n 1, 1) := by decide +kernel
theorem dX9_setPhase_6 : decode cX9_setPhase 6 = .ok (.invokevirtual 150, 3) := by decide +kernel
theorem dX9_setPhase_9 : decode cX9_setPhase 9 = .ok (.iload_n 2, 1) := by decide +kernel
theorem dX9_setPhase_10 : decode cX9_setPhase 10 = .ok (.iconst 0, 1) := by decide +kernel
theorem dX9_setPhase_11 : decode cX9_setPhase 11 = .ok (.sipush 359, 3) := by decide +kernel
theorem dX9_setPhase_14 : decode cX9_setPhase 14 = .ok (.invokestatic 153, 3) := by decide +kernel
theorem dX9_setPhase_17 : decode cX9_setPhase 17 = .ok (.aload_n 0, 1) := by decide +kernel
theorem dX9_setPhase_18 : decode cX9_setPhase 18 = .ok (.getfield 30, 3) := by decide +kernel
theorem dX9_setPhase_21 : decode cX9_setPhase 21 = .ok (.aload_n 0, 1) := by decide +kernel
theorem dX9_setPhase_22 : decode cX9_setPhase 22 = .ok (.getfield 20, 3) := by decide +kernel
theorem dX9_setPhase_25 : decode cX9_setPhase 25 = .ok (.invokevirtual 348, 3) := by decide +kernel
theorem dX9_setPhase_28 : decode cX9_setPhase 28 = .ok (.aload_n 0, 1) := by decide +kernel
theorem dX9_setPhase_29 : decode cX9_setPhase 29 = .ok (.getfield 20, 3) := by decide +kernel
theorem dX9_setPhase_32 : decode cX9_setPhase 32 = .ok (.getfield 179, 3) := by decide +kernel
theorem dX9_setPhase_35 : decode cX9_setPhase 35 = .ok (.iload_n 1, 1) := by decide +kernel
theorem dX9_setPhase_36 : decode cX9_setPhase 36 = .ok (.iaload, 1) := by decide +kernel
theorem dX9_setPhase_37 : decode cX9_setPhase 37 = .ok (.istore_n 3, 1) := by decide +kernel
theorem dX9_setPhase_38 : decode cX9_setPhase 38 = .ok (.aload_n 0, 1) := by decide +kernel
theorem dX9_setPhase_39 : decode cX9_setPhase 39 = .ok (.getfield 20, 3) := by decide +kernel
theorem dX9_setPhase_42 : decode cX9_setPhase 42 = .ok (.getfield 179, 3) := by decide +kernel
theorem dX9_setPhase_45 : decode cX9_setPhase 45 = .ok (.iload_n 1, 1) := by decide +kernel
theorem dX9_setPhase_46 : decode cX9_setPhase 46 = .ok (.iload_n 2, 1) := by decide +kernel
theorem dX9_setPhase_47 : decode cX9_setPhase 47 = .ok (.iastore, 1) := by decide +kernel
theorem dX9_setPhase_48 : decode cX9_setPhase 48 = .ok (.iload_n 3, 1) := by decide +kernel
theorem dX9_setPhase_49 : decode cX9_setPhase 49 = .ok (.ireturn, 1) := by decide +kernel
theorem dX9_setAmp_0 : decode cX9_setAmp 0 = .ok (.aload_n 0, 1) := by decide +kernel
theorem dX9_setAmp_1 : decode cX9_setAmp 1 = .ok (.invokevirtual 134, 3) := by decide +kernel
theorem dX9_setAmp_4 : decode cX9_setAmp 4 = .ok (.aload_n 0, 1) := by decide +kernel
theorem dX9_setAmp_5 : decode cX9_setAmp 5 = .ok (.iload_n 1, 1) := by decide +kernel
theorem dX9_setAmp_6 : decode cX9_setAmp 6 = .ok (.invokevirtual 150, 3) := by decide +kernel
theorem dX9_setAmp_9 : decode cX9_setAmp 9 = .ok (.iload_n 2, 1) := by decide +kernel
theorem dX9_setAmp_10 : decode cX9_setAmp 10 = .ok (.iconst 1, 1) := by decide +kernel
theorem dX9_setAmp_11 : decode cX9_setAmp 11 = .ok (.sipush 999, 3) := by decide +kernel
theorem dX9_setAmp_14 : decode cX9_setAmp 14 = .ok (.invokestatic 153, 3) := by decide +kernel
theorem dX9_setAmp_17 : decode cX9_setAmp 17 = .ok (.aload_n 0, 1) := by decide +kernel
theorem dX9_setAmp_18 : decode cX9_setAmp 18 = .ok (.getfield 30, 3) := by decide +kernel
theorem dX9_setAmp_21 : decode cX9_setAmp 21 = .ok (.aload_n 0, 1) := by decide +kernel
theorem dX9_setAmp_22 : decode cX9_setAmp 22 = .ok (.getfield 20, 3) := by decide +kernel
theorem dX9_setAmp_25 : decode cX9_setAmp 25 = .ok (.invokevirtual 348, 3) := by decide +kernel
theorem dX9_setAmp_28 : decode cX9_setAmp 28 = .ok (.aload_n 0, 1) := by decide +kernel
theorem dX9_setAmp_29 : decode cX9_setAmp 29 = .ok (.getfield 20, 3) := by decide +kernel
theorem dX9_setAmp_32 : decode cX9_setAmp 32 = .ok (.getfield 164, 3) := by decide +kernel
theorem dX9_setAmp_35 : decode cX9_setAmp 35 = .ok (.iload_n 1, 1) := by decide +kernel
theorem dX9_setAmp_36 : decode cX9_setAmp 36 = .ok (.iaload, 1) := by decide +kernel
theorem dX9_setAmp_37 : decode cX9_setAmp 37 = .ok (.istore_n 3, 1) := by decide +kernel
theorem dX9_setAmp_38 : decode cX9_setAmp 38 = .ok (.aload_n 0, 1) := by decide +kernel
theorem dX9_setAmp_39 : decode cX9_setAmp 39 = .ok (.getfield 20, 3) := by decide +kernel
theorem dX9_setAmp_42 : decode cX9_setAmp 42 = .ok (.getfield 164, 3) := by decide +kernel
theorem dX9_setAmp_45 : decode cX9_setAmp 45 = .ok (.iload_n 1, 1) := by decide +kernel
theorem dX9_setAmp_46 : decode cX9_setAmp 46 = .ok (.iload_n 2, 1) := by decide +kernel
theorem dX9_setAmp_47 : decode cX9_setAmp 47 = .ok (.iastore, 1) := by decide +kernel
theorem dX9_setAmp_48 : decode cX9_setAmp 48 = .ok (.iload_n 3, 1) := by decide +kernel
theorem dX9_setAmp_49 : decode cX9_setAmp 49 = .ok (.ireturn, 1) := by decide +kernel
theorem dX9_moveSource_0 : decode cX9_moveSource 0 = .ok (.aload_n 0, 1) := by decide +kernel
theorem dX9_moveSource_1 : decode cX9_moveSource 1 = .ok (.invokevirtual 134, 3) := by decide +kernel
theorem dX9_moveSource_4 : decode cX9_moveSource 4 = .ok (.aload_n 0, 1) := by decide +kernel
theorem dX9_moveSource_5 : decode cX9_moveSource 5 = .ok (.iload_n 1, 1) := by decide +kernel
theorem dX9_moveSource_6 : decode cX9_moveSource 6 = .ok (.invokevirtual 150, 3) := by decide +kernel
theorem dX9_moveSource_9 : decode cX9_moveSource 9 = .ok (.aload_n 0, 1) := by decide +kernel
theorem dX9_moveSource_10 : decode cX9_moveSource 10 = .ok (.iload_n 2, 1) := by decide +kernel
theorem dX9_moveSource_11 : decode cX9_moveSource 11 = .ok (.iload_n 3, 1) := by decide +kernel
theorem dX9_moveSource_12 : decode cX9_moveSource 12 = .ok (.invokevirtual 206, 3) := by decide +kernel
theorem dX9_moveSource_15 : decode cX9_moveSource 15 = .ok (.aload_n 0, 1) := by decide +kernel
theorem dX9_moveSource_16 : decode cX9_moveSource 16 = .ok (.getfield 30, 3) := by decide +kernel
theorem dX9_moveSource_19 : decode cX9_moveSource 19 = .ok (.aload_n 0, 1) := by decide +kernel
theorem dX9_moveSource_20 : decode cX9_moveSource 20 = .ok (.getfield 20, 3) := by decide +kernel
theorem dX9_moveSource_23 : decode cX9_moveSource 23 = .ok (.invokevirtual 348, 3) := by decide +kernel
theorem dX9_moveSource_26 : decode cX9_moveSource 26 = .ok (.aload_n 0, 1) := by decide +kernel
theorem dX9_moveSource_27 : decode cX9_moveSource 27 = .ok (.getfield 20, 3) := by decide +kernel
theorem dX9_moveSource_30 : decode cX9_moveSource 30 = .ok (.getfield 338, 3) := by decide +kernel
theorem dX9_moveSource_33 : decode cX9_moveSource 33 = .ok (.iload_n 1, 1) := by decide +kernel
theorem dX9_moveSource_34 : decode cX9_moveSource 34 = .ok (.iload_n 2, 1) := by decide +kernel
theorem dX9_moveSource_35 : decode cX9_moveSource 35 = .ok (.iastore, 1) := by decide +kernel
theorem dX9_moveSource_36 : decode cX9_moveSource 36 = .ok (.aload_n 0, 1) := by decide +kernel
theorem dX9_moveSource_37 : decode cX9_moveSource 37 = .ok (.getfield 20, 3) := by decide +kernel
theorem dX9_moveSource_40 : decode cX9_moveSource 40 = .ok (.getfield 340, 3) := by decide +kernel
theorem dX9_moveSource_43 : decode cX9_moveSource 43 = .ok (.iload_n 1, 1) := by decide +kernel
theorem dX9_moveSource_44 : decode cX9_moveSource 44 = .ok (.iload_n 3, 1) := by decide +kernel
theorem dX9_moveSource_45 : decode cX9_moveSource 45 = .ok (.iastore, 1) := by decide +kernel
theorem dX9_moveSource_46 : decode cX9_moveSource 46 = .ok (.aload_n 0, 1) := by decide +kernel
theorem dX9_moveSource_47 : decode cX9_moveSource 47 = .ok (.getfield 72, 3) := by decide +kernel
theorem dX9_moveSource_50 : decode cX9_moveSource 50 = .ok (.aload_n 0, 1) := by decide +kernel
theorem dX9_moveSource_51 : decode cX9_moveSource 51 = .ok (.getfield 20, 3) := by decide +kernel
theorem dX9_moveSource_54 : decode cX9_moveSource 54 = .ok (.iload_n 1, 1) := by decide +kernel
theorem dX9_moveSource_55 : decode cX9_moveSource 55 = .ok (.invokevirtual 351, 3) := by decide +kernel
theorem dX9_moveSource_58 : decode cX9_moveSource 58 = .ok (.ireturn, 1) := by decide +kernel
theorem dX9_setDrift_0 : decode cX9_setDrift 0 = .ok (.aload_n 0, 1) := by decide +kernel
theorem dX9_setDrift_1 : decode cX9_setDrift 1 = .ok (.invokevirtual 134, 3) := by decide +kernel
theorem dX9_setDrift_4 : decode cX9_setDrift 4 = .ok (.aload_n 0, 1) := by decide +kernel
theorem dX9_setDrift_5 : decode cX9_setDrift 5 = .ok (.iload_n 1, 1) := by decide +kernel
theorem dX9_setDrift_6 : decode cX9_setDrift 6 = .ok (.invokevirtual 150, 3) := by decide +kernel
theorem dX9_setDrift_9 : decode cX9_setDrift 9 = .ok (.iload_n 2, 1) := by decide +kernel
theorem dX9_setDrift_10 : decode cX9_setDrift 10 = .ok (.bipush (-99), 2) := by decide +kernel
theorem dX9_setDrift_12 : decode cX9_setDrift 12 = .ok (.bipush 99, 2) := by decide +kernel
theorem dX9_setDrift_14 : decode cX9_setDrift 14 = .ok (.invokestatic 153, 3) := by decide +kernel
theorem dX9_setDrift_17 : decode cX9_setDrift 17 = .ok (.iload_n 3, 1) := by decide +kernel
theorem dX9_setDrift_18 : decode cX9_setDrift 18 = .ok (.bipush (-99), 2) := by decide +kernel
theorem dX9_setDrift_20 : decode cX9_setDrift 20 = .ok (.bipush 99, 2) := by decide +kernel
theorem dX9_setDrift_22 : decode cX9_setDrift 22 = .ok (.invokestatic 153, 3) := by decide +kernel
theorem dX9_setDrift_25 : decode cX9_setDrift 25 = .ok (.aload_n 0, 1) := by decide +kernel
theorem dX9_setDrift_26 : decode cX9_setDrift 26 = .ok (.getfield 30, 3) := by decide +kernel
theorem dX9_setDrift_29 : decode cX9_setDrift 29 = .ok (.aload_n 0, 1) := by decide +kernel
theorem dX9_setDrift_30 : decode cX9_setDrift 30 = .ok (.getfield 20, 3) := by decide +kernel
theorem dX9_setDrift_33 : decode cX9_setDrift 33 = .ok (.invokevirtual 348, 3) := by decide +kernel
theorem dX9_setDrift_36 : decode cX9_setDrift 36 = .ok (.aload_n 0, 1) := by decide +kernel
theorem dX9_setDrift_37 : decode cX9_setDrift 37 = .ok (.getfield 20, 3) := by decide +kernel
theorem dX9_setDrift_40 : decode cX9_setDrift 40 = .ok (.getfield 355, 3) := by decide +kernel
theorem dX9_setDrift_43 : decode cX9_setDrift 43 = .ok (.iload_n 1, 1) := by decide +kernel
theorem dX9_setDrift_44 : decode cX9_setDrift 44 = .ok (.iload_n 2, 1) := by decide +kernel
theorem dX9_setDrift_45 : decode cX9_setDrift 45 = .ok (.iastore, 1) := by decide +kernel
theorem dX9_setDrift_46 : decode cX9_setDrift 46 = .ok (.aload_n 0, 1) := by decide +kernel
theorem dX9_setDrift_47 : decode cX9_setDrift 47 = .ok (.getfield 20, 3) := by decide +kernel
theorem dX9_setDrift_50 : decode cX9_setDrift 50 = .ok (.getfield 358, 3) := by decide +kernel
theorem dX9_setDrift_53 : decode cX9_setDrift 53 = .ok (.iload_n 1, 1) := by decide +kernel
theorem dX9_setDrift_54 : decode cX9_setDrift 54 = .ok (.iload_n 3, 1) := by decide +kernel
theorem dX9_setDrift_55 : decode cX9_setDrift 55 = .ok (.iastore, 1) := by decide +kernel
theorem dX9_setDrift_56 : decode cX9_setDrift 56 = .ok (.aload_n 0, 1) := by decide +kernel
theorem dX9_setDrift_57 : decode cX9_setDrift 57 = .ok (.getfield 72, 3) := by decide +kernel
theorem dX9_setDrift_60 : decode cX9_setDrift 60 = .ok (.aload_n 0, 1) := by decide +kernel
theorem dX9_setDrift_61 : decode cX9_setDrift 61 = .ok (.getfield 20, 3) := by decide +kernel
theorem dX9_setDrift_64 : decode cX9_setDrift 64 = .ok (.iload_n 1, 1) := by decide +kernel
theorem dX9_setDrift_65 : decode cX9_setDrift 65 = .ok (.invokevirtual 351, 3) := by decide +kernel
theorem dX9_setDrift_68 : decode cX9_setDrift 68 = .ok (.ireturn, 1) := by decide +kernel
theorem dX9_turnRow_0 : decode cX9_turnRow 0 = .ok (.aload_n 0, 1) := by decide +kernel
theorem dX9_turnRow_1 : decode cX9_turnRow 1 = .ok (.invokevirtual 134, 3) := by decide +kernel
theorem dX9_turnRow_4 : decode cX9_turnRow 4 = .ok (.aload_n 0, 1) := by decide +kernel
theorem dX9_turnRow_5 : decode cX9_turnRow 5 = .ok (.getfield 72, 3) := by decide +kernel
theorem dX9_turnRow_8 : decode cX9_turnRow 8 = .ok (.getfield 137, 3) := by decide +kernel
theorem dX9_turnRow_11 : decode cX9_turnRow 11 = .ok (.iconst (-1), 1) := by decide +kernel
theorem dX9_turnRow_12 : decode cX9_turnRow 12 = .ok (.if_icmp .ne 14, 3) := by decide +kernel
theorem dX9_turnRow_15 : decode cX9_turnRow 15 = .ok (.new 361, 3) := by decide +kernel
theorem dX9_turnRow_18 : decode cX9_turnRow 18 = .ok (.dup, 1) := by decide +kernel
theorem dX9_turnRow_19 : decode cX9_turnRow 19 = .ok (.ldc_w 363, 3) := by decide +kernel
theorem dX9_turnRow_22 : decode cX9_turnRow 22 = .ok (.invokespecial 365, 3) := by decide +kernel
theorem dX9_turnRow_25 : decode cX9_turnRow 25 = .ok (.athrow, 1) := by decide +kernel
theorem dX9_turnRow_26 : decode cX9_turnRow 26 = .ok (.aload_n 0, 1) := by decide +kernel
theorem dX9_turnRow_27 : decode cX9_turnRow 27 = .ok (.iload_n 1, 1) := by decide +kernel
theorem dX9_turnRow_28 : decode cX9_turnRow 28 = .ok (.invokevirtual 143, 3) := by decide +kernel
theorem dX9_turnRow_31 : decode cX9_turnRow 31 = .ok (.aload_n 0, 1) := by decide +kernel
theorem dX9_turnRow_32 : decode cX9_turnRow 32 = .ok (.getfield 30, 3) := by decide +kernel
theorem dX9_turnRow_35 : decode cX9_turnRow 35 = .ok (.aload_n 0, 1) := by decide +kernel
theorem dX9_turnRow_36 : decode cX9_turnRow 36 = .ok (.getfield 20, 3) := by decide +kernel
theorem dX9_turnRow_39 : decode cX9_turnRow 39 = .ok (.invokevirtual 348, 3) := by decide +kernel
theorem dX9_turnRow_42 : decode cX9_turnRow 42 = .ok (.aload_n 0, 1) := by decide +kernel
theorem dX9_turnRow_43 : decode cX9_turnRow 43 = .ok (.getfield 20, 3) := by decide +kernel
theorem dX9_turnRow_46 : decode cX9_turnRow 46 = .ok (.iload_n 1, 1) := by decide +kernel
theorem dX9_turnRow_47 : decode cX9_turnRow 47 = .ok (.invokevirtual 366, 3) := by decide +kernel
theorem dX9_turnRow_50 : decode cX9_turnRow 50 = .ok (.aload_n 0, 1) := by decide +kernel
theorem dX9_turnRow_51 : decode cX9_turnRow 51 = .ok (.getfield 20, 3) := by decide +kernel
theorem dX9_turnRow_54 : decode cX9_turnRow 54 = .ok (.iload_n 1, 1) := by decide +kernel
theorem dX9_turnRow_55 : decode cX9_turnRow 55 = .ok (.invokevirtual 146, 3) := by decide +kernel
theorem dX9_turnRow_58 : decode cX9_turnRow 58 = .ok (.ireturn, 1) := by decide +kernel
theorem dX9_undo_0 : decode cX9_undo 0 = .ok (.aload_n 0, 1) := by decide +kernel
theorem dX9_undo_1 : decode cX9_undo 1 = .ok (.getfield 30, 3) := by decide +kernel
theorem dX9_undo_4 : decode cX9_undo 4 = .ok (.getfield 369, 3) := by decide +kernel
theorem dX9_undo_7 : decode cX9_undo 7 = .ok (.ifCond .ne 14, 3) := by decide +kernel
theorem dX9_undo_10 : decode cX9_undo 10 = .ok (.new 361, 3) := by decide +kernel
theorem dX9_undo_13 : decode cX9_undo 13 = .ok (.dup, 1) := by decide +kernel
theorem dX9_undo_14 : decode cX9_undo 14 = .ok (.ldc_w 372, 3) := by decide +kernel
theorem dX9_undo_17 : decode cX9_undo 17 = .ok (.invokespecial 365, 3) := by decide +kernel
theorem dX9_undo_20 : decode cX9_undo 20 = .ok (.athrow, 1) := by decide +kernel
theorem dX9_undo_21 : decode cX9_undo 21 = .ok (.aload_n 0, 1) := by decide +kernel
theorem dX9_undo_22 : decode cX9_undo 22 = .ok (.getfield 30, 3) := by decide +kernel
theorem dX9_undo_25 : decode cX9_undo 25 = .ok (.aload_n 0, 1) := by decide +kernel
theorem dX9_undo_26 : decode cX9_undo 26 = .ok (.getfield 20, 3) := by decide +kernel
theorem dX9_undo_29 : decode cX9_undo 29 = .ok (.invokevirtual 374, 3) := by decide +kernel
theorem dX9_undo_32 : decode cX9_undo 32 = .ok (.aload_n 0, 1) := by decide +kernel
theorem dX9_undo_33 : decode cX9_undo 33 = .ok (.getfield 30, 3) := by decide +kernel
theorem dX9_undo_36 : decode cX9_undo 36 = .ok (.getfield 369, 3) := by decide +kernel
theorem dX9_undo_39 : decode cX9_undo 39 = .ok (.ireturn, 1) := by decide +kernel
theorem dX9_undoable_0 : decode cX9_undoable 0 = .ok (.aload_n 0, 1) := by decide +kernel
theorem dX9_undoable_1 : decode cX9_undoable 1 = .ok (.getfield 30, 3) := by decide +kernel
theorem dX9_undoable_4 : decode cX9_undoable 4 = .ok (.getfield 369, 3) := by decide +kernel
theorem dX9_undoable_7 : decode cX9_undoable 7 = .ok (.ireturn, 1) := by decide +kernel
theorem dX9_save_0 : decode cX9_save 0 = .ok (.aload_n 0, 1) := by decide +kernel
theorem dX9_save_1 : decode cX9_save 1 = .ok (.invokevirtual 134, 3) := by decide +kernel
theorem dX9_save_4 : decode cX9_save 4 = .ok (.iload_n 1, 1) := by decide +kernel
theorem dX9_save_5 : decode cX9_save 5 = .ok (.invokestatic 377, 3) := by decide +kernel
theorem dX9_save_8 : decode cX9_save 8 = .ok (.aload_n 0, 1) := by decide +kernel
theorem dX9_save_9 : decode cX9_save 9 = .ok (.getfield 34, 3) := by decide +kernel
theorem dX9_save_12 : decode cX9_save 12 = .ok (.iload_n 1, 1) := by decide +kernel
theorem dX9_save_13 : decode cX9_save 13 = .ok (.aaload, 1) := by decide +kernel
theorem dX9_save_14 : decode cX9_save 14 = .ok (.aload_n 0, 1) := by decide +kernel
theorem dX9_save_15 : decode cX9_save 15 = .ok (.getfield 20, 3) := by decide +kernel
theorem dX9_save_18 : decode cX9_save 18 = .ok (.invokevirtual 111, 3) := by decide +kernel
theorem dX9_save_21 : decode cX9_save 21 = .ok (.aload_n 0, 1) := by decide +kernel
theorem dX9_save_22 : decode cX9_save 22 = .ok (.getfield 38, 3) := by decide +kernel
theorem dX9_save_25 : decode cX9_save 25 = .ok (.iload_n 1, 1) := by decide +kernel
theorem dX9_save_26 : decode cX9_save 26 = .ok (.iconst 1, 1) := by decide +kernel
theorem dX9_save_27 : decode cX9_save 27 = .ok (.bastore, 1) := by decide +kernel
theorem dX9_save_28 : decode cX9_save 28 = .ok (.aload_n 0, 1) := by decide +kernel
theorem dX9_save_29 : decode cX9_save 29 = .ok (.getfield 20, 3) := by decide +kernel
theorem dX9_save_32 : decode cX9_save 32 = .ok (.getfield 125, 3) := by decide +kernel
theorem dX9_save_35 : decode cX9_save 35 = .ok (.ireturn, 1) := by decide +kernel
theorem dX9_restore_0 : decode cX9_restore 0 = .ok (.iload_n 1, 1) := by decide +kernel
theorem dX9_restore_1 : decode cX9_restore 1 = .ok (.invokestatic 377, 3) := by decide +kernel
theorem dX9_restore_4 : decode cX9_restore 4 = .ok (.aload_n 0, 1) := by decide +kernel
theorem dX9_restore_5 : decode cX9_restore 5 = .ok (.getfield 38, 3) := by decide +kernel
theorem dX9_restore_8 : decode cX9_restore 8 = .ok (.iload_n 1, 1) := by decide +kernel
theorem dX9_restore_9 : decode cX9_restore 9 = .ok (.baload, 1) := by decide +kernel
theorem dX9_restore_10 : decode cX9_restore 10 = .ok (.ifCond .ne 14, 3) := by decide +kernel
theorem dX9_restore_13 : decode cX9_restore 13 = .ok (.new 361, 3) := by decide +kernel
theorem dX9_restore_16 : decode cX9_restore 16 = .ok (.dup, 1) := by decide +kernel
theorem dX9_restore_17 : decode cX9_restore 17 = .ok (.ldc_w 380, 3) := by decide +kernel
theorem dX9_restore_20 : decode cX9_restore 20 = .ok (.invokespecial 365, 3) := by decide +kernel
theorem dX9_restore_23 : decode cX9_restore 23 = .ok (.athrow, 1) := by decide +kernel
theorem dX9_restore_24 : decode cX9_restore 24 = .ok (.aload_n 0, 1) := by decide +kernel
theorem dX9_restore_25 : decode cX9_restore 25 = .ok (.getfield 20, 3) := by decide +kernel
theorem dX9_restore_28 : decode cX9_restore 28 = .ok (.aload_n 0, 1) := by decide +kernel
theorem dX9_restore_29 : decode cX9_restore 29 = .ok (.getfield 34, 3) := by decide +kernel
theorem dX9_restore_32 : decode cX9_restore 32 = .ok (.iload_n 1, 1) := by decide +kernel
theorem dX9_restore_33 : decode cX9_restore 33 = .ok (.aaload, 1) := by decide +kernel
theorem dX9_restore_34 : decode cX9_restore 34 = .ok (.invokevirtual 111, 3) := by decide +kernel
theorem dX9_restore_37 : decode cX9_restore 37 = .ok (.aload_n 0, 1) := by decide +kernel
theorem dX9_restore_38 : decode cX9_restore 38 = .ok (.getfield 30, 3) := by decide +kernel
theorem dX9_restore_41 : decode cX9_restore 41 = .ok (.invokevirtual 115, 3) := by decide +kernel
theorem dX9_restore_44 : decode cX9_restore 44 = .ok (.aload_n 0, 1) := by decide +kernel
theorem dX9_restore_45 : decode cX9_restore 45 = .ok (.getfield 20, 3) := by decide +kernel
theorem dX9_restore_48 : decode cX9_restore 48 = .ok (.getfield 125, 3) := by decide +kernel
theorem dX9_restore_51 : decode cX9_restore 51 = .ok (.ireturn, 1) := by decide +kernel
theorem dX9_needTank_0 : decode cX9_needTank 0 = .ok (.aload_n 0, 1) := by decide +kernel
theorem dX9_needTank_1 : decode cX9_needTank 1 = .ok (.getfield 118, 3) := by decide +kernel
theorem dX9_needTank_4 : decode cX9_needTank 4 = .ok (.ifCond .ne 14, 3) := by decide +kernel
theorem dX9_needTank_7 : decode cX9_needTank 7 = .ok (.new 361, 3) := by decide +kernel
theorem dX9_needTank_10 : decode cX9_needTank 10 = .ok (.dup, 1) := by decide +kernel
theorem dX9_needTank_11 : decode cX9_needTank 11 = .ok (.ldc_w 382, 3) := by decide +kernel
theorem dX9_needTank_14 : decode cX9_needTank 14 = .ok (.invokespecial 365, 3) := by decide +kernel
theorem dX9_needTank_17 : decode cX9_needTank 17 = .ok (.athrow, 1) := by decide +kernel
theorem dX9_needTank_18 : decode cX9_needTank 18 = .ok (.return_, 1) := by decide +kernel
theorem dX9_needSource_0 : decode cX9_needSource 0 = .ok (.iload_n 1, 1) := by decide +kernel
theorem dX9_needSource_1 : decode cX9_needSource 1 = .ok (.ifCond .lt 14, 3) := by decide +kernel
theorem dX9_needSource_4 : decode cX9_needSource 4 = .ok (.iload_n 1, 1) := by decide +kernel
theorem dX9_needSource_5 : decode cX9_needSource 5 = .ok (.aload_n 0, 1) := by decide +kernel
theorem dX9_needSource_6 : decode cX9_needSource 6 = .ok (.getfield 72, 3) := by decide +kernel
theorem dX9_needSource_9 : decode cX9_needSource 9 = .ok (.getfield 122, 3) := by decide +kernel
theorem dX9_needSource_12 : decode cX9_needSource 12 = .ok (.if_icmp .lt 14, 3) := by decide +kernel
theorem dX9_needSource_15 : decode cX9_needSource 15 = .ok (.new 86, 3) := by decide +kernel
theorem dX9_needSource_18 : decode cX9_needSource 18 = .ok (.dup, 1) := by decide +kernel
theorem dX9_needSource_19 : decode cX9_needSource 19 = .ok (.ldc_w 384, 3) := by decide +kernel
theorem dX9_needSource_22 : decode cX9_needSource 22 = .ok (.invokespecial 90, 3) := by decide +kernel
theorem dX9_needSource_25 : decode cX9_needSource 25 = .ok (.athrow, 1) := by decide +kernel
theorem dX9_needSource_26 : decode cX9_needSource 26 = .ok (.return_, 1) := by decide +kernel
theorem dX9_needGauge_0 : decode cX9_needGauge 0 = .ok (.iload_n 1, 1) := by decide +kernel
theorem dX9_needGauge_1 : decode cX9_needGauge 1 = .ok (.ifCond .lt 14, 3) := by decide +kernel
theorem dX9_needGauge_4 : decode cX9_needGauge 4 = .ok (.iload_n 1, 1) := by decide +kernel
theorem dX9_needGauge_5 : decode cX9_needGauge 5 = .ok (.aload_n 0, 1) := by decide +kernel
theorem dX9_needGauge_6 : decode cX9_needGauge 6 = .ok (.getfield 72, 3) := by decide +kernel
theorem dX9_needGauge_9 : decode cX9_needGauge 9 = .ok (.getfield 244, 3) := by decide +kernel
theorem dX9_needGauge_12 : decode cX9_needGauge 12 = .ok (.if_icmp .lt 14, 3) := by decide +kernel
theorem dX9_needGauge_15 : decode cX9_needGauge 15 = .ok (.new 86, 3) := by decide +kernel
theorem dX9_needGauge_18 : decode cX9_needGauge 18 = .ok (.dup, 1) := by decide +kernel
theorem dX9_needGauge_19 : decode cX9_needGauge 19 = .ok (.ldc_w 386, 3) := by decide +kernel
theorem dX9_needGauge_22 : decode cX9_needGauge 22 = .ok (.invokespecial 90, 3) := by decide +kernel
theorem dX9_needGauge_25 : decode cX9_needGauge 25 = .ok (.athrow, 1) := by decide +kernel
theorem dX9_needGauge_26 : decode cX9_needGauge 26 = .ok (.return_, 1) := by decide +kernel
theorem dX9_needColumn_0 : decode cX9_needColumn 0 = .ok (.iload_n 1, 1) := by decide +kernel
theorem dX9_needColumn_1 : decode cX9_needColumn 1 = .ok (.ifCond .lt 14, 3) := by decide +kernel
theorem dX9_needColumn_4 : decode cX9_needColumn 4 = .ok (.iload_n 1, 1) := by decide +kernel
theorem dX9_needColumn_5 : decode cX9_needColumn 5 = .ok (.aload_n 0, 1) := by decide +kernel
theorem dX9_needColumn_6 : decode cX9_needColumn 6 = .ok (.getfield 72, 3) := by decide +kernel
theorem dX9_needColumn_9 : decode cX9_needColumn 9 = .ok (.getfield 128, 3) := by decide +kernel
theorem dX9_needColumn_12 : decode cX9_needColumn 12 = .ok (.if_icmp .lt 14, 3) := by decide +kernel
theorem dX9_needColumn_15 : decode cX9_needColumn 15 = .ok (.new 86, 3) := by decide +kernel
theorem dX9_needColumn_18 : decode cX9_needColumn 18 = .ok (.dup, 1) := by decide +kernel
theorem dX9_needColumn_19 : decode cX9_needColumn 19 = .ok (.ldc_w 388, 3) := by decide +kernel
theorem dX9_needColumn_22 : decode cX9_needColumn 22 = .ok (.invokespecial 90, 3) := by decide +kernel
theorem dX9_needColumn_25 : decode cX9_needColumn 25 = .ok (.athrow, 1) := by decide +kernel
theorem dX9_needColumn_26 : decode cX9_needColumn 26 = .ok (.return_, 1) := by decide +kernel
theorem dX9_needRow_0 : decode cX9_needRow 0 = .ok (.iload_n 1, 1) := by decide +kernel
theorem dX9_needRow_1 : decode cX9_needRow 1 = .ok (.ifCond .lt 14, 3) := by decide +kernel
theorem dX9_needRow_4 : decode cX9_needRow 4 = .ok (.iload_n 1, 1) := by decide +kernel
theorem dX9_needRow_5 : decode cX9_needRow 5 = .ok (.aload_n 0, 1) := by decide +kernel
theorem dX9_needRow_6 : decode cX9_needRow 6 = .ok (.getfield 72, 3) := by decide +kernel
theorem dX9_needRow_9 : decode cX9_needRow 9 = .ok (.getfield 131, 3) := by decide +kernel
theorem dX9_needRow_12 : decode cX9_needRow 12 = .ok (.if_icmp .lt 14, 3) := by decide +kernel
theorem dX9_needRow_15 : decode cX9_needRow 15 = .ok (.new 86, 3) := by decide +kernel
theorem dX9_needRow_18 : decode cX9_needRow 18 = .ok (.dup, 1) := by decide +kernel
theorem dX9_needRow_19 : decode cX9_needRow 19 = .ok (.ldc_w 390, 3) := by decide +kernel
theorem dX9_needRow_22 : decode cX9_needRow 22 = .ok (.invokespecial 90, 3) := by decide +kernel
theorem dX9_needRow_25 : decode cX9_needRow 25 = .ok (.athrow, 1) := by decide +kernel
theorem dX9_needRow_26 : decode cX9_needRow 26 = .ok (.return_, 1) := by decide +kernel
theorem dX9_needCell_0 : decode cX9_needCell 0 = .ok (.aload_n 0, 1) := by decide +kernel
theorem dX9_needCell_1 : decode cX9_needCell 1 = .ok (.iload_n 1, 1) := by decide +kernel
theorem dX9_needCell_2 : decode cX9_needCell 2 = .ok (.invokevirtual 312, 3) := by decide +kernel
theorem dX9_needCell_5 : decode cX9_needCell 5 = .ok (.aload_n 0, 1) := by decide +kernel
theorem dX9_needCell_6 : decode cX9_needCell 6 = .ok (.iload_n 2, 1) := by decide +kernel
theorem dX9_needCell_7 : decode cX9_needCell 7 = .ok (.invokevirtual 143, 3) := by decide +kernel
theorem dX9_needCell_10 : decode cX9_needCell 10 = .ok (.return_, 1) := by decide +kernel
theorem dX9_needSlot_0 : decode cX9_needSlot 0 = .ok (.iload_n 0, 1) := by decide +kernel
theorem dX9_needSlot_1 : decode cX9_needSlot 1 = .ok (.ifCond .lt 8, 3) := by decide +kernel
theorem dX9_needSlot_4 : decode cX9_needSlot 4 = .ok (.iload_n 0, 1) := by decide +kernel
theorem dX9_needSlot_5 : decode cX9_needSlot 5 = .ok (.iconst 2, 1) := by decide +kernel
theorem dX9_needSlot_6 : decode cX9_needSlot 6 = .ok (.if_icmp .lt 14, 3) := by decide +kernel
theorem dX9_needSlot_9 : decode cX9_needSlot 9 = .ok (.new 86, 3) := by decide +kernel
theorem dX9_needSlot_12 : decode cX9_needSlot 12 = .ok (.dup, 1) := by decide +kernel
theorem dX9_needSlot_13 : decode cX9_needSlot 13 = .ok (.ldc_w 392, 3) := by decide +kernel
theorem dX9_needSlot_16 : decode cX9_needSlot 16 = .ok (.invokespecial 90, 3) := by decide +kernel
theorem dX9_needSlot_19 : decode cX9_needSlot 19 = .ok (.athrow, 1) := by decide +kernel
theorem dX9_needSlot_20 : decode cX9_needSlot 20 = .ok (.return_, 1) := by decide +kernel
theorem dX9_needTimes_0 : decode cX9_needTimes 0 = .ok (.iload_n 0, 1) := by decide +kernel
theorem dX9_needTimes_1 : decode cX9_needTimes 1 = .ok (.iconst 1, 1) := by decide +kernel
theorem dX9_needTimes_2 : decode cX9_needTimes 2 = .ok (.bipush 40, 2) := by decide +kernel
theorem dX9_needTimes_4 : decode cX9_needTimes 4 = .ok (.invokestatic 153, 3) := by decide +kernel
theorem dX9_needTimes_7 : decode cX9_needTimes 7 = .ok (.return_, 1) := by decide +kernel
theorem dX9_needTolerance_0 : decode cX9_needTolerance 0 = .ok (.iload_n 0, 1) := by decide +kernel
theorem dX9_needTolerance_1 : decode cX9_needTolerance 1 = .ok (.iconst 0, 1) := by decide +kernel
theorem dX9_needTolerance_2 : decode cX9_needTolerance 2 = .ok (.sipush 9999, 3) := by decide +kernel
theorem dX9_needTolerance_5 : decode cX9_needTolerance 5 = .ok (.invokestatic 153, 3) := by decide +kernel
theorem dX9_needTolerance_8 : decode cX9_needTolerance 8 = .ok (.return_, 1) := by decide +kernel
theorem dX9_needRange_0 : decode cX9_needRange 0 = .ok (.iload_n 0, 1) := by decide +kernel
theorem dX9_needRange_1 : decode cX9_needRange 1 = .ok (.iload_n 1, 1) := by decide +kernel
theorem dX9_needRange_2 : decode cX9_needRange 2 = .ok (.if_icmp .lt 8, 3) := by decide +kernel
theorem dX9_needRange_5 : decode cX9_needRange 5 = .ok (.iload_n 0, 1) := by decide +kernel
theorem dX9_needRange_6 : decode cX9_needRange 6 = .ok (.iload_n 2, 1) := by decide +kernel
theorem dX9_needRange_7 : decode cX9_needRange 7 = .ok (.if_icmp .le 14, 3) := by decide +kernel
theorem dX9_needRange_10 : decode cX9_needRange 10 = .ok (.new 106, 3) := by decide +kernel
theorem dX9_needRange_13 : decode cX9_needRange 13 = .ok (.dup, 1) := by decide +kernel
theorem dX9_needRange_14 : decode cX9_needRange 14 = .ok (.ldc_w 394, 3) := by decide +kernel
theorem dX9_needRange_17 : decode cX9_needRange 17 = .ok (.invokespecial 110, 3) := by decide +kernel
theorem dX9_needRange_20 : decode cX9_needRange 20 = .ok (.athrow, 1) := by decide +kernel
theorem dX9_needRange_21 : decode cX9_needRange 21 = .ok (.return_, 1) := by decide +kernel
theorem dX9_putBytes_0 : decode cX9_putBytes 0 = .ok (.bipush 24, 2) := by decide +kernel
theorem dX9_putBytes_2 : decode cX9_putBytes 2 = .ok (.istore_n 2, 1) := by decide +kernel
theorem dX9_putBytes_3 : decode cX9_putBytes 3 = .ok (.iload_n 2, 1) := by decide +kernel
theorem dX9_putBytes_4 : decode cX9_putBytes 4 = .ok (.ifCond .lt 32, 3) := by decide +kernel
theorem dX9_putBytes_7 : decode cX9_putBytes 7 = .ok (.aload_n 0, 1) := by decide +kernel
theorem dX9_putBytes_8 : decode cX9_putBytes 8 = .ok (.getfield 9, 3) := by decide +kernel
theorem dX9_putBytes_11 : decode cX9_putBytes 11 = .ok (.aload_n 0, 1) := by decide +kernel
theorem dX9_putBytes_12 : decode cX9_putBytes 12 = .ok (.getfield 79, 3) := by decide +kernel
theorem dX9_putBytes_15 : decode cX9_putBytes 15 = .ok (.iload_n 1, 1) := by decide +kernel
theorem dX9_putBytes_16 : decode cX9_putBytes 16 = .ok (.iload_n 2, 1) := by decide +kernel
theorem dX9_putBytes_17 : decode cX9_putBytes 17 = .ok (.iushr, 1) := by decide +kernel
theorem dX9_putBytes_18 : decode cX9_putBytes 18 = .ok (.i2b, 1) := by decide +kernel
theorem dX9_putBytes_19 : decode cX9_putBytes 19 = .ok (.bastore, 1) := by decide +kernel
theorem dX9_putBytes_20 : decode cX9_putBytes 20 = .ok (.aload_n 0, 1) := by decide +kernel
theorem dX9_putBytes_21 : decode cX9_putBytes 21 = .ok (.dup, 1) := by decide +kernel
theorem dX9_putBytes_22 : decode cX9_putBytes 22 = .ok (.getfield 79, 3) := by decide +kernel
theorem dX9_putBytes_25 : decode cX9_putBytes 25 = .ok (.iconst 1, 1) := by decide +kernel
theorem dX9_putBytes_26 : decode cX9_putBytes 26 = .ok (.iadd, 1) := by decide +kernel
theorem dX9_putBytes_27 : decode cX9_putBytes 27 = .ok (.putfield 79, 3) := by decide +kernel
theorem dX9_putBytes_30 : decode cX9_putBytes 30 = .ok (.iinc 2 (-8), 3) := by decide +kernel
theorem dX9_putBytes_33 : decode cX9_putBytes 33 = .ok (.goto (-30), 3) := by decide +kernel
theorem dX9_putBytes_36 : decode cX9_putBytes 36 = .ok (.return_, 1) := by decide +kernel
theorem dX9_fillSeries_0 : decode cX9_fillSeries 0 = .ok (.aload_n 0, 1) := by decide +kernel
theorem dX9_fillSeries_1 : decode cX9_fillSeries 1 = .ok (.getfield 72, 3) := by decide +kernel
theorem dX9_fillSeries_4 : decode cX9_fillSeries 4 = .ok (.getfield 250, 3) := by decide +kernel
theorem dX9_fillSeries_7 : decode cX9_fillSeries 7 = .ok (.iload_n 1, 1) := by decide +kernel
theorem dX9_fillSeries_8 : decode cX9_fillSeries 8 = .ok (.iaload, 1) := by decide +kernel
theorem dX9_fillSeries_9 : decode cX9_fillSeries 9 = .ok (.istore_n 3, 1) := by decide +kernel
theorem dX9_fillSeries_10 : decode cX9_fillSeries 10 = .ok (.aload_n 0, 1) := by decide +kernel
theorem dX9_fillSeries_11 : decode cX9_fillSeries 11 = .ok (.getfield 72, 3) := by decide +kernel
theorem dX9_fillSeries_14 : decode cX9_fillSeries 14 = .ok (.getfield 253, 3) := by decide +kernel
theorem dX9_fillSeries_17 : decode cX9_fillSeries 17 = .ok (.iload_n 1, 1) := by decide +kernel
theorem dX9_fillSeries_18 : decode cX9_fillSeries 18 = .ok (.iaload, 1) := by decide +kernel
theorem dX9_fillSeries_19 : decode cX9_fillSeries 19 = .ok (.istore 4, 2) := by decide +kernel
theorem dX9_fillSeries_21 : decode cX9_fillSeries 21 = .ok (.iconst 0, 1) := by decide +kernel
theorem dX9_fillSeries_22 : decode cX9_fillSeries 22 = .ok (.istore 5, 2) := by decide +kernel
theorem dX9_fillSeries_24 : decode cX9_fillSeries 24 = .ok (.iload 5, 2) := by decide +kernel
theorem dX9_fillSeries_26 : decode cX9_fillSeries 26 = .ok (.iload_n 2, 1) := by decide +kernel
theorem dX9_fillSeries_27 : decode cX9_fillSeries 27 = .ok (.if_icmp .ge 40, 3) := by decide +kernel
theorem dX9_fillSeries_30 : decode cX9_fillSeries 30 = .ok (.aload_n 0, 1) := by decide +kernel
theorem dX9_fillSeries_31 : decode cX9_fillSeries 31 = .ok (.getfield 60, 3) := by decide +kernel
theorem dX9_fillSeries_34 : decode cX9_fillSeries 34 = .ok (.iload 5, 2) := by decide +kernel
theorem dX9_fillSeries_36 : decode cX9_fillSeries 36 = .ok (.aload_n 0, 1) := by decide +kernel
theorem dX9_fillSeries_37 : decode cX9_fillSeries 37 = .ok (.getfield 72, 3) := by decide +kernel
theorem dX9_fillSeries_40 : decode cX9_fillSeries 40 = .ok (.aload_n 0, 1) := by decide +kernel
theorem dX9_fillSeries_41 : decode cX9_fillSeries 41 = .ok (.getfield 20, 3) := by decide +kernel
theorem dX9_fillSeries_44 : decode cX9_fillSeries 44 = .ok (.iload_n 3, 1) := by decide +kernel
theorem dX9_fillSeries_45 : decode cX9_fillSeries 45 = .ok (.iload 4, 2) := by decide +kernel
theorem dX9_fillSeries_47 : decode cX9_fillSeries 47 = .ok (.aload_n 0, 1) := by decide +kernel
theorem dX9_fillSeries_48 : decode cX9_fillSeries 48 = .ok (.getfield 20, 3) := by decide +kernel
theorem dX9_fillSeries_51 : decode cX9_fillSeries 51 = .ok (.getfield 125, 3) := by decide +kernel
theorem dX9_fillSeries_54 : decode cX9_fillSeries 54 = .ok (.iload 5, 2) := by decide +kernel
theorem dX9_fillSeries_56 : decode cX9_fillSeries 56 = .ok (.iadd, 1) := by decide +kernel
theorem dX9_fillSeries_57 : decode cX9_fillSeries 57 = .ok (.invokevirtual 233, 3) := by decide +kernel
theorem dX9_fillSeries_60 : decode cX9_fillSeries 60 = .ok (.iastore, 1) := by decide +kernel
theorem dX9_fillSeries_61 : decode cX9_fillSeries 61 = .ok (.iinc 5 1, 3) := by decide +kernel
theorem dX9_fillSeries_64 : decode cX9_fillSeries 64 = .ok (.goto (-40), 3) := by decide +kernel
theorem dX9_fillSeries_67 : decode cX9_fillSeries 67 = .ok (.return_, 1) := by decide +kernel
theorem dX9_laggedSum_0 : decode cX9_laggedSum 0 = .ok (.lconst 0, 1) := by decide +kernel
theorem dX9_laggedSum_1 : decode cX9_laggedSum 1 = .ok (.lstore_n 3, 1) := by decide +kernel
theorem dX9_laggedSum_2 : decode cX9_laggedSum 2 = .ok (.iconst 0, 1) := by decide +kernel
theorem dX9_laggedSum_3 : decode cX9_laggedSum 3 = .ok (.istore 5, 2) := by decide +kernel
theorem dX9_laggedSum_5 : decode cX9_laggedSum 5 = .ok (.iload 5, 2) := by decide +kernel
theorem dX9_laggedSum_7 : decode cX9_laggedSum 7 = .ok (.iload_n 1, 1) := by decide +kernel
theorem dX9_laggedSum_8 : decode cX9_laggedSum 8 = .ok (.if_icmp .ge 31, 3) := by decide +kernel
theorem dX9_laggedSum_11 : decode cX9_laggedSum 11 = .ok (.lload_n 3, 1) := by decide +kernel
theorem dX9_laggedSum_12 : decode cX9_laggedSum 12 = .ok (.aload_n 0, 1) := by decide +kernel
theorem dX9_laggedSum_13 : decode cX9_laggedSum 13 = .ok (.getfield 60, 3) := by decide +kernel
theorem dX9_laggedSum_16 : decode cX9_laggedSum 16 = .ok (.iload 5, 2) := by decide +kernel
theorem dX9_laggedSum_18 : decode cX9_laggedSum 18 = .ok (.iaload, 1) := by decide +kernel
theorem dX9_laggedSum_19 : decode cX9_laggedSum 19 = .ok (.i2l, 1) := by decide +kernel
theorem dX9_laggedSum_20 : decode cX9_laggedSum 20 = .ok (.aload_n 0, 1) := by decide +kernel
theorem dX9_laggedSum_21 : decode cX9_laggedSum 21 = .ok (.getfield 60, 3) := by decide +kernel
theorem dX9_laggedSum_24 : decode cX9_laggedSum 24 = .ok (.iload 5, 2) := by decide +kernel
theorem dX9_laggedSum_26 : decode cX9_laggedSum 26 = .ok (.iload_n 2, 1) := by decide +kernel
theorem dX9_laggedSum_27 : decode cX9_laggedSum 27 = .ok (.iadd, 1) := by decide +kernel
theorem dX9_laggedSum_28 : decode cX9_laggedSum 28 = .ok (.iaload, 1) := by decide +kernel
theorem dX9_laggedSum_29 : decode cX9_laggedSum 29 = .ok (.i2l, 1) := by decide +kernel
theorem dX9_laggedSum_30 : decode cX9_laggedSum 30 = .ok (.lmul, 1) := by decide +kernel
theorem dX9_laggedSum_31 : decode cX9_laggedSum 31 = .ok (.ladd, 1) := by decide +kernel
theorem dX9_laggedSum_32 : decode cX9_laggedSum 32 = .ok (.lstore_n 3, 1) := by decide +kernel
theorem dX9_laggedSum_33 : decode cX9_laggedSum 33 = .ok (.iinc 5 1, 3) := by decide +kernel
theorem dX9_laggedSum_36 : decode cX9_laggedSum 36 = .ok (.goto (-31), 3) := by decide +kernel
theorem dX9_laggedSum_39 : decode cX9_laggedSum 39 = .ok (.lload_n 3, 1) := by decide +kernel
theorem dX9_laggedSum_40 : decode cX9_laggedSum 40 = .ok (.lreturn, 1) := by decide +kernel
theorem dX9_calmColumns_0 : decode cX9_calmColumns 0 = .ok (.iconst 0, 1) := by decide +kernel
theorem dX9_calmColumns_1 : decode cX9_calmColumns 1 = .ok (.istore 5, 2) := by decide +kernel
theorem dX9_calmColumns_3 : decode cX9_calmColumns 3 = .ok (.iconst 0, 1) := by decide +kernel
theorem dX9_calmColumns_4 : decode cX9_calmColumns 4 = .ok (.istore 6, 2) := by decide +kernel
theorem dX9_calmColumns_6 : decode cX9_calmColumns 6 = .ok (.iload 6, 2) := by decide +kernel
theorem dX9_calmColumns_8 : decode cX9_calmColumns 8 = .ok (.aload_n 0, 1) := by decide +kernel
theorem dX9_calmColumns_9 : decode cX9_calmColumns 9 = .ok (.getfield 72, 3) := by decide +kernel
theorem dX9_calmColumns_12 : decode cX9_calmColumns 12 = .ok (.getfield 128, 3) := by decide +kernel
theorem dX9_calmColumns_15 : decode cX9_calmColumns 15 = .ok (.if_icmp .ge 35, 3) := by decide +kernel
theorem dX9_calmColumns_18 : decode cX9_calmColumns 18 = .ok (.aload_n 0, 1) := by decide +kernel
theorem dX9_calmColumns_19 : decode cX9_calmColumns 19 = .ok (.getfield 72, 3) := by decide +kernel
theorem dX9_calmColumns_22 : decode cX9_calmColumns 22 = .ok (.aload_n 1, 1) := by decide +kernel
theorem dX9_calmColumns_23 : decode cX9_calmColumns 23 = .ok (.iload 6, 2) := by decide +kernel
theorem dX9_calmColumns_25 : decode cX9_calmColumns 25 = .ok (.iload_n 2, 1) := by decide +kernel
theorem dX9_calmColumns_26 : decode cX9_calmColumns 26 = .ok (.iload_n 3, 1) := by decide +kernel
theorem dX9_calmColumns_27 : decode cX9_calmColumns 27 = .ok (.iload 4, 2) := by decide +kernel
theorem dX9_calmColumns_29 : decode cX9_calmColumns 29 = .ok (.invokevirtual 269, 3) := by decide +kernel
theorem dX9_calmColumns_32 : decode cX9_calmColumns 32 = .ok (.ifCond .eq 12, 3) := by decide +kernel
theorem dX9_calmColumns_35 : decode cX9_calmColumns 35 = .ok (.iload 5, 2) := by decide +kernel
theorem dX9_calmColumns_37 : decode cX9_calmColumns 37 = .ok (.iconst 1, 1) := by decide +kernel
theorem dX9_calmColumns_38 : decode cX9_calmColumns 38 = .ok (.iload 6, 2) := by decide +kernel
theorem dX9_calmColumns_40 : decode cX9_calmColumns 40 = .ok (.ishl, 1) := by decide +kernel
theorem dX9_calmColumns_41 : decode cX9_calmColumns 41 = .ok (.ior, 1) := by decide +kernel
theorem dX9_calmColumns_42 : decode cX9_calmColumns 42 = .ok (.istore 5, 2) := by decide +kernel
theorem dX9_calmColumns_44 : decode cX9_calmColumns 44 = .ok (.iinc 6 1, 3) := by decide +kernel
theorem dX9_calmColumns_47 : decode cX9_calmColumns 47 = .ok (.goto (-41), 3) := by decide +kernel
theorem dX9_calmColumns_50 : decode cX9_calmColumns 50 = .ok (.iload 5, 2) := by decide +kernel
theorem dX9_calmColumns_52 : decode cX9_calmColumns 52 = .ok (.ireturn, 1) := by decide +kernel
theorem dX9_countCalm_0 : decode cX9_countCalm 0 = .ok (.iconst 0, 1) := by decide +kernel
theorem dX9_countCalm_1 : decode cX9_countCalm 1 = .ok (.istore 4, 2) := by decide +kernel
theorem dX9_countCalm_3 : decode cX9_countCalm 3 = .ok (.iconst 0, 1) := by decide +kernel
theorem dX9_countCalm_4 : decode cX9_countCalm 4 = .ok (.istore 5, 2) := by decide +kernel
theorem dX9_countCalm_6 : decode cX9_countCalm 6 = .ok (.iload 5, 2) := by decide +kernel
theorem dX9_countCalm_8 : decode cX9_countCalm 8 = .ok (.aload_n 0, 1) := by decide +kernel
theorem dX9_countCalm_9 : decode cX9_countCalm 9 = .ok (.getfield 72, 3) := by decide +kernel
theorem dX9_countCalm_12 : decode cX9_countCalm 12 = .ok (.getfield 131, 3) := by decide +kernel
theorem dX9_countCalm_15 : decode cX9_countCalm 15 = .ok (.if_icmp .ge 50, 3) := by decide +kernel
theorem dX9_countCalm_18 : decode cX9_countCalm 18 = .ok (.iconst 0, 1) := by decide +kernel
theorem dX9_countCalm_19 : decode cX9_countCalm 19 = .ok (.istore 6, 2) := by decide +kernel
theorem dX9_countCalm_21 : decode cX9_countCalm 21 = .ok (.iload 6, 2) := by decide +kernel
theorem dX9_countCalm_23 : decode cX9_countCalm 23 = .ok (.aload_n 0, 1) := by decide +kernel
theorem dX9_countCalm_24 : decode cX9_countCalm 24 = .ok (.getfield 72, 3) := by decide +kernel
theorem dX9_countCalm_27 : decode cX9_countCalm 27 = .ok (.getfield 128, 3) := by decide +kernel
theorem dX9_countCalm_30 : decode cX9_countCalm 30 = .ok (.if_icmp .ge 29, 3) := by decide +kernel
theorem dX9_countCalm_33 : decode cX9_countCalm 33 = .ok (.aload_n 0, 1) := by decide +kernel
theorem dX9_countCalm_34 : decode cX9_countCalm 34 = .ok (.getfield 72, 3) := by decide +kernel
theorem dX9_countCalm_37 : decode cX9_countCalm 37 = .ok (.aload_n 1, 1) := by decide +kernel
theorem dX9_countCalm_38 : decode cX9_countCalm 38 = .ok (.iload 6, 2) := by decide +kernel
theorem dX9_countCalm_40 : decode cX9_countCalm 40 = .ok (.iload 5, 2) := by decide +kernel
theorem dX9_countCalm_42 : decode cX9_countCalm 42 = .ok (.iload_n 2, 1) := by decide +kernel
theorem dX9_countCalm_43 : decode cX9_countCalm 43 = .ok (.iload_n 3, 1) := by decide +kernel
theorem dX9_countCalm_44 : decode cX9_countCalm 44 = .ok (.invokevirtual 269, 3) := by decide +kernel
theorem dX9_countCalm_47 : decode cX9_countCalm 47 = .ok (.ifCond .eq 6, 3) := by decide +kernel
theorem dX9_countCalm_50 : decode cX9_countCalm 50 = .ok (.iinc 4 1, 3) := by decide +kernel
theorem dX9_countCalm_53 : decode cX9_countCalm 53 = .ok (.iinc 6 1, 3) := by decide +kernel
theorem dX9_countCalm_56 : decode cX9_countCalm 56 = .ok (.goto (-35), 3) := by decide +kernel
theorem dX9_countCalm_59 : decode cX9_countCalm 59 = .ok (.iinc 5 1, 3) := by decide +kernel
theorem dX9_countCalm_62 : decode cX9_countCalm 62 = .ok (.goto (-56), 3) := by decide +kernel
theorem dX9_countCalm_65 : decode cX9_countCalm 65 = .ok (.iload 4, 2) := by decide +kernel
theorem dX9_countCalm_67 : decode cX9_countCalm 67 = .ok (.ireturn, 1) := by decide +kernel
theorem dX9_fillEnergies_0 : decode cX9_fillEnergies 0 = .ok (.iconst 0, 1) := by decide +kernel
theorem dX9_fillEnergies_1 : decode cX9_fillEnergies 1 = .ok (.istore_n 2, 1) := by decide +kernel
theorem dX9_fillEnergies_2 : decode cX9_fillEnergies 2 = .ok (.iload_n 2, 1) := by decide +kernel
theorem dX9_fillEnergies_3 : decode cX9_fillEnergies 3 = .ok (.aload_n 0, 1) := by decide +kernel
theorem dX9_fillEnergies_4 : decode cX9_fillEnergies 4 = .ok (.getfield 72, 3) := by decide +kernel
theorem dX9_fillEnergies_7 : decode cX9_fillEnergies 7 = .ok (.invokevirtual 292, 3) := by decide +kernel
theorem dX9_fillEnergies_10 : decode cX9_fillEnergies 10 = .ok (.if_icmp .ge 45, 3) := by decide +kernel
theorem dX9_fillEnergies_13 : decode cX9_fillEnergies 13 = .ok (.aload_n 0, 1) := by decide +kernel
theorem dX9_fillEnergies_14 : decode cX9_fillEnergies 14 = .ok (.getfield 56, 3) := by decide +kernel
theorem dX9_fillEnergies_17 : decode cX9_fillEnergies 17 = .ok (.iload_n 2, 1) := by decide +kernel
theorem dX9_fillEnergies_18 : decode cX9_fillEnergies 18 = .ok (.aload_n 0, 1) := by decide +kernel
theorem dX9_fillEnergies_19 : decode cX9_fillEnergies 19 = .ok (.getfield 72, 3) := by decide +kernel
theorem dX9_fillEnergies_22 : decode cX9_fillEnergies 22 = .ok (.aload_n 0, 1) := by decide +kernel
theorem dX9_fillEnergies_23 : decode cX9_fillEnergies 23 = .ok (.getfield 20, 3) := by decide +kernel
theorem dX9_fillEnergies_26 : decode cX9_fillEnergies 26 = .ok (.iload_n 2, 1) := by decide +kernel
theorem dX9_fillEnergies_27 : decode cX9_fillEnergies 27 = .ok (.aload_n 0, 1) := by decide +kernel
theorem dX9_fillEnergies_28 : decode cX9_fillEnergies 28 = .ok (.getfield 72, 3) := by decide +kernel
theorem dX9_fillEnergies_31 : decode cX9_fillEnergies 31 = .ok (.getfield 128, 3) := by decide +kernel
theorem dX9_fillEnergies_34 : decode cX9_fillEnergies 34 = .ok (.irem, 1) := by decide +kernel
theorem dX9_fillEnergies_35 : decode cX9_fillEnergies 35 = .ok (.iload_n 2, 1) := by decide +kernel
theorem dX9_fillEnergies_36 : decode cX9_fillEnergies 36 = .ok (.aload_n 0, 1) := by decide +kernel
theorem dX9_fillEnergies_37 : decode cX9_fillEnergies 37 = .ok (.getfield 72, 3) := by decide +kernel
theorem dX9_fillEnergies_40 : decode cX9_fillEnergies 40 = .ok (.getfield 128, 3) := by decide +kernel
theorem dX9_fillEnergies_43 : decode cX9_fillEnergies 43 = .ok (.idiv, 1) := by decide +kernel
theorem dX9_fillEnergies_44 : decode cX9_fillEnergies 44 = .ok (.iload_n 1, 1) := by decide +kernel
theorem dX9_fillEnergies_45 : decode cX9_fillEnergies 45 = .ok (.invokevirtual 285, 3) := by decide +kernel
theorem dX9_fillEnergies_48 : decode cX9_fillEnergies 48 = .ok (.lastore, 1) := by decide +kernel
theorem dX9_fillEnergies_49 : decode cX9_fillEnergies 49 = .ok (.iinc 2 1, 3) := by decide +kernel
theorem dX9_fillEnergies_52 : decode cX9_fillEnergies 52 = .ok (.goto (-50), 3) := by decide +kernel
theorem dX9_fillEnergies_55 : decode cX9_fillEnergies 55 = .ok (.return_, 1) := by decide +kernel
theorem dX9_fillColumnEnergies_0 : decode cX9_fillColumnEnergies 0 = .ok (.iconst 0, 1) := by decide +kernel
theorem dX9_fillColumnEnergies_1 : decode cX9_fillColumnEnergies 1 = .ok (.istore_n 3, 1) := by decide +kernel
theorem dX9_fillColumnEnergies_2 : decode cX9_fillColumnEnergies 2 = .ok (.iload_n 3, 1) := by decide +kernel
theorem dX9_fillColumnEnergies_3 : decode cX9_fillColumnEnergies 3 = .ok (.aload_n 0, 1) := by decide +kernel
theorem dX9_fillColumnEnergies_4 : decode cX9_fillColumnEnergies 4 = .ok (.getfield 72, 3) := by decide +kernel
theorem dX9_fillColumnEnergies_7 : decode cX9_fillColumnEnergies 7 = .ok (.getfield 131, 3) := by decide +kernel
theorem dX9_fillColumnEnergies_10 : decode cX9_fillColumnEnergies 10 = .ok (.if_icmp .ge 29, 3) := by decide +kernel
theorem dX9_fillColumnEnergies_13 : decode cX9_fillColumnEnergies 13 = .ok (.aload_n 0, 1) := by decide +kernel
theorem dX9_fillColumnEnergies_14 : decode cX9_fillColumnEnergies 14 = .ok (.getfield 56, 3) := by decide +kernel
theorem dX9_fillColumnEnergies_17 : decode cX9_fillColumnEnergies 17 = .ok (.iload_n 3, 1) := by decide +kernel
theorem dX9_fillColumnEnergies_18 : decode cX9_fillColumnEnergies 18 = .ok (.aload_n 0, 1) := by decide +kernel
theorem dX9_fillColumnEnergies_19 : decode cX9_fillColumnEnergies 19 = .ok (.getfield 72, 3) := by decide +kernel
theorem dX9_fillColumnEnergies_22 : decode cX9_fillColumnEnergies 22 = .ok (.aload_n 0, 1) := by decide +kernel
theorem dX9_fillColumnEnergies_23 : decode cX9_fillColumnEnergies 23 = .ok (.getfield 20, 3) := by decide +kernel
theorem dX9_fillColumnEnergies_26 : decode cX9_fillColumnEnergies 26 = .ok (.iload_n 1, 1) := by decide +kernel
theorem dX9_fillColumnEnergies_27 : decode cX9_fillColumnEnergies 27 = .ok (.iload_n 3, 1) := by decide +kernel
theorem dX9_fillColumnEnergies_28 : decode cX9_fillColumnEnergies 28 = .ok (.iload_n 2, 1) := by decide +kernel
theorem dX9_fillColumnEnergies_29 : decode cX9_fillColumnEnergies 29 = .ok (.invokevirtual 285, 3) := by decide +kernel
theorem dX9_fillColumnEnergies_32 : decode cX9_fillColumnEnergies 32 = .ok (.lastore, 1) := by decide +kernel
theorem dX9_fillColumnEnergies_33 : decode cX9_fillColumnEnergies 33 = .ok (.iinc 3 1, 3) := by decide +kernel
theorem dX9_fillColumnEnergies_36 : decode cX9_fillColumnEnergies 36 = .ok (.goto (-34), 3) := by decide +kernel
theorem dX9_fillColumnEnergies_39 : decode cX9_fillColumnEnergies 39 = .ok (.return_, 1) := by decide +kernel
theorem dX9_greatestEnergy_0 : decode cX9_greatestEnergy 0 = .ok (.lconst 0, 1) := by decide +kernel
theorem dX9_greatestEnergy_1 : decode cX9_greatestEnergy 1 = .ok (.lstore_n 1, 1) := by decide +kernel
theorem dX9_greatestEnergy_2 : decode cX9_greatestEnergy 2 = .ok (.iconst 0, 1) := by decide +kernel
theorem dX9_greatestEnergy_3 : decode cX9_greatestEnergy 3 = .ok (.istore_n 3, 1) := by decide +kernel
theorem dX9_greatestEnergy_4 : decode cX9_greatestEnergy 4 = .ok (.iload_n 3, 1) := by decide +kernel
theorem dX9_greatestEnergy_5 : decode cX9_greatestEnergy 5 = .ok (.aload_n 0, 1) := by decide +kernel
theorem dX9_greatestEnergy_6 : decode cX9_greatestEnergy 6 = .ok (.getfield 72, 3) := by decide +kernel
theorem dX9_greatestEnergy_9 : decode cX9_greatestEnergy 9 = .ok (.invokevirtual 292, 3) := by decide +kernel
theorem dX9_greatestEnergy_12 : decode cX9_greatestEnergy 12 = .ok (.if_icmp .ge 20, 3) := by decide +kernel
theorem dX9_greatestEnergy_15 : decode cX9_greatestEnergy 15 = .ok (.lload_n 1, 1) := by decide +kernel
theorem dX9_greatestEnergy_16 : decode cX9_greatestEnergy 16 = .ok (.aload_n 0, 1) := by decide +kernel
theorem dX9_greatestEnergy_17 : decode cX9_greatestEnergy 17 = .ok (.getfield 56, 3) := by decide +kernel
theorem dX9_greatestEnergy_20 : decode cX9_greatestEnergy 20 = .ok (.iload_n 3, 1) := by decide +kernel
theorem dX9_greatestEnergy_21 : decode cX9_greatestEnergy 21 = .ok (.laload, 1) := by decide +kernel
theorem dX9_greatestEnergy_22 : decode cX9_greatestEnergy 22 = .ok (.invokestatic 318, 3) := by decide +kernel
theorem dX9_greatestEnergy_25 : decode cX9_greatestEnergy 25 = .ok (.lstore_n 1, 1) := by decide +kernel
theorem dX9_greatestEnergy_26 : decode cX9_greatestEnergy 26 = .ok (.iinc 3 1, 3) := by decide +kernel
theorem dX9_greatestEnergy_29 : decode cX9_greatestEnergy 29 = .ok (.goto (-25), 3) := by decide +kernel
theorem dX9_greatestEnergy_32 : decode cX9_greatestEnergy 32 = .ok (.lload_n 1, 1) := by decide +kernel
theorem dX9_greatestEnergy_33 : decode cX9_greatestEnergy 33 = .ok (.lreturn, 1) := by decide +kernel
theorem dX9_countBefore_0 : decode cX9_countBefore 0 = .ok (.iconst 0, 1) := by decide +kernel
theorem dX9_countBefore_1 : decode cX9_countBefore 1 = .ok (.istore_n 2, 1) := by decide +kernel
theorem dX9_countBefore_2 : decode cX9_countBefore 2 = .ok (.iconst 0, 1) := by decide +kernel
theorem dX9_countBefore_3 : decode cX9_countBefore 3 = .ok (.istore_n 3, 1) := by decide +kernel
theorem dX9_countBefore_4 : decode cX9_countBefore 4 = .ok (.iload_n 3, 1) := by decide +kernel
theorem dX9_countBefore_5 : decode cX9_countBefore 5 = .ok (.aload_n 0, 1) := by decide +kernel
theorem dX9_countBefore_6 : decode cX9_countBefore 6 = .ok (.getfield 72, 3) := by decide +kernel
theorem dX9_countBefore_9 : decode cX9_countBefore 9 = .ok (.invokevirtual 292, 3) := by decide +kernel
theorem dX9_countBefore_12 : decode cX9_countBefore 12 = .ok (.if_icmp .ge 61, 3) := by decide +kernel
theorem dX9_countBefore_15 : decode cX9_countBefore 15 = .ok (.aload_n 0, 1) := by decide +kernel
theorem dX9_countBefore_16 : decode cX9_countBefore 16 = .ok (.getfield 56, 3) := by decide +kernel
theorem dX9_countBefore_19 : decode cX9_countBefore 19 = .ok (.iload_n 3, 1) := by decide +kernel
theorem dX9_countBefore_20 : decode cX9_countBefore 20 = .ok (.laload, 1) := by decide +kernel
theorem dX9_countBefore_21 : decode cX9_countBefore 21 = .ok (.aload_n 0, 1) := by decide +kernel
theorem dX9_countBefore_22 : decode cX9_countBefore 22 = .ok (.getfield 56, 3) := by decide +kernel
theorem dX9_countBefore_25 : decode cX9_countBefore 25 = .ok (.iload_n 1, 1) := by decide +kernel
theorem dX9_countBefore_26 : decode cX9_countBefore 26 = .ok (.laload, 1) := by decide +kernel
theorem dX9_countBefore_27 : decode cX9_countBefore 27 = .ok (.lcmp, 1) := by decide +kernel
theorem dX9_countBefore_28 : decode cX9_countBefore 28 = .ok (.ifCond .ne 12, 3) := by decide +kernel
theorem dX9_countBefore_31 : decode cX9_countBefore 31 = .ok (.iload_n 3, 1) := by decide +kernel
theorem dX9_countBefore_32 : decode cX9_countBefore 32 = .ok (.iload_n 1, 1) := by decide +kernel
theorem dX9_countBefore_33 : decode cX9_countBefore 33 = .ok (.if_icmp .ge 7, 3) := by decide +kernel
theorem dX9_countBefore_36 : decode cX9_countBefore 36 = .ok (.iconst 1, 1) := by decide +kernel
theorem dX9_countBefore_37 : decode cX9_countBefore 37 = .ok (.goto 4, 3) := by decide +kernel
theorem dX9_countBefore_40 : decode cX9_countBefore 40 = .ok (.iconst 0, 1) := by decide +kernel
theorem dX9_countBefore_41 : decode cX9_countBefore 41 = .ok (.istore 4, 2) := by decide +kernel
theorem dX9_countBefore_43 : decode cX9_countBefore 43 = .ok (.aload_n 0, 1) := by decide +kernel
theorem dX9_countBefore_44 : decode cX9_countBefore 44 = .ok (.getfield 56, 3) := by decide +kernel
theorem dX9_countBefore_47 : decode cX9_countBefore 47 = .ok (.iload_n 3, 1) := by decide +kernel
theorem dX9_countBefore_48 : decode cX9_countBefore 48 = .ok (.laload, 1) := by decide +kernel
theorem dX9_countBefore_49 : decode cX9_countBefore 49 = .ok (.aload_n 0, 1) := by decide +kernel
theorem dX9_countBefore_50 : decode cX9_countBefore 50 = .ok (.getfield 56, 3) := by decide +kernel
theorem dX9_countBefore_53 : decode cX9_countBefore 53 = .ok (.iload_n 1, 1) := by decide +kernel
theorem dX9_countBefore_54 : decode cX9_countBefore 54 = .ok (.laload, 1) := by decide +kernel
theorem dX9_countBefore_55 : decode cX9_countBefore 55 = .ok (.lcmp, 1) := by decide +kernel
theorem dX9_countBefore_56 : decode cX9_countBefore 56 = .ok (.ifCond .gt 8, 3) := by decide +kernel
theorem dX9_countBefore_59 : decode cX9_countBefore 59 = .ok (.iload 4, 2) := by decide +kernel
theorem dX9_countBefore_61 : decode cX9_countBefore 61 = .ok (.ifCond .eq 6, 3) := by decide +kernel
theorem dX9_countBefore_64 : decode cX9_countBefore 64 = .ok (.iinc 2 1, 3) := by decide +kernel
theorem dX9_countBefore_67 : decode cX9_countBefore 67 = .ok (.iinc 3 1, 3) := by decide +kernel
theorem dX9_countBefore_70 : decode cX9_countBefore 70 = .ok (.goto (-66), 3) := by decide +kernel
theorem dX9_countBefore_73 : decode cX9_countBefore 73 = .ok (.iload_n 2, 1) := by decide +kernel
theorem dX9_countBefore_74 : decode cX9_countBefore 74 = .ok (.ireturn, 1) := by decide +kernel
theorem dX9_hasShare_0 : decode cX9_hasShare 0 = .ok (.lload_n 0, 1) := by decide +kernel
theorem dX9_hasShare_1 : decode cX9_hasShare 1 = .ok (.lconst 0, 1) := by decide +kernel
theorem dX9_hasShare_2 : decode cX9_hasShare 2 = .ok (.lcmp, 1) := by decide +kernel
theorem dX9_hasShare_3 : decode cX9_hasShare 3 = .ok (.ifCond .le 20, 3) := by decide +kernel
theorem dX9_hasShare_6 : decode cX9_hasShare 6 = .ok (.ldc2_w 396, 3) := by decide +kernel
theorem dX9_hasShare_9 : decode cX9_hasShare 9 = .ok (.lload_n 0, 1) := by decide +kernel
theorem dX9_hasShare_10 : decode cX9_hasShare 10 = .ok (.lmul, 1) := by decide +kernel
theorem dX9_hasShare_11 : decode cX9_hasShare 11 = .ok (.iload_n 2, 1) := by decide +kernel
theorem dX9_hasShare_12 : decode cX9_hasShare 12 = .ok (.i2l, 1) := by decide +kernel
theorem dX9_hasShare_13 : decode cX9_hasShare 13 = .ok (.lload_n 3, 1) := by decide +kernel
theorem dX9_hasShare_14 : decode cX9_hasShare 14 = .ok (.lmul, 1) := by decide +kernel
theorem dX9_hasShare_15 : decode cX9_hasShare 15 = .ok (.lcmp, 1) := by decide +kernel
theorem dX9_hasShare_16 : decode cX9_hasShare 16 = .ok (.ifCond .lt 7, 3) := by decide +kernel
theorem dX9_hasShare_19 : decode cX9_hasShare 19 = .ok (.iconst 1, 1) := by decide +kernel
theorem dX9_hasShare_20 : decode cX9_hasShare 20 = .ok (.goto 4, 3) := by decide +kernel
theorem dX9_hasShare_23 : decode cX9_hasShare 23 = .ok (.iconst 0, 1) := by decide +kernel
theorem dX9_hasShare_24 : decode cX9_hasShare 24 = .ok (.ireturn, 1) := by decide +kernel
theorem dX9_turnedEnergy_0 : decode cX9_turnedEnergy 0 = .ok (.aload_n 0, 1) := by decide +kernel
theorem dX9_turnedEnergy_1 : decode cX9_turnedEnergy 1 = .ok (.getfield 72, 3) := by decide +kernel
theorem dX9_turnedEnergy_4 : decode cX9_turnedEnergy 4 = .ok (.getfield 137, 3) := by decide +kernel
theorem dX9_turnedEnergy_7 : decode cX9_turnedEnergy 7 = .ok (.iconst (-1), 1) := by decide +kernel
theorem dX9_turnedEnergy_8 : decode cX9_turnedEnergy 8 = .ok (.if_icmp .ne 7, 3) := by decide +kernel
theorem dX9_turnedEnergy_11 : decode cX9_turnedEnergy 11 = .ok (.ldc2_w 346, 3) := by decide +kernel
theorem dX9_turnedEnergy_14 : decode cX9_turnedEnergy 14 = .ok (.lreturn, 1) := by decide +kernel
theorem dX9_turnedEnergy_15 : decode cX9_turnedEnergy 15 = .ok (.aload_n 0, 1) := by decide +kernel
theorem dX9_turnedEnergy_16 : decode cX9_turnedEnergy 16 = .ok (.getfield 24, 3) := by decide +kernel
theorem dX9_turnedEnergy_19 : decode cX9_turnedEnergy 19 = .ok (.aload_n 0, 1) := by decide +kernel
theorem dX9_turnedEnergy_20 : decode cX9_turnedEnergy 20 = .ok (.getfield 20, 3) := by decide +kernel
theorem dX9_turnedEnergy_23 : decode cX9_turnedEnergy 23 = .ok (.invokevirtual 111, 3) := by decide +kernel
theorem dX9_turnedEnergy_26 : decode cX9_turnedEnergy 26 = .ok (.aload_n 0, 1) := by decide +kernel
theorem dX9_turnedEnergy_27 : decode cX9_turnedEnergy 27 = .ok (.getfield 24, 3) := by decide +kernel
theorem dX9_turnedEnergy_30 : decode cX9_turnedEnergy 30 = .ok (.iload_n 3, 1) := by decide +kernel
theorem dX9_turnedEnergy_31 : decode cX9_turnedEnergy 31 = .ok (.invokevirtual 366, 3) := by decide +kernel
theorem dX9_turnedEnergy_34 : decode cX9_turnedEnergy 34 = .ok (.aload_n 0, 1) := by decide +kernel
theorem dX9_turnedEnergy_35 : decode cX9_turnedEnergy 35 = .ok (.getfield 72, 3) := by decide +kernel
theorem dX9_turnedEnergy_38 : decode cX9_turnedEnergy 38 = .ok (.aload_n 0, 1) := by decide +kernel
theorem dX9_turnedEnergy_39 : decode cX9_turnedEnergy 39 = .ok (.getfield 24, 3) := by decide +kernel
theorem dX9_turnedEnergy_42 : decode cX9_turnedEnergy 42 = .ok (.iload_n 1, 1) := by decide +kernel
theorem dX9_turnedEnergy_43 : decode cX9_turnedEnergy 43 = .ok (.iload_n 2, 1) := by decide +kernel
theorem dX9_turnedEnergy_44 : decode cX9_turnedEnergy 44 = .ok (.iload 4, 2) := by decide +kernel
theorem dX9_turnedEnergy_46 : decode cX9_turnedEnergy 46 = .ok (.invokevirtual 285, 3) := by decide +kernel
theorem dX9_turnedEnergy_49 : decode cX9_turnedEnergy 49 = .ok (.lreturn, 1) := by decide +kernel
theorem dX10_init_0 : decode cX10_init 0 = .ok (.aload_n 0, 1) := by decide +kernel
theorem dX10_init_1 : decode cX10_init 1 = .ok (.invokespecial 1, 3) := by decide +kernel
theorem dX10_init_4 : decode cX10_init 4 = .ok (.aload_n 0, 1) := by decide +kernel
theorem dX10_init_5 : decode cX10_init 5 = .ok (.sipush 900, 3) := by decide +kernel
theorem dX10_init_8 : decode cX10_init 8 = .ok (.newarray .int, 2) := by decide +kernel
theorem dX10_init_10 : decode cX10_init 10 = .ok (.putfield 9, 3) := by decide +kernel
theorem dX10_init_13 : decode cX10_init 13 = .ok (.aload_n 0, 1) := by decide +kernel
theorem dX10_init_14 : decode cX10_init 14 = .ok (.iconst (-1), 1) := by decide +kernel
theorem dX10_init_15 : decode cX10_init 15 = .ok (.putfield 13, 3) := by decide +kernel
theorem dX10_init_18 : decode cX10_init 18 = .ok (.aload_n 0, 1) := by decide +kernel
theorem dX10_init_19 : decode cX10_init 19 = .ok (.bipush 85, 2) := by decide +kernel
theorem dX10_init_21 : decode cX10_init 21 = .ok (.newarray .int, 2) := by decide +kernel
theorem dX10_init_23 : decode cX10_init 23 = .ok (.putfield 17, 3) := by decide +kernel
theorem dX10_init_26 : decode cX10_init 26 = .ok (.aload_n 0, 1) := by decide +kernel
theorem dX10_init_27 : decode cX10_init 27 = .ok (.bipush 85, 2) := by decide +kernel
theorem dX10_init_29 : decode cX10_init 29 = .ok (.newarray .int, 2) := by decide +kernel
theorem dX10_init_31 : decode cX10_init 31 = .ok (.putfield 20, 3) := by decide +kernel
theorem dX10_init_34 : decode cX10_init 34 = .ok (.aload_n 0, 1) := by decide +kernel
theorem dX10_init_35 : decode cX10_init 35 = .ok (.bipush 30, 2) := by decide +kernel
theorem dX10_init_37 : decode cX10_init 37 = .ok (.newarray .int, 2) := by decide +kernel
theorem dX10_init_39 : decode cX10_init 39 = .ok (.putfield 23, 3) := by decide +kernel
theorem dX10_init_42 : decode cX10_init 42 = .ok (.aload_n 0, 1) := by decide +kernel
theorem dX10_init_43 : decode cX10_init 43 = .ok (.bipush 30, 2) := by decide +kernel
theorem dX10_init_45 : decode cX10_init 45 = .ok (.newarray .int, 2) := by decide +kernel
theorem dX10_init_47 : decode cX10_init 47 = .ok (.putfield 26, 3) := by decide +kernel
theorem dX10_init_50 : decode cX10_init 50 = .ok (.aload_n 0, 1) := by decide +kernel
theorem dX10_init_51 : decode cX10_init 51 = .ok (.bipush 30, 2) := by decide +kernel
theorem dX10_init_53 : decode cX10_init 53 = .ok (.newarray .int, 2) := by decide +kernel
theorem dX10_init_55 : decode cX10_init 55 = .ok (.putfield 29, 3) := by decide +kernel
theorem dX10_init_58 : decode cX10_init 58 = .ok (.aload_n 0, 1) := by decide +kernel
theorem dX10_init_59 : decode cX10_init 59 = .ok (.sipush 240, 3) := by decide +kernel
theorem dX10_init_62 : decode cX10_init 62 = .ok (.newarray .int, 2) := by decide +kernel
theorem dX10_init_64 : decode cX10_init 64 = .ok (.putfield 32, 3) := by decide +kernel
theorem dX10_init_67 : decode cX10_init 67 = .ok (.aload_n 0, 1) := by decide +kernel
theorem dX10_init_68 : decode cX10_init 68 = .ok (.bipush 60, 2) := by decide +kernel
theorem dX10_init_70 : decode cX10_init 70 = .ok (.newarray .int, 2) := by decide +kernel
theorem dX10_init_72 : decode cX10_init 72 = .ok (.putfield 35, 3) := by decide +kernel
theorem dX10_init_75 : decode cX10_init 75 = .ok (.aload_n 0, 1) := by decide +kernel
theorem dX10_init_76 : decode cX10_init 76 = .ok (.sipush 640, 3) := by decide +kernel
theorem dX10_init_79 : decode cX10_init 79 = .ok (.newarray .int, 2) := by decide +kernel
theorem dX10_init_81 : decode cX10_init 81 = .ok (.putfield 38, 3) := by decide +kernel
theorem dX10_init_84 : decode cX10_init 84 = .ok (.aload_n 0, 1) := by decide +kernel
theorem dX10_init_85 : decode cX10_init 85 = .ok (.iconst 2, 1) := by decide +kernel
theorem dX10_init_86 : decode cX10_init 86 = .ok (.newarray .boolean, 2) := by decide +kernel
theorem dX10_init_88 : decode cX10_init 88 = .ok (.putfield 41, 3) := by decide +kernel
theorem dX10_init_91 : decode cX10_init 91 = .ok (.aload_n 0, 1) := by decide +kernel
theorem dX10_init_92 : decode cX10_init 92 = .ok (.bipush 60, 2) := by decide +kernel
theorem dX10_init_94 : decode cX10_init 94 = .ok (.newarray .int, 2) := by decide +kernel
theorem dX10_init_96 : decode cX10_init 96 = .ok (.putfield 45, 3) := by decide +kernel
theorem dX10_init_99 : decode cX10_init 99 = .ok (.aload_n 0, 1) := by decide +kernel
theorem dX10_init_100 : decode cX10_init 100 = .ok (.sipush 160, 3) := by decide +kernel
theorem dX10_init_103 : decode cX10_init 103 = .ok (.newarray .int, 2) := by decide +kernel
theorem dX10_init_105 : decode cX10_init 105 = .ok (.putfield 48, 3) := by decide +kernel
theorem dX10_init_108 : decode cX10_init 108 = .ok (.aload_n 0, 1) := by decide +kernel
theorem dX10_init_109 : decode cX10_init 109 = .ok (.sipush 160, 3) := by decide +kernel
theorem dX10_init_112 : decode cX10_init 112 = .ok (.newarray .int, 2) := by decide +kernel
theorem dX10_init_114 : decode cX10_init 114 = .ok (.putfield 51, 3) := by decide +kernel
theorem dX10_init_117 : decode cX10_init 117 = .ok (.aload_n 0, 1) := by decide +kernel
theorem dX10_init_118 : decode cX10_init 118 = .ok (.sipush 160, 3) := by decide +kernel
theorem dX10_init_121 : decode cX10_init 121 = .ok (.newarray .long, 2) := by decide +kernel
theorem dX10_init_123 : decode cX10_init 123 = .ok (.putfield 54, 3) := by decide +kernel
theorem dX10_init_126 : decode cX10_init 126 = .ok (.aload_n 0, 1) := by decide +kernel
theorem dX10_init_127 : decode cX10_init 127 = .ok (.bipush 10, 2) := by decide +kernel
theorem dX10_init_129 : decode cX10_init 129 = .ok (.newarray .long, 2) := by decide +kernel
theorem dX10_init_131 : decode cX10_init 131 = .ok (.putfield 58, 3) := by decide +kernel
theorem dX10_init_134 : decode cX10_init 134 = .ok (.aload_n 0, 1) := by decide +kernel
theorem dX10_init_135 : decode cX10_init 135 = .ok (.sipush 200, 3) := by decide +kernel
theorem dX10_init_138 : decode cX10_init 138 = .ok (.newarray .int, 2) := by decide +kernel
theorem dX10_init_140 : decode cX10_init 140 = .ok (.putfield 61, 3) := by decide +kernel
theorem dX10_init_143 : decode cX10_init 143 = .ok (.return_, 1) := by decide +kernel
theorem dX10_thrown_0 : decode cX10_thrown 0 = .ok (.aload_n 0, 1) := by decide +kernel
theorem dX10_thrown_1 : decode cX10_thrown 1 = .ok (.getfield 64, 3) := by decide +kernel
theorem dX10_thrown_4 : decode cX10_thrown 4 = .ok (.ireturn, 1) := by decide +kernel
theorem dX10_in_0 : decode cX10_in 0 = .ok (.iload_n 0, 1) := by decide +kernel
theorem dX10_in_1 : decode cX10_in 1 = .ok (.iload_n 1, 1) := by decide +kernel
theorem dX10_in_2 : decode cX10_in 2 = .ok (.if_icmp .lt 12, 3) := by decide +kernel
theorem dX10_in_5 : decode cX10_in 5 = .ok (.iload_n 0, 1) := by decide +kernel
theorem dX10_in_6 : decode cX10_in 6 = .ok (.iload_n 2, 1) := by decide +kernel
theorem dX10_in_7 : decode cX10_in 7 = .ok (.if_icmp .gt 7, 3) := by decide +kernel
theorem dX10_in_10 : decode cX10_in 10 = .ok (.iconst 1, 1) := by decide +kernel
theorem dX10_in_11 : decode cX10_in 11 = .ok (.goto 4, 3) := by decide +kernel
theorem dX10_in_14 : decode cX10_in 14 = .ok (.iconst 0, 1) := by decide +kernel
theorem dX10_in_15 : decode cX10_in 15 = .ok (.ireturn, 1) := by decide +kernel
theorem dX10_throwsAt_0 : decode cX10_throwsAt 0 = .ok (.aload_n 0, 1) := by decide +kernel
theorem dX10_throwsAt_1 : decode cX10_throwsAt 1 = .ok (.iload_n 1, 1) := by decide +kernel
theorem dX10_throwsAt_2 : decode cX10_throwsAt 2 = .ok (.putfield 64, 3) := by decide +kernel
theorem dX10_throwsAt_5 : decode cX10_throwsAt 5 = .ok (.iconst 0, 1) := by decide +kernel
theorem dX10_throwsAt_6 : decode cX10_throwsAt 6 = .ok (.ireturn, 1) := by decide +kernel
theorem dX10_four_0 : decode cX10_four 0 = .ok (.bipush 24, 2) := by decide +kernel
theorem dX10_four_2 : decode cX10_four 2 = .ok (.istore_n 2, 1) := by decide +kernel
theorem dX10_four_3 : decode cX10_four 3 = .ok (.iload_n 2, 1) := by decide +kernel
theorem dX10_four_4 : decode cX10_four 4 = .ok (.ifCond .lt 35, 3) := by decide +kernel
theorem dX10_four_7 : decode cX10_four 7 = .ok (.aload_n 0, 1) := by decide +kernel
theorem dX10_four_8 : decode cX10_four 8 = .ok (.getfield 9, 3) := by decide +kernel
theorem dX10_four_11 : decode cX10_four 11 = .ok (.aload_n 0, 1) := by decide +kernel
theorem dX10_four_12 : decode cX10_four 12 = .ok (.getfield 67, 3) := by decide +kernel
theorem dX10_four_15 : decode cX10_four 15 = .ok (.iload_n 1, 1) := by decide +kernel
theorem dX10_four_16 : decode cX10_four 16 = .ok (.iload_n 2, 1) := by decide +kernel
theorem dX10_four_17 : decode cX10_four 17 = .ok (.ishr, 1) := by decide +kernel
theorem dX10_four_18 : decode cX10_four 18 = .ok (.sipush 255, 3) := by decide +kernel
theorem dX10_four_21 : decode cX10_four 21 = .ok (.iand, 1) := by decide +kernel
theorem dX10_four_22 : decode cX10_four 22 = .ok (.iastore, 1) := by decide +kernel
theorem dX10_four_23 : decode cX10_four 23 = .ok (.aload_n 0, 1) := by decide +kernel
theorem dX10_four_24 : decode cX10_four 24 = .ok (.dup, 1) := by decide +kernel
theorem dX10_four_25 : decode cX10_four 25 = .ok (.getfield 67, 3) := by decide +kernel
theorem dX10_four_28 : decode cX10_four 28 = .ok (.iconst 1, 1) := by decide +kernel
theorem dX10_four_29 : decode cX10_four 29 = .ok (.iadd, 1) := by decide +kernel
theorem dX10_four_30 : decode cX10_four 30 = .ok (.putfield 67, 3) := by decide +kernel
theorem dX10_four_33 : decode cX10_four 33 = .ok (.iinc 2 (-8), 3) := by decide +kernel
theorem dX10_four_36 : decode cX10_four 36 = .ok (.goto (-33), 3) := by decide +kernel
theorem dX10_four_39 : decode cX10_four 39 = .ok (.return_, 1) := by decide +kernel
theorem dX10_append_0 : decode cX10_append 0 = .ok (.aload_n 0, 1) := by decide +kernel
theorem dX10_append_1 : decode cX10_append 1 = .ok (.iconst 0, 1) := by decide +kernel
theorem dX10_append_2 : decode cX10_append 2 = .ok (.putfield 64, 3) := by decide +kernel
theorem dX10_append_5 : decode cX10_append 5 = .ok (.aload_n 0, 1) := by decide +kernel
theorem dX10_append_6 : decode cX10_append 6 = .ok (.getfield 67, 3) := by decide +kernel
theorem dX10_append_9 : decode cX10_append 9 = .ok (.bipush 20, 2) := by decide +kernel
theorem dX10_append_11 : decode cX10_append 11 = .ok (.iadd, 1) := by decide +kernel
theorem dX10_append_12 : decode cX10_append 12 = .ok (.sipush 900, 3) := by decide +kernel
theorem dX10_append_15 : decode cX10_append 15 = .ok (.if_icmp .le 5, 3) := by decide +kernel
theorem dX10_append_18 : decode cX10_append 18 = .ok (.iconst (-1), 1) := by decide +kernel
theorem dX10_append_19 : decode cX10_append 19 = .ok (.ireturn, 1) := by decide +kernel
theorem dX10_append_20 : decode cX10_append 20 = .ok (.aload_n 0, 1) := by decide +kernel
theorem dX10_append_21 : decode cX10_append 21 = .ok (.iload_n 1, 1) := by decide +kernel
theorem dX10_append_22 : decode cX10_append 22 = .ok (.invokevirtual 70, 3) := by decide +kernel
theorem dX10_append_25 : decode cX10_append 25 = .ok (.aload_n 0, 1) := by decide +kernel
theorem dX10_append_26 : decode cX10_append 26 = .ok (.iload_n 2, 1) := by decide +kernel
theorem dX10_append_27 : decode cX10_append 27 = .ok (.invokevirtual 70, 3) := by decide +kernel
theorem dX10_append_30 : decode cX10_append 30 = .ok (.aload_n 0, 1) := by decide +kernel
theorem dX10_append_31 : decode cX10_append 31 = .ok (.iload_n 3, 1) := by decide +kernel
theorem dX10_append_32 : decode cX10_append 32 = .ok (.invokevirtual 70, 3) := by decide +kernel
theorem dX10_append_35 : decode cX10_append 35 = .ok (.aload_n 0, 1) := by decide +kernel
theorem dX10_append_36 : decode cX10_append 36 = .ok (.iload 4, 2) := by decide +kernel
theorem dX10_append_38 : decode cX10_append 38 = .ok (.invokevirtual 70, 3) := by decide +kernel
theorem dX10_append_41 : decode cX10_append 41 = .ok (.aload_n 0, 1) := by decide +kernel
theorem dX10_append_42 : decode cX10_append 42 = .ok (.iload 5, 2) := by decide +kernel
theorem dX10_append_44 : decode cX10_append 44 = .ok (.invokevirtual 70, 3) := by decide +kernel
theorem dX10_append_47 : decode cX10_append 47 = .ok (.aload_n 0, 1) := by decide +kernel
theorem dX10_append_48 : decode cX10_append 48 = .ok (.getfield 67, 3) := by decide +kernel
theorem dX10_append_51 : decode cX10_append 51 = .ok (.ireturn, 1) := by decide +kernel
theorem dX10_buffered_0 : decode cX10_buffered 0 = .ok (.aload_n 0, 1) := by decide +kernel
theorem dX10_buffered_1 : decode cX10_buffered 1 = .ok (.iconst 0, 1) := by decide +kernel
theorem dX10_buffered_2 : decode cX10_buffered 2 = .ok (.putfield 64, 3) := by decide +kernel
theorem dX10_buffered_5 : decode cX10_buffered 5 = .ok (.aload_n 0, 1) := by decide +kernel
theorem dX10_buffered_6 : decode cX10_buffered 6 = .ok (.getfield 67, 3) := by decide +kernel
theorem dX10_buffered_9 : decode cX10_buffered 9 = .ok (.ireturn, 1) := by decide +kernel
theorem dX10_parseError_0 : decode cX10_parseError 0 = .ok (.aload_n 0, 1) := by decide +kernel
theorem dX10_parseError_1 : decode cX10_parseError 1 = .ok (.iconst 0, 1) := by decide +kernel
theorem dX10_parseError_2 : decode cX10_parseError 2 = .ok (.putfield 64, 3) := by decide +kernel
theorem dX10_parseError_5 : decode cX10_parseError 5 = .ok (.aload_n 0, 1) := by decide +kernel
theorem dX10_parseError_6 : decode cX10_parseError 6 = .ok (.getfield 74, 3) := by decide +kernel
theorem dX10_parseError_9 : decode cX10_parseError 9 = .ok (.ireturn, 1) := by decide +kernel
theorem dX10_errorPosition_0 : decode cX10_errorPosition 0 = .ok (.aload_n 0, 1) := by decide +kernel
theorem dX10_errorPosition_1 : decode cX10_errorPosition 1 = .ok (.iconst 0, 1) := by decide +kernel
theorem dX10_errorPosition_2 : decode cX10_errorPosition 2 = .ok (.putfield 64, 3) := by decide +kernel
theorem dX10_errorPosition_5 : decode cX10_errorPosition 5 = .ok (.aload_n 0, 1) := by decide +kernel
theorem dX10_errorPosition_6 : decode cX10_errorPosition 6 = .ok (.getfield 13, 3) := by decide +kernel
theorem dX10_errorPosition_9 : decode cX10_errorPosition 9 = .ok (.ireturn, 1) := by decide +kernel
theorem dX10_byteAt_0 : decode cX10_byteAt 0 = .ok (.iload_n 1, 1) := by decide +kernel
theorem dX10_byteAt_1 : decode cX10_byteAt 1 = .ok (.aload_n 0, 1) := by decide +kernel
theorem dX10_byteAt_2 : decode cX10_byteAt 2 = .ok (.getfield 77, 3) := by decide +kernel
theorem dX10_byteAt_5 : decode cX10_byteAt 5 = .ok (.if_icmp .ge 12, 3) := by decide +kernel
theorem dX10_byteAt_8 : decode cX10_byteAt 8 = .ok (.aload_n 0, 1) := by decide +kernel
theorem dX10_byteAt_9 : decode cX10_byteAt 9 = .ok (.getfield 9, 3) := by decide +kernel
theorem dX10_byteAt_12 : decode cX10_byteAt 12 = .ok (.iload_n 1, 1) := by decide +kernel
theorem dX10_byteAt_13 : decode cX10_byteAt 13 = .ok (.iaload, 1) := by decide +kernel
theorem dX10_byteAt_14 : decode cX10_byteAt 14 = .ok (.goto 4, 3) := by decide +kernel
theorem dX10_byteAt_17 : decode cX10_byteAt 17 = .ok (.iconst (-1), 1) := by decide +kernel
theorem dX10_byteAt_18 : decode cX10_byteAt 18 = .ok (.ireturn, 1) := by decide +kernel
theorem dX10_faults_0 : decode cX10_faults 0 = .ok (.aload_n 0, 1) := by decide +kernel
theorem dX10_faults_1 : decode cX10_faults 1 = .ok (.getfield 74, 3) := by decide +kernel
theorem dX10_faults_4 : decode cX10_faults 4 = .ok (.ifCond .le 4, 3) := by decide +kernel
theorem dX10_faults_7 : decode cX10_faults 7 = .ok (.return_, 1) := by decide +kernel
theorem dX10_faults_8 : decode cX10_faults 8 = .ok (.aload_n 0, 1) := by decide +kernel
theorem dX10_faults_9 : decode cX10_faults 9 = .ok (.iload_n 1, 1) := by decide +kernel
theorem dX10_faults_10 : decode cX10_faults 10 = .ok (.putfield 74, 3) := by decide +kernel
theorem dX10_faults_13 : decode cX10_faults 13 = .ok (.aload_n 0, 1) := by decide +kernel
theorem dX10_faults_14 : decode cX10_faults 14 = .ok (.aload_n 0, 1) := by decide +kernel
theorem dX10_faults_15 : decode cX10_faults 15 = .ok (.getfield 80, 3) := by decide +kernel
theorem dX10_faults_18 : decode cX10_faults 18 = .ok (.putfield 13, 3) := by decide +kernel
theorem dX10_faults_21 : decode cX10_faults 21 = .ok (.return_, 1) := by decide +kernel
theorem dX10_isSign_0 : decode cX10_isSign 0 = .ok (.iload_n 0, 1) := by decide +kernel
theorem dX10_isSign_1 : decode cX10_isSign 1 = .ok (.bipush 59, 2) := by decide +kernel
theorem dX10_isSign_3 : decode cX10_isSign 3 = .ok (.if_icmp .eq 39, 3) := by decide +kernel
theorem dX10_isSign_6 : decode cX10_isSign 6 = .ok (.iload_n 0, 1) := by decide +kernel
theorem dX10_isSign_7 : decode cX10_isSign 7 = .ok (.bipush 40, 2) := by decide +kernel
theorem dX10_isSign_9 : decode cX10_isSign 9 = .ok (.if_icmp .eq 33, 3) := by decide +kernel
theorem dX10_isSign_12 : decode cX10_isSign 12 = .ok (.iload_n 0, 1) := by decide +kernel
theorem dX10_isSign_13 : decode cX10_isSign 13 = .ok (.bipush 41, 2) := by decide +kernel
theorem dX10_isSign_15 : decode cX10_isSign 15 = .ok (.if_icmp .eq 27, 3) := by decide +kernel
theorem dX10_isSign_18 : decode cX10_isSign 18 = .ok (.iload_n 0, 1) := by decide +kernel
theorem dX10_isSign_19 : decode cX10_isSign 19 = .ok (.bipush 43, 2) := by decide +kernel
theorem dX10_isSign_21 : decode cX10_isSign 21 = .ok (.if_icmp .eq 21, 3) := by decide +kernel
theorem dX10_isSign_24 : decode cX10_isSign 24 = .ok (.iload_n 0, 1) := by decide +kernel
theorem dX10_isSign_25 : decode cX10_isSign 25 = .ok (.bipush 45, 2) := by decide +kernel
theorem dX10_isSign_27 : decode cX10_isSign 27 = .ok (.if_icmp .eq 15, 3) := by decide +kernel
theorem dX10_isSign_30 : decode cX10_isSign 30 = .ok (.iload_n 0, 1) := by decide +kernel
theorem dX10_isSign_31 : decode cX10_isSign 31 = .ok (.bipush 42, 2) := by decide +kernel
theorem dX10_isSign_33 : decode cX10_isSign 33 = .ok (.if_icmp .eq 9, 3) := by decide +kernel
theorem dX10_isSign_36 : decode cX10_isSign 36 = .ok (.iload_n 0, 1) := by decide +kernel
theorem dX10_isSign_37 : decode cX10_isSign 37 = .ok (.bipush 47, 2) := by decide +kernel
theorem dX10_isSign_39 : decode cX10_isSign 39 = .ok (.if_icmp .ne 7, 3) := by decide +kernel
theorem dX10_isSign_42 : decode cX10_isSign 42 = .ok (.iconst 1, 1) := by decide +kernel
theorem dX10_isSign_43 : decode cX10_isSign 43 = .ok (.goto 4, 3) := by decide +kernel
theorem dX10_isSign_46 : decode cX10_isSign 46 = .ok (.iconst 0, 1) := by decide +kernel
theorem dX10_isSign_47 : decode cX10_isSign 47 = .ok (.ireturn, 1) := by decide +kernel
theorem dX10_nextToken_0 : decode cX10_nextToken 0 = .ok (.aload_n 0, 1) := by decide +kernel
theorem dX10_nextToken_1 : decode cX10_nextToken 1 = .ok (.getfield 74, 3) := by decide +kernel
theorem dX10_nextToken_4 : decode cX10_nextToken 4 = .ok (.ifCond .le 4, 3) := by decide +kernel
theorem dX10_nextToken_7 : decode cX10_nextToken 7 = .ok (.return_, 1) := by decide +kernel
theorem dX10_nextToken_8 : decode cX10_nextToken 8 = .ok (.aload_n 0, 1) := by decide +kernel
theorem dX10_nextToken_9 : decode cX10_nextToken 9 = .ok (.aload_n 0, 1) := by decide +kernel
theorem dX10_nextToken_10 : decode cX10_nextToken 10 = .ok (.getfield 83, 3) := by decide +kernel
theorem dX10_nextToken_13 : decode cX10_nextToken 13 = .ok (.invokevirtual 86, 3) := by decide +kernel
theorem dX10_nextToken_16 : decode cX10_nextToken 16 = .ok (.bipush 32, 2) := by decide +kernel
theorem dX10_nextToken_18 : decode cX10_nextToken 18 = .ok (.if_icmp .ne 16, 3) := by decide +kernel
theorem dX10_nextToken_21 : decode cX10_nextToken 21 = .ok (.aload_n 0, 1) := by decide +kernel
theorem dX10_nextToken_22 : decode cX10_nextToken 22 = .ok (.dup, 1) := by decide +kernel
theorem dX10_nextToken_23 : decode cX10_nextToken 23 = .ok (.getfield 83, 3) := by decide +kernel
theorem dX10_nextToken_26 : decode cX10_nextToken 26 = .ok (.iconst 1, 1) := by decide +kernel
theorem dX10_nextToken_27 : decode cX10_nextToken 27 = .ok (.iadd, 1) := by decide +kernel
theorem dX10_nextToken_28 : decode cX10_nextToken 28 = .ok (.putfield 83, 3) := by decide +kernel
theorem dX10_nextToken_31 : decode cX10_nextToken 31 = .ok (.goto (-23), 3) := by decide +kernel
theorem dX10_nextToken_34 : decode cX10_nextToken 34 = .ok (.aload_n 0, 1) := by decide +kernel
theorem dX10_nextToken_35 : decode cX10_nextToken 35 = .ok (.aload_n 0, 1) := by decide +kernel
theorem dX10_nextToken_36 : decode cX10_nextToken 36 = .ok (.getfield 83, 3) := by decide +kernel
theorem dX10_nextToken_39 : decode cX10_nextToken 39 = .ok (.putfield 80, 3) := by decide +kernel
theorem dX10_nextToken_42 : decode cX10_nextToken 42 = .ok (.aload_n 0, 1) := by decide +kernel
theorem dX10_nextToken_43 : decode cX10_nextToken 43 = .ok (.getfield 83, 3) := by decide +kernel
theorem dX10_nextToken_46 : decode cX10_nextToken 46 = .ok (.aload_n 0, 1) := by decide +kernel
theorem dX10_nextToken_47 : decode cX10_nextToken 47 = .ok (.getfield 77, 3) := by decide +kernel
theorem dX10_nextToken_50 : decode cX10_nextToken 50 = .ok (.if_icmp .ne 11, 3) := by decide +kernel
theorem dX10_nextToken_53 : decode cX10_nextToken 53 = .ok (.aload_n 0, 1) := by decide +kernel
theorem dX10_nextToken_54 : decode cX10_nextToken 54 = .ok (.iconst 1, 1) := by decide +kernel
theorem dX10_nextToken_55 : decode cX10_nextToken 55 = .ok (.putfield 90, 3) := by decide +kernel
theorem dX10_nextToken_58 : decode cX10_nextToken 58 = .ok (.goto 234, 3) := by decide +kernel
theorem dX10_nextToken_61 : decode cX10_nextToken 61 = .ok (.aload_n 0, 1) := by decide +kernel
theorem dX10_nextToken_62 : decode cX10_nextToken 62 = .ok (.aload_n 0, 1) := by decide +kernel
theorem dX10_nextToken_63 : decode cX10_nextToken 63 = .ok (.getfield 83, 3) := by decide +kernel
theorem dX10_nextToken_66 : decode cX10_nextToken 66 = .ok (.invokevirtual 86, 3) := by decide +kernel
theorem dX10_nextToken_69 : decode cX10_nextToken 69 = .ok (.bipush 97, 2) := by decide +kernel
theorem dX10_nextToken_71 : decode cX10_nextToken 71 = .ok (.bipush 122, 2) := by decide +kernel
theorem dX10_nextToken_73 : decode cX10_nextToken 73 = .ok (.invokestatic 93, 3) := by decide +kernel
theorem dX10_nextToken_76 : decode cX10_nextToken 76 = .ok (.ifCond .eq 60, 3) := by decide +kernel
theorem dX10_nextToken_79 : decode cX10_nextToken 79 = .ok (.aload_n 0, 1) := by decide +kernel
theorem dX10_nextToken_80 : decode cX10_nextToken 80 = .ok (.aload_n 0, 1) := by decide +kernel
theorem dX10_nextToken_81 : decode cX10_nextToken 81 = .ok (.getfield 83, 3) := by decide +kernel
theorem dX10_nextToken_84 : decode cX10_nextToken 84 = .ok (.invokevirtual 86, 3) := by decide +kernel
theorem dX10_nextToken_87 : decode cX10_nextToken 87 = .ok (.bipush 97, 2) := by decide +kernel
theorem dX10_nextToken_89 : decode cX10_nextToken 89 = .ok (.bipush 122, 2) := by decide +kernel
theorem dX10_nextToken_91 : decode cX10_nextToken 91 = .ok (.invokestatic 93, 3) := by decide +kernel
theorem dX10_nextToken_94 : decode cX10_nextToken 94 = .ok (.ifCond .eq 16, 3) := by decide +kernel
theorem dX10_nextToken_97 : decode cX10_nextToken 97 = .ok (.aload_n 0, 1) := by decide +kernel
theorem dX10_nextToken_98 : decode cX10_nextToken 98 = .ok (.dup, 1) := by decide +kernel
theorem dX10_nextToken_99 : decode cX10_nextToken 99 = .ok (.getfield 83, 3) := by decide +kernel
theorem dX10_nextToken_102 : decode cX10_nextToken 102 = .ok (.iconst 1, 1) := by decide +kernel
theorem dX10_nextToken_103 : decode cX10_nextToken 103 = .ok (.iadd, 1) := by decide +kernel
theorem dX10_nextToken_104 : decode cX10_nextToken 104 = .ok (.putfield 83, 3) := by decide +kernel
theorem dX10_nextToken_107 : decode cX10_nextToken 107 = .ok (.goto (-28), 3) := by decide +kernel
theorem dX10_nextToken_110 : decode cX10_nextToken 110 = .ok (.aload_n 0, 1) := by decide +kernel
theorem dX10_nextToken_111 : decode cX10_nextToken 111 = .ok (.aload_n 0, 1) := by decide +kernel
theorem dX10_nextToken_112 : decode cX10_nextToken 112 = .ok (.getfield 83, 3) := by decide +kernel
theorem dX10_nextToken_115 : decode cX10_nextToken 115 = .ok (.aload_n 0, 1) := by decide +kernel
theorem dX10_nextToken_116 : decode cX10_nextToken 116 = .ok (.getfield 80, 3) := by decide +kernel
theorem dX10_nextToken_119 : decode cX10_nextToken 119 = .ok (.isub, 1) := by decide +kernel
theorem dX10_nextToken_120 : decode cX10_nextToken 120 = .ok (.bipush 8, 2) := by decide +kernel
theorem dX10_nextToken_122 : decode cX10_nextToken 122 = .ok (.if_icmp .le 7, 3) := by decide +kernel
theorem dX10_nextToken_125 : decode cX10_nextToken 125 = .ok (.iconst 0, 1) := by decide +kernel
theorem dX10_nextToken_126 : decode cX10_nextToken 126 = .ok (.goto 4, 3) := by decide +kernel
theorem dX10_nextToken_129 : decode cX10_nextToken 129 = .ok (.iconst 2, 1) := by decide +kernel
theorem dX10_nextToken_130 : decode cX10_nextToken 130 = .ok (.putfield 90, 3) := by decide +kernel
theorem dX10_nextToken_133 : decode cX10_nextToken 133 = .ok (.goto 159, 3) := by decide +kernel
theorem dX10_nextToken_136 : decode cX10_nextToken 136 = .ok (.aload_n 0, 1) := by decide +kernel
theorem dX10_nextToken_137 : decode cX10_nextToken 137 = .ok (.aload_n 0, 1) := by decide +kernel
theorem dX10_nextToken_138 : decode cX10_nextToken 138 = .ok (.getfield 83, 3) := by decide +kernel
theorem dX10_nextToken_141 : decode cX10_nextToken 141 = .ok (.invokevirtual 86, 3) := by decide +kernel
theorem dX10_nextToken_144 : decode cX10_nextToken 144 = .ok (.bipush 48, 2) := by decide +kernel
theorem dX10_nextToken_146 : decode cX10_nextToken 146 = .ok (.bipush 57, 2) := by decide +kernel
theorem dX10_nextToken_148 : decode cX10_nextToken 148 = .ok (.invokestatic 93, 3) := by decide +kernel
theorem dX10_nextToken_151 : decode cX10_nextToken 151 = .ok (.ifCond .eq 100, 3) := by decide +kernel
theorem dX10_nextToken_154 : decode cX10_nextToken 154 = .ok (.aload_n 0, 1) := by decide +kernel
theorem dX10_nextToken_155 : decode cX10_nextToken 155 = .ok (.iconst 0, 1) := by decide +kernel
theorem dX10_nextToken_156 : decode cX10_nextToken 156 = .ok (.putfield 97, 3) := by decide +kernel
theorem dX10_nextToken_159 : decode cX10_nextToken 159 = .ok (.aload_n 0, 1) := by decide +kernel
theorem dX10_nextToken_160 : decode cX10_nextToken 160 = .ok (.aload_n 0, 1) := by decide +kernel
theorem dX10_nextToken_161 : decode cX10_nextToken 161 = .ok (.getfield 83, 3) := by decide +kernel
theorem dX10_nextToken_164 : decode cX10_nextToken 164 = .ok (.invokevirtual 86, 3) := by decide +kernel
theorem dX10_nextToken_167 : decode cX10_nextToken 167 = .ok (.bipush 48, 2) := by decide +kernel
theorem dX10_nextToken_169 : decode cX10_nextToken 169 = .ok (.bipush 57, 2) := by decide +kernel
theorem dX10_nextToken_171 : decode cX10_nextToken 171 = .ok (.invokestatic 93, 3) := by decide +kernel
theorem dX10_nextToken_174 : decode cX10_nextToken 174 = .ok (.ifCond .eq 52, 3) := by decide +kernel
theorem dX10_nextToken_177 : decode cX10_nextToken 177 = .ok (.aload_n 0, 1) := by decide +kernel
theorem dX10_nextToken_178 : decode cX10_nextToken 178 = .ok (.getfield 83, 3) := by decide +kernel
theorem dX10_nextToken_181 : decode cX10_nextToken 181 = .ok (.aload_n 0, 1) := by decide +kernel
theorem dX10_nextToken_182 : decode cX10_nextToken 182 = .ok (.getfield 80, 3) := by decide +kernel
theorem dX10_nextToken_185 : decode cX10_nextToken 185 = .ok (.isub, 1) := by decide +kernel
theorem dX10_nextToken_186 : decode cX10_nextToken 186 = .ok (.iconst 4, 1) := by decide +kernel
theorem dX10_nextToken_187 : decode cX10_nextToken 187 = .ok (.if_icmp .ge 26, 3) := by decide +kernel
theorem dX10_nextToken_190 : decode cX10_nextToken 190 = .ok (.aload_n 0, 1) := by decide +kernel
theorem dX10_nextToken_191 : decode cX10_nextToken 191 = .ok (.bipush 10, 2) := by decide +kernel
theorem dX10_nextToken_193 : decode cX10_nextToken 193 = .ok (.aload_n 0, 1) := by decide +kernel
theorem dX10_nextToken_194 : decode cX10_nextToken 194 = .ok (.getfield 97, 3) := by decide +kernel
theorem dX10_nextToken_197 : decode cX10_nextToken 197 = .ok (.imul, 1) := by decide +kernel
theorem dX10_nextToken_198 : decode cX10_nextToken 198 = .ok (.aload_n 0, 1) := by decide +kernel
theorem dX10_nextToken_199 : decode cX10_nextToken 199 = .ok (.aload_n 0, 1) := by decide +kernel
theorem dX10_nextToken_200 : decode cX10_nextToken 200 = .ok (.getfield 83, 3) := by decide +kernel
theorem dX10_nextToken_203 : decode cX10_nextToken 203 = .ok (.invokevirtual 86, 3) := by decide +kernel
theorem dX10_nextToken_206 : decode cX10_nextToken 206 = .ok (.iadd, 1) := by decide +kernel
theorem dX10_nextToken_207 : decode cX10_nextToken 207 = .ok (.bipush 48, 2) := by decide +kernel
theorem dX10_nextToken_209 : decode cX10_nextToken 209 = .ok (.isub, 1) := by decide +kernel
theorem dX10_nextToken_210 : decode cX10_nextToken 210 = .ok (.putfield 97, 3) := by decide +kernel
theorem dX10_nextToken_213 : decode cX10_nextToken 213 = .ok (.aload_n 0, 1) := by decide +kernel
theorem dX10_nextToken_214 : decode cX10_nextToken 214 = .ok (.dup, 1) := by decide +kernel
theorem dX10_nextToken_215 : decode cX10_nextToken 215 = .ok (.getfield 83, 3) := by decide +kernel
theorem dX10_nextToken_218 : decode cX10_nextToken 218 = .ok (.iconst 1, 1) := by decide +kernel
theorem dX10_nextToken_219 : decode cX10_nextToken 219 = .ok (.iadd, 1) := by decide +kernel
theorem dX10_nextToken_220 : decode cX10_nextToken 220 = .ok (.putfield 83, 3) := by decide +kernel
theorem dX10_nextToken_223 : decode cX10_nextToken 223 = .ok (.goto (-64), 3) := by decide +kernel
theorem dX10_nextToken_226 : decode cX10_nextToken 226 = .ok (.aload_n 0, 1) := by decide +kernel
theorem dX10_nextToken_227 : decode cX10_nextToken 227 = .ok (.aload_n 0, 1) := by decide +kernel
theorem dX10_nextToken_228 : decode cX10_nextToken 228 = .ok (.getfield 83, 3) := by decide +kernel
theorem dX10_nextToken_231 : decode cX10_nextToken 231 = .ok (.aload_n 0, 1) := by decide +kernel
theorem dX10_nextToken_232 : decode cX10_nextToken 232 = .ok (.getfield 80, 3) := by decide +kernel
theorem dX10_nextToken_235 : decode cX10_nextToken 235 = .ok (.isub, 1) := by decide +kernel
theorem dX10_nextToken_236 : decode cX10_nextToken 236 = .ok (.iconst 4, 1) := by decide +kernel
theorem dX10_nextToken_237 : decode cX10_nextToken 237 = .ok (.if_icmp .le 7, 3) := by decide +kernel
theorem dX10_nextToken_240 : decode cX10_nextToken 240 = .ok (.iconst 0, 1) := by decide +kernel
theorem dX10_nextToken_241 : decode cX10_nextToken 241 = .ok (.goto 4, 3) := by decide +kernel
theorem dX10_nextToken_244 : decode cX10_nextToken 244 = .ok (.iconst 3, 1) := by decide +kernel
theorem dX10_nextToken_245 : decode cX10_nextToken 245 = .ok (.putfield 90, 3) := by decide +kernel
theorem dX10_nextToken_248 : decode cX10_nextToken 248 = .ok (.goto 44, 3) := by decide +kernel
theorem dX10_nextToken_251 : decode cX10_nextToken 251 = .ok (.aload_n 0, 1) := by decide +kernel
theorem dX10_nextToken_252 : decode cX10_nextToken 252 = .ok (.aload_n 0, 1) := by decide +kernel
theorem dX10_nextToken_253 : decode cX10_nextToken 253 = .ok (.aload_n 0, 1) := by decide +kernel
theorem dX10_nextToken_254 : decode cX10_nextToken 254 = .ok (.getfield 83, 3) := by decide +kernel
theorem dX10_nextToken_257 : decode cX10_nextToken 257 = .ok (.invokevirtual 86, 3) := by decide +kernel
theorem dX10_nextToken_260 : decode cX10_nextToken 260 = .ok (.putfield 97, 3) := by decide +kernel
theorem dX10_nextToken_263 : decode cX10_nextToken 263 = .ok (.aload_n 0, 1) := by decide +kernel
theorem dX10_nextToken_264 : decode cX10_nextToken 264 = .ok (.aload_n 0, 1) := by decide +kernel
theorem dX10_nextToken_265 : decode cX10_nextToken 265 = .ok (.getfield 97, 3) := by decide +kernel
theorem dX10_nextToken_268 : decode cX10_nextToken 268 = .ok (.invokestatic 100, 3) := by decide +kernel
theorem dX10_nextToken_271 : decode cX10_nextToken 271 = .ok (.ifCond .eq 7, 3) := by decide +kernel
theorem dX10_nextToken_274 : decode cX10_nextToken 274 = .ok (.iconst 4, 1) := by decide +kernel
theorem dX10_nextToken_275 : decode cX10_nextToken 275 = .ok (.goto 4, 3) := by decide +kernel
theorem dX10_nextToken_278 : decode cX10_nextToken 278 = .ok (.iconst 0, 1) := by decide +kernel
theorem dX10_nextToken_279 : decode cX10_nextToken 279 = .ok (.putfield 90, 3) := by decide +kernel
theorem dX10_nextToken_282 : decode cX10_nextToken 282 = .ok (.aload_n 0, 1) := by decide +kernel
theorem dX10_nextToken_283 : decode cX10_nextToken 283 = .ok (.dup, 1) := by decide +kernel
theorem dX10_nextToken_284 : decode cX10_nextToken 284 = .ok (.getfield 83, 3) := by decide +kernel
theorem dX10_nextToken_287 : decode cX10_nextToken 287 = .ok (.iconst 1, 1) := by decide +kernel
theorem dX10_nextToken_288 : decode cX10_nextToken 288 = .ok (.iadd, 1) := by decide +kernel
theorem dX10_nextToken_289 : decode cX10_nextToken 289 = .ok (.putfield 83, 3) := by decide +kernel
theorem dX10_nextToken_292 : decode cX10_nextToken 292 = .ok (.return_, 1) := by decide +kernel
theorem dX10_isSignHere_0 : decode cX10_isSignHere 0 = .ok (.aload_n 0, 1) := by decide +kernel
theorem dX10_isSignHere_1 : decode cX10_isSignHere 1 = .ok (.getfield 74, 3) := by decide +kernel
theorem dX10_isSignHere_4 : decode cX10_isSignHere 4 = .ok (.ifCond .ne 23, 3) := by decide +kernel
theorem dX10_isSignHere_7 : decode cX10_isSignHere 7 = .ok (.aload_n 0, 1) := by decide +kernel
theorem dX10_isSignHere_8 : decode cX10_isSignHere 8 = .ok (.getfield 90, 3) := by decide +kernel
theorem dX10_isSignHere_11 : decode cX10_isSignHere 11 = .ok (.iconst 4, 1) := by decide +kernel
theorem dX10_isSignHere_12 : decode cX10_isSignHere 12 = .ok (.if_icmp .ne 15, 3) := by decide +kernel
theorem dX10_isSignHere_15 : decode cX10_isSignHere 15 = .ok (.aload_n 0, 1) := by decide +kernel
theorem dX10_isSignHere_16 : decode cX10_isSignHere 16 = .ok (.getfield 97, 3) := by decide +kernel
theorem dX10_isSignHere_19 : decode cX10_isSignHere 19 = .ok (.iload_n 1, 1) := by decide +kernel
theorem dX10_isSignHere_20 : decode cX10_isSignHere 20 = .ok (.if_icmp .ne 7, 3) := by decide +kernel
theorem dX10_isSignHere_23 : decode cX10_isSignHere 23 = .ok (.iconst 1, 1) := by decide +kernel
theorem dX10_isSignHere_24 : decode cX10_isSignHere 24 = .ok (.goto 4, 3) := by decide +kernel
theorem dX10_isSignHere_27 : decode cX10_isSignHere 27 = .ok (.iconst 0, 1) := by decide +kernel
theorem dX10_isSignHere_28 : decode cX10_isSignHere 28 = .ok (.ireturn, 1) := by decide +kernel
theorem dX10_isWord_0 : decode cX10_isWord 0 = .ok (.aload_n 0, 1) := by decide +kernel
theorem dX10_isWord_1 : decode cX10_isWord 1 = .ok (.getfield 74, 3) := by decide +kernel
theorem dX10_isWord_4 : decode cX10_isWord 4 = .ok (.ifCond .gt 27, 3) := by decide +kernel
theorem dX10_isWord_7 : decode cX10_isWord 7 = .ok (.aload_n 0, 1) := by decide +kernel
theorem dX10_isWord_8 : decode cX10_isWord 8 = .ok (.getfield 90, 3) := by decide +kernel
theorem dX10_isWord_11 : decode cX10_isWord 11 = .ok (.iconst 2, 1) := by decide +kernel
theorem dX10_isWord_12 : decode cX10_isWord 12 = .ok (.if_icmp .ne 19, 3) := by decide +kernel
theorem dX10_isWord_15 : decode cX10_isWord 15 = .ok (.aload_n 0, 1) := by decide +kernel
theorem dX10_isWord_16 : decode cX10_isWord 16 = .ok (.getfield 83, 3) := by decide +kernel
theorem dX10_isWord_19 : decode cX10_isWord 19 = .ok (.aload_n 0, 1) := by decide +kernel
theorem dX10_isWord_20 : decode cX10_isWord 20 = .ok (.getfield 80, 3) := by decide +kernel
theorem dX10_isWord_23 : decode cX10_isWord 23 = .ok (.isub, 1) := by decide +kernel
theorem dX10_isWord_24 : decode cX10_isWord 24 = .ok (.aload_n 1, 1) := by decide +kernel
theorem dX10_isWord_25 : decode cX10_isWord 25 = .ok (.invokevirtual 104, 3) := by decide +kernel
theorem dX10_isWord_28 : decode cX10_isWord 28 = .ok (.if_icmp .eq 5, 3) := by decide +kernel
theorem dX10_isWord_31 : decode cX10_isWord 31 = .ok (.iconst 0, 1) := by decide +kernel
theorem dX10_isWord_32 : decode cX10_isWord 32 = .ok (.ireturn, 1) := by decide +kernel
theorem dX10_isWord_33 : decode cX10_isWord 33 = .ok (.iconst 0, 1) := by decide +kernel
theorem dX10_isWord_34 : decode cX10_isWord 34 = .ok (.istore_n 2, 1) := by decide +kernel
theorem dX10_isWord_35 : decode cX10_isWord 35 = .ok (.iload_n 2, 1) := by decide +kernel
theorem dX10_isWord_36 : decode cX10_isWord 36 = .ok (.aload_n 1, 1) := by decide +kernel
theorem dX10_isWord_37 : decode cX10_isWord 37 = .ok (.invokevirtual 104, 3) := by decide +kernel
theorem dX10_isWord_40 : decode cX10_isWord 40 = .ok (.if_icmp .ge 30, 3) := by decide +kernel
theorem dX10_isWord_43 : decode cX10_isWord 43 = .ok (.aload_n 0, 1) := by decide +kernel
theorem dX10_isWord_44 : decode cX10_isWord 44 = .ok (.getfield 9, 3) := by decide +kernel
theorem dX10_isWord_47 : decode cX10_isWord 47 = .ok (.aload_n 0, 1) := by decide +kernel
theorem dX10_isWord_48 : decode cX10_isWord 48 = .ok (.getfield 80, 3) := by decide +kernel
theorem dX10_isWord_51 : decode cX10_isWord 51 = .ok (.iload_n 2, 1) := by decide +kernel
theorem dX10_isWord_52 : decode cX10_isWord 52 = .ok (.iadd, 1) := by decide +kernel
theorem dX10_isWord_53 : decode cX10_isWord 53 = .ok (.iaload, 1) := by decide +kernel
theorem dX10_isWord_54 : decode cX10_isWord 54 = .ok (.aload_n 1, 1) := by decide +kernel
theorem dX10_isWord_55 : decode cX10_isWord 55 = .ok (.iload_n 2, 1) := by decide +kernel
theorem dX10_isWord_56 : decode cX10_isWord 56 = .ok (.invokevirtual 110, 3) := by decide +kernel
theorem dX10_isWord_59 : decode cX10_isWord 59 = .ok (.if_icmp .eq 5, 3) := by decide +kernel
theorem dX10_isWord_62 : decode cX10_isWord 62 = .ok (.iconst 0, 1) := by decide +kernel
theorem dX10_isWord_63 : decode cX10_isWord 63 = .ok (.ireturn, 1) := by decide +kernel
theorem dX10_isWord_64 : decode cX10_isWord 64 = .ok (.iinc 2 1, 3) := by decide +kernel
theorem dX10_isWord_67 : decode cX10_isWord 67 = .ok (.goto (-32), 3) := by decide +kernel
theorem dX10_isWord_70 : decode cX10_isWord 70 = .ok (.iconst 1, 1) := by decide +kernel
theorem dX10_isWord_71 : decode cX10_isWord 71 = .ok (.ireturn, 1) := by decide +kernel
theorem dX10_takes_0 : decode cX10_takes 0 = .ok (.aload_n 0, 1) := by decide +kernel
theorem dX10_takes_1 : decode cX10_takes 1 = .ok (.aload_n 1, 1) := by decide +kernel
theorem dX10_takes_2 : decode cX10_takes 2 = .ok (.invokevirtual 114, 3) := by decide +kernel
theorem dX10_takes_5 : decode cX10_takes 5 = .ok (.istore_n 2, 1) := by decide +kernel
theorem dX10_takes_6 : decode cX10_takes 6 = .ok (.iload_n 2, 1) := by decide +kernel
theorem dX10_takes_7 : decode cX10_takes 7 = .ok (.ifCond .eq 7, 3) := by decide +kernel
theorem dX10_takes_10 : decode cX10_takes 10 = .ok (.aload_n 0, 1) := by decide +kernel
theorem dX10_takes_11 : decode cX10_takes 11 = .ok (.invokevirtual 118, 3) := by decide +kernel
theorem dX10_takes_14 : decode cX10_takes 14 = .ok (.iload_n 2, 1) := by decide +kernel
theorem dX10_takes_15 : decode cX10_takes 15 = .ok (.ireturn, 1) := by decide +kernel
theorem dX10_keyword_0 : decode cX10_keyword 0 = .ok (.aload_n 0, 1) := by decide +kernel
theorem dX10_keyword_1 : decode cX10_keyword 1 = .ok (.aload_n 1, 1) := by decide +kernel
theorem dX10_keyword_2 : decode cX10_keyword 2 = .ok (.invokevirtual 121, 3) := by decide +kernel
theorem dX10_keyword_5 : decode cX10_keyword 5 = .ok (.ifCond .ne 8, 3) := by decide +kernel
theorem dX10_keyword_8 : decode cX10_keyword 8 = .ok (.aload_n 0, 1) := by decide +kernel
theorem dX10_keyword_9 : decode cX10_keyword 9 = .ok (.iconst 1, 1) := by decide +kernel
theorem dX10_keyword_10 : decode cX10_keyword 10 = .ok (.invokevirtual 124, 3) := by decide +kernel
theorem dX10_keyword_13 : decode cX10_keyword 13 = .ok (.return_, 1) := by decide +kernel
theorem dX10_look_0 : decode cX10_look 0 = .ok (.aload_n 0, 1) := by decide +kernel
theorem dX10_look_1 : decode cX10_look 1 = .ok (.getfield 74, 3) := by decide +kernel
theorem dX10_look_4 : decode cX10_look 4 = .ok (.ifCond .le 5, 3) := by decide +kernel
theorem dX10_look_7 : decode cX10_look 7 = .ok (.iload_n 1, 1) := by decide +kernel
theorem dX10_look_8 : decode cX10_look 8 = .ok (.ireturn, 1) := by decide +kernel
theorem dX10_look_9 : decode cX10_look 9 = .ok (.aload_n 0, 1) := by decide +kernel
theorem dX10_look_10 : decode cX10_look 10 = .ok (.getfield 90, 3) := by decide +kernel
theorem dX10_look_13 : decode cX10_look 13 = .ok (.iconst 3, 1) := by decide +kernel
theorem dX10_look_14 : decode cX10_look 14 = .ok (.if_icmp .eq 11, 3) := by decide +kernel
theorem dX10_look_17 : decode cX10_look 17 = .ok (.aload_n 0, 1) := by decide +kernel
theorem dX10_look_18 : decode cX10_look 18 = .ok (.iconst 1, 1) := by decide +kernel
theorem dX10_look_19 : decode cX10_look 19 = .ok (.invokevirtual 124, 3) := by decide +kernel
theorem dX10_look_22 : decode cX10_look 22 = .ok (.goto 20, 3) := by decide +kernel
theorem dX10_look_25 : decode cX10_look 25 = .ok (.aload_n 0, 1) := by decide +kernel
theorem dX10_look_26 : decode cX10_look 26 = .ok (.getfield 97, 3) := by decide +kernel
theorem dX10_look_29 : decode cX10_look 29 = .ok (.iload_n 1, 1) := by decide +kernel
theorem dX10_look_30 : decode cX10_look 30 = .ok (.iload_n 2, 1) := by decide +kernel
theorem dX10_look_31 : decode cX10_look 31 = .ok (.invokestatic 93, 3) := by decide +kernel
theorem dX10_look_34 : decode cX10_look 34 = .ok (.ifCond .ne 8, 3) := by decide +kernel
theorem dX10_look_37 : decode cX10_look 37 = .ok (.aload_n 0, 1) := by decide +kernel
theorem dX10_look_38 : decode cX10_look 38 = .ok (.iconst 2, 1) := by decide +kernel
theorem dX10_look_39 : decode cX10_look 39 = .ok (.invokevirtual 124, 3) := by decide +kernel
theorem dX10_look_42 : decode cX10_look 42 = .ok (.aload_n 0, 1) := by decide +kernel
theorem dX10_look_43 : decode cX10_look 43 = .ok (.getfield 74, 3) := by decide +kernel
theorem dX10_look_46 : decode cX10_look 46 = .ok (.ifCond .le 7, 3) := by decide +kernel
theorem dX10_look_49 : decode cX10_look 49 = .ok (.iload_n 1, 1) := by decide +kernel
theorem dX10_look_50 : decode cX10_look 50 = .ok (.goto 7, 3) := by decide +kernel
theorem dX10_look_53 : decode cX10_look 53 = .ok (.aload_n 0, 1) := by decide +kernel
theorem dX10_look_54 : decode cX10_look 54 = .ok (.getfield 97, 3) := by decide +kernel
theorem dX10_look_57 : decode cX10_look 57 = .ok (.ireturn, 1) := by decide +kernel
theorem dX10_number_0 : decode cX10_number 0 = .ok (.aload_n 0, 1) := by decide +kernel
theorem dX10_number_1 : decode cX10_number 1 = .ok (.iload_n 1, 1) := by decide +kernel
theorem dX10_number_2 : decode cX10_number 2 = .ok (.iload_n 2, 1) := by decide +kernel
theorem dX10_number_3 : decode cX10_number 3 = .ok (.invokevirtual 127, 3) := by decide +kernel
theorem dX10_number_6 : decode cX10_number 6 = .ok (.istore_n 3, 1) := by decide +kernel
theorem dX10_number_7 : decode cX10_number 7 = .ok (.aload_n 0, 1) := by decide +kernel
theorem dX10_number_8 : decode cX10_number 8 = .ok (.invokevirtual 118, 3) := by decide +kernel
theorem dX10_number_11 : decode cX10_number 11 = .ok (.iload_n 3, 1) := by decide +kernel
theorem dX10_number_12 : decode cX10_number 12 = .ok (.ireturn, 1) := by decide +kernel
theorem dX10_gauge_0 : decode cX10_gauge 0 = .ok (.aload_n 0, 1) := by decide +kernel
theorem dX10_gauge_1 : decode cX10_gauge 1 = .ok (.aload_n 1, 1) := by decide +kernel
theorem dX10_gauge_2 : decode cX10_gauge 2 = .ok (.invokevirtual 131, 3) := by decide +kernel
theorem dX10_gauge_5 : decode cX10_gauge 5 = .ok (.aload_n 0, 1) := by decide +kernel
theorem dX10_gauge_6 : decode cX10_gauge 6 = .ok (.iload_n 2, 1) := by decide +kernel
theorem dX10_gauge_7 : decode cX10_gauge 7 = .ok (.iload_n 3, 1) := by decide +kernel
theorem dX10_gauge_8 : decode cX10_gauge 8 = .ok (.invokevirtual 135, 3) := by decide +kernel
theorem dX10_gauge_11 : decode cX10_gauge 11 = .ok (.ireturn, 1) := by decide +kernel
theorem dX10_signed_0 : decode cX10_signed 0 = .ok (.aload_n 0, 1) := by decide +kernel
theorem dX10_signed_1 : decode cX10_signed 1 = .ok (.bipush 45, 2) := by decide +kernel
theorem dX10_signed_3 : decode cX10_signed 3 = .ok (.invokevirtual 138, 3) := by decide +kernel
theorem dX10_signed_6 : decode cX10_signed 6 = .ok (.istore_n 3, 1) := by decide +kernel
theorem dX10_signed_7 : decode cX10_signed 7 = .ok (.iload_n 3, 1) := by decide +kernel
theorem dX10_signed_8 : decode cX10_signed 8 = .ok (.ifCond .eq 7, 3) := by decide +kernel
theorem dX10_signed_11 : decode cX10_signed 11 = .ok (.aload_n 0, 1) := by decide +kernel
theorem dX10_signed_12 : decode cX10_signed 12 = .ok (.invokevirtual 118, 3) := by decide +kernel
theorem dX10_signed_15 : decode cX10_signed 15 = .ok (.iload_n 3, 1) := by decide +kernel
theorem dX10_signed_16 : decode cX10_signed 16 = .ok (.ifCond .eq 15, 3) := by decide +kernel
theorem dX10_signed_19 : decode cX10_signed 19 = .ok (.aload_n 0, 1) := by decide +kernel
theorem dX10_signed_20 : decode cX10_signed 20 = .ok (.iload_n 2, 1) := by decide +kernel
theorem dX10_signed_21 : decode cX10_signed 21 = .ok (.ineg, 1) := by decide +kernel
theorem dX10_signed_22 : decode cX10_signed 22 = .ok (.iload_n 1, 1) := by decide +kernel
theorem dX10_signed_23 : decode cX10_signed 23 = .ok (.ineg, 1) := by decide +kernel
theorem dX10_signed_24 : decode cX10_signed 24 = .ok (.invokevirtual 135, 3) := by decide +kernel
theorem dX10_signed_27 : decode cX10_signed 27 = .ok (.ineg, 1) := by decide +kernel
theorem dX10_signed_28 : decode cX10_signed 28 = .ok (.goto 9, 3) := by decide +kernel
theorem dX10_signed_31 : decode cX10_signed 31 = .ok (.aload_n 0, 1) := by decide +kernel
theorem dX10_signed_32 : decode cX10_signed 32 = .ok (.iload_n 1, 1) := by decide +kernel
theorem dX10_signed_33 : decode cX10_signed 33 = .ok (.iload_n 2, 1) := by decide +kernel
theorem dX10_signed_34 : decode cX10_signed 34 = .ok (.invokevirtual 135, 3) := by decide +kernel
theorem dX10_signed_37 : decode cX10_signed 37 = .ok (.ireturn, 1) := by decide +kernel
theorem dX10_readFirst_0 : decode cX10_readFirst 0 = .ok (.aload_n 0, 1) := by decide +kernel
theorem dX10_readFirst_1 : decode cX10_readFirst 1 = .ok (.ldc 141, 2) := by decide +kernel
theorem dX10_readFirst_3 : decode cX10_readFirst 3 = .ok (.invokevirtual 131, 3) := by decide +kernel
theorem dX10_readFirst_6 : decode cX10_readFirst 6 = .ok (.aload_n 0, 1) := by decide +kernel
theorem dX10_readFirst_7 : decode cX10_readFirst 7 = .ok (.getfield 20, 3) := by decide +kernel
theorem dX10_readFirst_10 : decode cX10_readFirst 10 = .ok (.iconst 0, 1) := by decide +kernel
theorem dX10_readFirst_11 : decode cX10_readFirst 11 = .ok (.aload_n 0, 1) := by decide +kernel
theorem dX10_readFirst_12 : decode cX10_readFirst 12 = .ok (.ldc 143, 2) := by decide +kernel
theorem dX10_readFirst_14 : decode cX10_readFirst 14 = .ok (.iconst 1, 1) := by decide +kernel
theorem dX10_readFirst_15 : decode cX10_readFirst 15 = .ok (.bipush 16, 2) := by decide +kernel
theorem dX10_readFirst_17 : decode cX10_readFirst 17 = .ok (.invokevirtual 145, 3) := by decide +kernel
theorem dX10_readFirst_20 : decode cX10_readFirst 20 = .ok (.iastore, 1) := by decide +kernel
theorem dX10_readFirst_21 : decode cX10_readFirst 21 = .ok (.aload_n 0, 1) := by decide +kernel
theorem dX10_readFirst_22 : decode cX10_readFirst 22 = .ok (.getfield 20, 3) := by decide +kernel
theorem dX10_readFirst_25 : decode cX10_readFirst 25 = .ok (.iconst 1, 1) := by decide +kernel
theorem dX10_readFirst_26 : decode cX10_readFirst 26 = .ok (.aload_n 0, 1) := by decide +kernel
theorem dX10_readFirst_27 : decode cX10_readFirst 27 = .ok (.ldc 149, 2) := by decide +kernel
theorem dX10_readFirst_29 : decode cX10_readFirst 29 = .ok (.iconst 1, 1) := by decide +kernel
theorem dX10_readFirst_30 : decode cX10_readFirst 30 = .ok (.bipush 10, 2) := by decide +kernel
theorem dX10_readFirst_32 : decode cX10_readFirst 32 = .ok (.invokevirtual 145, 3) := by decide +kernel
theorem dX10_readFirst_35 : decode cX10_readFirst 35 = .ok (.iastore, 1) := by decide +kernel
theorem dX10_readFirst_36 : decode cX10_readFirst 36 = .ok (.aload_n 0, 1) := by decide +kernel
theorem dX10_readFirst_37 : decode cX10_readFirst 37 = .ok (.getfield 20, 3) := by decide +kernel
theorem dX10_readFirst_40 : decode cX10_readFirst 40 = .ok (.iconst 2, 1) := by decide +kernel
theorem dX10_readFirst_41 : decode cX10_readFirst 41 = .ok (.aload_n 0, 1) := by decide +kernel
theorem dX10_readFirst_42 : decode cX10_readFirst 42 = .ok (.ldc 151, 2) := by decide +kernel
theorem dX10_readFirst_44 : decode cX10_readFirst 44 = .ok (.iconst 0, 1) := by decide +kernel
theorem dX10_readFirst_45 : decode cX10_readFirst 45 = .ok (.sipush 9999, 3) := by decide +kernel
theorem dX10_readFirst_48 : decode cX10_readFirst 48 = .ok (.invokevirtual 145, 3) := by decide +kernel
theorem dX10_readFirst_51 : decode cX10_readFirst 51 = .ok (.iastore, 1) := by decide +kernel
theorem dX10_readFirst_52 : decode cX10_readFirst 52 = .ok (.aload_n 0, 1) := by decide +kernel
theorem dX10_readFirst_53 : decode cX10_readFirst 53 = .ok (.getfield 20, 3) := by decide +kernel
theorem dX10_readFirst_56 : decode cX10_readFirst 56 = .ok (.iconst 3, 1) := by decide +kernel
theorem dX10_readFirst_57 : decode cX10_readFirst 57 = .ok (.aload_n 0, 1) := by decide +kernel
theorem dX10_readFirst_58 : decode cX10_readFirst 58 = .ok (.ldc 153, 2) := by decide +kernel
theorem dX10_readFirst_60 : decode cX10_readFirst 60 = .ok (.invokevirtual 121, 3) := by decide +kernel
theorem dX10_readFirst_63 : decode cX10_readFirst 63 = .ok (.ifCond .eq 19, 3) := by decide +kernel
theorem dX10_readFirst_66 : decode cX10_readFirst 66 = .ok (.aload_n 0, 1) := by decide +kernel
theorem dX10_readFirst_67 : decode cX10_readFirst 67 = .ok (.iconst 0, 1) := by decide +kernel
theorem dX10_readFirst_68 : decode cX10_readFirst 68 = .ok (.aload_n 0, 1) := by decide +kernel
theorem dX10_readFirst_69 : decode cX10_readFirst 69 = .ok (.getfield 20, 3) := by decide +kernel
theorem dX10_readFirst_72 : decode cX10_readFirst 72 = .ok (.iconst 0, 1) := by decide +kernel
theorem dX10_readFirst_73 : decode cX10_readFirst 73 = .ok (.iaload, 1) := by decide +kernel
theorem dX10_readFirst_74 : decode cX10_readFirst 74 = .ok (.iconst 1, 1) := by decide +kernel
theorem dX10_readFirst_75 : decode cX10_readFirst 75 = .ok (.isub, 1) := by decide +kernel
theorem dX10_readFirst_76 : decode cX10_readFirst 76 = .ok (.invokevirtual 135, 3) := by decide +kernel
theorem dX10_readFirst_79 : decode cX10_readFirst 79 = .ok (.goto 4, 3) := by decide +kernel
theorem dX10_readFirst_82 : decode cX10_readFirst 82 = .ok (.iconst (-1), 1) := by decide +kernel
theorem dX10_readFirst_83 : decode cX10_readFirst 83 = .ok (.iastore, 1) := by decide +kernel
theorem dX10_readFirst_84 : decode cX10_readFirst 84 = .ok (.return_, 1) := by decide +kernel
theorem dX10_readTrain_0 : decode cX10_readTrain 0 = .ok (.aload_n 0, 1) := by decide +kernel
theorem dX10_readTrain_1 : decode cX10_readTrain 1 = .ok (.getfield 20, 3) := by decide +kernel
theorem dX10_readTrain_4 : decode cX10_readTrain 4 = .ok (.iconst 4, 1) := by decide +kernel
theorem dX10_readTrain_5 : decode cX10_readTrain 5 = .ok (.iaload, 1) := by decide +kernel
theorem dX10_readTrain_6 : decode cX10_readTrain 6 = .ok (.istore_n 1, 1) := by decide +kernel
theorem dX10_readTrain_7 : decode cX10_readTrain 7 = .ok (.iload_n 1, 1) := by decide +kernel
theorem dX10_readTrain_8 : decode cX10_readTrain 8 = .ok (.iconst 4, 1) := by decide +kernel
theorem dX10_readTrain_9 : decode cX10_readTrain 9 = .ok (.if_icmp .ne 8, 3) := by decide +kernel
theorem dX10_readTrain_12 : decode cX10_readTrain 12 = .ok (.aload_n 0, 1) := by decide +kernel
theorem dX10_readTrain_13 : decode cX10_readTrain 13 = .ok (.iconst 4, 1) := by decide +kernel
theorem dX10_readTrain_14 : decode cX10_readTrain 14 = .ok (.invokevirtual 124, 3) := by decide +kernel
theorem dX10_readTrain_17 : decode cX10_readTrain 17 = .ok (.aload_n 0, 1) := by decide +kernel
theorem dX10_readTrain_18 : decode cX10_readTrain 18 = .ok (.invokevirtual 118, 3) := by decide +kernel
theorem dX10_readTrain_21 : decode cX10_readTrain 21 = .ok (.aload_n 0, 1) := by decide +kernel
theorem dX10_readTrain_22 : decode cX10_readTrain 22 = .ok (.getfield 74, 3) := by decide +kernel
theorem dX10_readTrain_25 : decode cX10_readTrain 25 = .ok (.ifCond .le 4, 3) := by decide +kernel
theorem dX10_readTrain_28 : decode cX10_readTrain 28 = .ok (.return_, 1) := by decide +kernel
theorem dX10_readTrain_29 : decode cX10_readTrain 29 = .ok (.aload_n 0, 1) := by decide +kernel
theorem dX10_readTrain_30 : decode cX10_readTrain 30 = .ok (.getfield 26, 3) := by decide +kernel
theorem dX10_readTrain_33 : decode cX10_readTrain 33 = .ok (.bipush 14, 2) := by decide +kernel
theorem dX10_readTrain_35 : decode cX10_readTrain 35 = .ok (.iload_n 1, 1) := by decide +kernel
theorem dX10_readTrain_36 : decode cX10_readTrain 36 = .ok (.iadd, 1) := by decide +kernel
theorem dX10_readTrain_37 : decode cX10_readTrain 37 = .ok (.aload_n 0, 1) := by decide +kernel
theorem dX10_readTrain_38 : decode cX10_readTrain 38 = .ok (.iconst 0, 1) := by decide +kernel
theorem dX10_readTrain_39 : decode cX10_readTrain 39 = .ok (.aload_n 0, 1) := by decide +kernel
theorem dX10_readTrain_40 : decode cX10_readTrain 40 = .ok (.getfield 20, 3) := by decide +kernel
theorem dX10_readTrain_43 : decode cX10_readTrain 43 = .ok (.iconst 0, 1) := by decide +kernel
theorem dX10_readTrain_44 : decode cX10_readTrain 44 = .ok (.iaload, 1) := by decide +kernel
theorem dX10_readTrain_45 : decode cX10_readTrain 45 = .ok (.iconst 1, 1) := by decide +kernel
theorem dX10_readTrain_46 : decode cX10_readTrain 46 = .ok (.isub, 1) := by decide +kernel
theorem dX10_readTrain_47 : decode cX10_readTrain 47 = .ok (.invokevirtual 135, 3) := by decide +kernel
theorem dX10_readTrain_50 : decode cX10_readTrain 50 = .ok (.iastore, 1) := by decide +kernel
theorem dX10_readTrain_51 : decode cX10_readTrain 51 = .ok (.aload_n 0, 1) := by decide +kernel
theorem dX10_readTrain_52 : decode cX10_readTrain 52 = .ok (.getfield 26, 3) := by decide +kernel
theorem dX10_readTrain_55 : decode cX10_readTrain 55 = .ok (.bipush 18, 2) := by decide +kernel
theorem dX10_readTrain_57 : decode cX10_readTrain 57 = .ok (.iload_n 1, 1) := by decide +kernel
theorem dX10_readTrain_58 : decode cX10_readTrain 58 = .ok (.iadd, 1) := by decide +kernel
theorem dX10_readTrain_59 : decode cX10_readTrain 59 = .ok (.aload_n 0, 1) := by decide +kernel
theorem dX10_readTrain_60 : decode cX10_readTrain 60 = .ok (.iconst 0, 1) := by decide +kernel
theorem dX10_readTrain_61 : decode cX10_readTrain 61 = .ok (.aload_n 0, 1) := by decide +kernel
theorem dX10_readTrain_62 : decode cX10_readTrain 62 = .ok (.getfield 20, 3) := by decide +kernel
theorem dX10_readTrain_65 : decode cX10_readTrain 65 = .ok (.iconst 1, 1) := by decide +kernel
theorem dX10_readTrain_66 : decode cX10_readTrain 66 = .ok (.iaload, 1) := by decide +kernel
theorem dX10_readTrain_67 : decode cX10_readTrain 67 = .ok (.iconst 1, 1) := by decide +kernel
theorem dX10_readTrain_68 : decode cX10_readTrain 68 = .ok (.isub, 1) := by decide +kernel
theorem dX10_readTrain_69 : decode cX10_readTrain 69 = .ok (.invokevirtual 135, 3) := by decide +kernel
theorem dX10_readTrain_72 : decode cX10_readTrain 72 = .ok (.iastore, 1) := by decide +kernel
theorem dX10_readTrain_73 : decode cX10_readTrain 73 = .ok (.aload_n 0, 1) := by decide +kernel
theorem dX10_readTrain_74 : decode cX10_readTrain 74 = .ok (.getfield 26, 3) := by decide +kernel
theorem dX10_readTrain_77 : decode cX10_readTrain 77 = .ok (.bipush 6, 2) := by decide +kernel
theorem dX10_readTrain_79 : decode cX10_readTrain 79 = .ok (.iload_n 1, 1) := by decide +kernel
theorem dX10_readTrain_80 : decode cX10_readTrain 80 = .ok (.iadd, 1) := by decide +kernel
theorem dX10_readTrain_81 : decode cX10_readTrain 81 = .ok (.aload_n 0, 1) := by decide +kernel
theorem dX10_readTrain_82 : decode cX10_readTrain 82 = .ok (.iconst 1, 1) := by decide +kernel
theorem dX10_readTrain_83 : decode cX10_readTrain 83 = .ok (.sipush 999, 3) := by decide +kernel
theorem dX10_readTrain_86 : decode cX10_readTrain 86 = .ok (.invokevirtual 135, 3) := by decide +kernel
theorem dX10_readTrain_89 : decode cX10_readTrain 89 = .ok (.iastore, 1) := by decide +kernel
theorem dX10_readTrain_90 : decode cX10_readTrain 90 = .ok (.aload_n 0, 1) := by decide +kernel
theorem dX10_readTrain_91 : decode cX10_readTrain 91 = .ok (.getfield 20, 3) := by decide +kernel
theorem dX10_readTrain_94 : decode cX10_readTrain 94 = .ok (.iconst 5, 1) := by decide +kernel
theorem dX10_readTrain_95 : decode cX10_readTrain 95 = .ok (.iload_n 1, 1) := by decide +kernel
theorem dX10_readTrain_96 : decode cX10_readTrain 96 = .ok (.iadd, 1) := by decide +kernel
theorem dX10_readTrain_97 : decode cX10_readTrain 97 = .ok (.aload_n 0, 1) := by decide +kernel
theorem dX10_readTrain_98 : decode cX10_readTrain 98 = .ok (.bipush 50, 2) := by decide +kernel
theorem dX10_readTrain_100 : decode cX10_readTrain 100 = .ok (.sipush 9999, 3) := by decide +kernel
theorem dX10_readTrain_103 : decode cX10_readTrain 103 = .ok (.invokevirtual 135, 3) := by decide +kernel
theorem dX10_readTrain_106 : decode cX10_readTrain 106 = .ok (.iastore, 1) := by decide +kernel
theorem dX10_readTrain_107 : decode cX10_readTrain 107 = .ok (.aload_n 0, 1) := by decide +kernel
theorem dX10_readTrain_108 : decode cX10_readTrain 108 = .ok (.getfield 20, 3) := by decide +kernel
theorem dX10_readTrain_111 : decode cX10_readTrain 111 = .ok (.bipush 9, 2) := by decide +kernel
theorem dX10_readTrain_113 : decode cX10_readTrain 113 = .ok (.iload_n 1, 1) := by decide +kernel
theorem dX10_readTrain_114 : decode cX10_readTrain 114 = .ok (.iadd, 1) := by decide +kernel
theorem dX10_readTrain_115 : decode cX10_readTrain 115 = .ok (.aload_n 0, 1) := by decide +kernel
theorem dX10_readTrain_116 : decode cX10_readTrain 116 = .ok (.iconst 2, 1) := by decide +kernel
theorem dX10_readTrain_117 : decode cX10_readTrain 117 = .ok (.bipush 99, 2) := by decide +kernel
theorem dX10_readTrain_119 : decode cX10_readTrain 119 = .ok (.invokevirtual 135, 3) := by decide +kernel
theorem dX10_readTrain_122 : decode cX10_readTrain 122 = .ok (.iastore, 1) := by decide +kernel
theorem dX10_readTrain_123 : decode cX10_readTrain 123 = .ok (.aload_n 0, 1) := by decide +kernel
theorem dX10_readTrain_124 : decode cX10_readTrain 124 = .ok (.getfield 26, 3) := by decide +kernel
theorem dX10_readTrain_127 : decode cX10_readTrain 127 = .ok (.bipush 10, 2) := by decide +kernel
theorem dX10_readTrain_129 : decode cX10_readTrain 129 = .ok (.iload_n 1, 1) := by decide +kernel
theorem dX10_readTrain_130 : decode cX10_readTrain 130 = .ok (.iadd, 1) := by decide +kernel
theorem dX10_readTrain_131 : decode cX10_readTrain 131 = .ok (.aload_n 0, 1) := by decide +kernel
theorem dX10_readTrain_132 : decode cX10_readTrain 132 = .ok (.iconst 0, 1) := by decide +kernel
theorem dX10_readTrain_133 : decode cX10_readTrain 133 = .ok (.sipush 359, 3) := by decide +kernel
theorem dX10_readTrain_136 : decode cX10_readTrain 136 = .ok (.invokevirtual 135, 3) := by decide +kernel
theorem dX10_readTrain_139 : decode cX10_readTrain 139 = .ok (.iastore, 1) := by decide +kernel
theorem dX10_readTrain_140 : decode cX10_readTrain 140 = .ok (.aload_n 0, 1) := by decide +kernel
theorem dX10_readTrain_141 : decode cX10_readTrain 141 = .ok (.getfield 20, 3) := by decide +kernel
theorem dX10_readTrain_144 : decode cX10_readTrain 144 = .ok (.bipush 13, 2) := by decide +kernel
theorem dX10_readTrain_146 : decode cX10_readTrain 146 = .ok (.iload_n 1, 1) := by decide +kernel
theorem dX10_readTrain_147 : decode cX10_readTrain 147 = .ok (.iadd, 1) := by decide +kernel
theorem dX10_readTrain_148 : decode cX10_readTrain 148 = .ok (.aload_n 0, 1) := by decide +kernel
theorem dX10_readTrain_149 : decode cX10_readTrain 149 = .ok (.iconst 0, 1) := by decide +kernel
theorem dX10_readTrain_150 : decode cX10_readTrain 150 = .ok (.sipush 9999, 3) := by decide +kernel
theorem dX10_readTrain_153 : decode cX10_readTrain 153 = .ok (.invokevirtual 135, 3) := by decide +kernel
theorem dX10_readTrain_156 : decode cX10_readTrain 156 = .ok (.iastore, 1) := by decide +kernel
theorem dX10_readTrain_157 : decode cX10_readTrain 157 = .ok (.aload_n 0, 1) := by decide +kernel
theorem dX10_readTrain_158 : decode cX10_readTrain 158 = .ok (.getfield 20, 3) := by decide +kernel
theorem dX10_readTrain_161 : decode cX10_readTrain 161 = .ok (.bipush 17, 2) := by decide +kernel
theorem dX10_readTrain_163 : decode cX10_readTrain 163 = .ok (.iload_n 1, 1) := by decide +kernel
theorem dX10_readTrain_164 : decode cX10_readTrain 164 = .ok (.iadd, 1) := by decide +kernel
theorem dX10_readTrain_165 : decode cX10_readTrain 165 = .ok (.aload_n 0, 1) := by decide +kernel
theorem dX10_readTrain_166 : decode cX10_readTrain 166 = .ok (.aload_n 0, 1) := by decide +kernel
theorem dX10_readTrain_167 : decode cX10_readTrain 167 = .ok (.getfield 20, 3) := by decide +kernel
theorem dX10_readTrain_170 : decode cX10_readTrain 170 = .ok (.bipush 13, 2) := by decide +kernel
theorem dX10_readTrain_172 : decode cX10_readTrain 172 = .ok (.iload_n 1, 1) := by decide +kernel
theorem dX10_readTrain_173 : decode cX10_readTrain 173 = .ok (.iadd, 1) := by decide +kernel
theorem dX10_readTrain_174 : decode cX10_readTrain 174 = .ok (.iaload, 1) := by decide +kernel
theorem dX10_readTrain_175 : decode cX10_readTrain 175 = .ok (.sipush 9999, 3) := by decide +kernel
theorem dX10_readTrain_178 : decode cX10_readTrain 178 = .ok (.invokevirtual 135, 3) := by decide +kernel
theorem dX10_readTrain_181 : decode cX10_readTrain 181 = .ok (.iastore, 1) := by decide +kernel
theorem dX10_readTrain_182 : decode cX10_readTrain 182 = .ok (.aload_n 0, 1) := by decide +kernel
theorem dX10_readTrain_183 : decode cX10_readTrain 183 = .ok (.iload_n 1, 1) := by decide +kernel
theorem dX10_readTrain_184 : decode cX10_readTrain 184 = .ok (.invokevirtual 155, 3) := by decide +kernel
theorem dX10_readTrain_187 : decode cX10_readTrain 187 = .ok (.aload_n 0, 1) := by decide +kernel
theorem dX10_readTrain_188 : decode cX10_readTrain 188 = .ok (.getfield 26, 3) := by decide +kernel
theorem dX10_readTrain_191 : decode cX10_readTrain 191 = .ok (.iconst 2, 1) := by decide +kernel
theorem dX10_readTrain_192 : decode cX10_readTrain 192 = .ok (.iload_n 1, 1) := by decide +kernel
theorem dX10_readTrain_193 : decode cX10_readTrain 193 = .ok (.iadd, 1) := by decide +kernel
theorem dX10_readTrain_194 : decode cX10_readTrain 194 = .ok (.iconst 1, 1) := by decide +kernel
theorem dX10_readTrain_195 : decode cX10_readTrain 195 = .ok (.iastore, 1) := by decide +kernel
theorem dX10_readTrain_196 : decode cX10_readTrain 196 = .ok (.aload_n 0, 1) := by decide +kernel
theorem dX10_readTrain_197 : decode cX10_readTrain 197 = .ok (.getfield 20, 3) := by decide +kernel
theorem dX10_readTrain_200 : decode cX10_readTrain 200 = .ok (.iconst 4, 1) := by decide +kernel
theorem dX10_readTrain_201 : decode cX10_readTrain 201 = .ok (.dup2, 1) := by decide +kernel
theorem dX10_readTrain_202 : decode cX10_readTrain 202 = .ok (.iaload, 1) := by decide +kernel
theorem dX10_readTrain_203 : decode cX10_readTrain 203 = .ok (.iconst 1, 1) := by decide +kernel
theorem dX10_readTrain_204 : decode cX10_readTrain 204 = .ok (.iadd, 1) := by decide +kernel
theorem dX10_readTrain_205 : decode cX10_readTrain 205 = .ok (.iastore, 1) := by decide +kernel
theorem dX10_readTrain_206 : decode cX10_readTrain 206 = .ok (.return_, 1) := by decide +kernel
theorem dX10_readSort_0 : decode cX10_readSort 0 = .ok (.aload_n 0, 1) := by decide +kernel
theorem dX10_readSort_1 : decode cX10_readSort 1 = .ok (.getfield 20, 3) := by decide +kernel
theorem dX10_readSort_4 : decode cX10_readSort 4 = .ok (.bipush 21, 2) := by decide +kernel
theorem dX10_readSort_6 : decode cX10_readSort 6 = .ok (.iload_n 1, 1) := by decide +kernel
theorem dX10_readSort_7 : decode cX10_readSort 7 = .ok (.iadd, 1) := by decide +kernel
theorem dX10_readSort_8 : decode cX10_readSort 8 = .ok (.aload_n 0, 1) := by decide +kernel
theorem dX10_readSort_9 : decode cX10_readSort 9 = .ok (.ldc 158, 2) := by decide +kernel
theorem dX10_readSort_11 : decode cX10_readSort 11 = .ok (.invokevirtual 121, 3) := by decide +kernel
theorem dX10_readSort_14 : decode cX10_readSort 14 = .ok (.ifCond .eq 7, 3) := by decide +kernel
theorem dX10_readSort_17 : decode cX10_readSort 17 = .ok (.iconst 1, 1) := by decide +kernel
theorem dX10_readSort_18 : decode cX10_readSort 18 = .ok (.goto 17, 3) := by decide +kernel
theorem dX10_readSort_21 : decode cX10_readSort 21 = .ok (.aload_n 0, 1) := by decide +kernel
theorem dX10_readSort_22 : decode cX10_readSort 22 = .ok (.ldc 160, 2) := by decide +kernel
theorem dX10_readSort_24 : decode cX10_readSort 24 = .ok (.invokevirtual 121, 3) := by decide +kernel
theorem dX10_readSort_27 : decode cX10_readSort 27 = .ok (.ifCond .eq 7, 3) := by decide +kernel
theorem dX10_readSort_30 : decode cX10_readSort 30 = .ok (.iconst 2, 1) := by decide +kernel
theorem dX10_readSort_31 : decode cX10_readSort 31 = .ok (.goto 4, 3) := by decide +kernel
theorem dX10_readSort_34 : decode cX10_readSort 34 = .ok (.iconst 0, 1) := by decide +kernel
theorem dX10_readSort_35 : decode cX10_readSort 35 = .ok (.iastore, 1) := by decide +kernel
theorem dX10_readSort_36 : decode cX10_readSort 36 = .ok (.aload_n 0, 1) := by decide +kernel
theorem dX10_readSort_37 : decode cX10_readSort 37 = .ok (.getfield 20, 3) := by decide +kernel
theorem dX10_readSort_40 : decode cX10_readSort 40 = .ok (.bipush 21, 2) := by decide +kernel
theorem dX10_readSort_42 : decode cX10_readSort 42 = .ok (.iload_n 1, 1) := by decide +kernel
theorem dX10_readSort_43 : decode cX10_readSort 43 = .ok (.iadd, 1) := by decide +kernel
theorem dX10_readSort_44 : decode cX10_readSort 44 = .ok (.iaload, 1) := by decide +kernel
theorem dX10_readSort_45 : decode cX10_readSort 45 = .ok (.ifCond .eq 19, 3) := by decide +kernel
theorem dX10_readSort_48 : decode cX10_readSort 48 = .ok (.aload_n 0, 1) := by decide +kernel
theorem dX10_readSort_49 : decode cX10_readSort 49 = .ok (.getfield 20, 3) := by decide +kernel
theorem dX10_readSort_52 : decode cX10_readSort 52 = .ok (.bipush 25, 2) := by decide +kernel
theorem dX10_readSort_54 : decode cX10_readSort 54 = .ok (.iload_n 1, 1) := by decide +kernel
theorem dX10_readSort_55 : decode cX10_readSort 55 = .ok (.iadd, 1) := by decide +kernel
theorem dX10_readSort_56 : decode cX10_readSort 56 = .ok (.aload_n 0, 1) := by decide +kernel
theorem dX10_readSort_57 : decode cX10_readSort 57 = .ok (.iconst 1, 1) := by decide +kernel
theorem dX10_readSort_58 : decode cX10_readSort 58 = .ok (.bipush 99, 2) := by decide +kernel
theorem dX10_readSort_60 : decode cX10_readSort 60 = .ok (.invokevirtual 135, 3) := by decide +kernel
theorem dX10_readSort_63 : decode cX10_readSort 63 = .ok (.iastore, 1) := by decide +kernel
theorem dX10_readSort_64 : decode cX10_readSort 64 = .ok (.aload_n 0, 1) := by decide +kernel
theorem dX10_readSort_65 : decode cX10_readSort 65 = .ok (.getfield 20, 3) := by decide +kernel
theorem dX10_readSort_68 : decode cX10_readSort 68 = .ok (.bipush 21, 2) := by decide +kernel
theorem dX10_readSort_70 : decode cX10_readSort 70 = .ok (.iload_n 1, 1) := by decide +kernel
theorem dX10_readSort_71 : decode cX10_readSort 71 = .ok (.iadd, 1) := by decide +kernel
theorem dX10_readSort_72 : decode cX10_readSort 72 = .ok (.iaload, 1) := by decide +kernel
theorem dX10_readSort_73 : decode cX10_readSort 73 = .ok (.iconst 1, 1) := by decide +kernel
theorem dX10_readSort_74 : decode cX10_readSort 74 = .ok (.if_icmp .ne 19, 3) := by decide +kernel
theorem dX10_readSort_77 : decode cX10_readSort 77 = .ok (.aload_n 0, 1) := by decide +kernel
theorem dX10_readSort_78 : decode cX10_readSort 78 = .ok (.getfield 20, 3) := by decide +kernel
theorem dX10_readSort_81 : decode cX10_readSort 81 = .ok (.bipush 29, 2) := by decide +kernel
theorem dX10_readSort_83 : decode cX10_readSort 83 = .ok (.iload_n 1, 1) := by decide +kernel
theorem dX10_readSort_84 : decode cX10_readSort 84 = .ok (.iadd, 1) := by decide +kernel
theorem dX10_readSort_85 : decode cX10_readSort 85 = .ok (.aload_n 0, 1) := by decide +kernel
theorem dX10_readSort_86 : decode cX10_readSort 86 = .ok (.iconst 1, 1) := by decide +kernel
theorem dX10_readSort_87 : decode cX10_readSort 87 = .ok (.bipush 99, 2) := by decide +kernel
theorem dX10_readSort_89 : decode cX10_readSort 89 = .ok (.invokevirtual 135, 3) := by decide +kernel
theorem dX10_readSort_92 : decode cX10_readSort 92 = .ok (.iastore, 1) := by decide +kernel
theorem dX10_readSort_93 : decode cX10_readSort 93 = .ok (.return_, 1) := by decide +kernel
theorem dX10_readOnce_0 : decode cX10_readOnce 0 = .ok (.aload_n 0, 1) := by decide +kernel
theorem dX10_readOnce_1 : decode cX10_readOnce 1 = .ok (.iconst 0, 1) := by decide +kernel
theorem dX10_readOnce_2 : decode cX10_readOnce 2 = .ok (.aload_n 0, 1) := by decide +kernel
theorem dX10_readOnce_3 : decode cX10_readOnce 3 = .ok (.getfield 20, 3) := by decide +kernel
