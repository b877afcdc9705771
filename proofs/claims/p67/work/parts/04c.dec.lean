theorem dX9_arrival_9 : decode cX9_arrival 9 = .ok (.aload_n 0, 1) := by decide +kernel
theorem dX9_arrival_10 : decode cX9_arrival 10 = .ok (.iload_n 2, 1) := by decide +kernel
theorem dX9_arrival_11 : decode cX9_arrival 11 = .ok (.iload_n 3, 1) := by decide +kernel
theorem dX9_arrival_12 : decode cX9_arrival 12 = .ok (.invokevirtual 206, 3) := by decide +kernel
theorem dX9_arrival_15 : decode cX9_arrival 15 = .ok (.aload_n 0, 1) := by decide +kernel
theorem dX9_arrival_16 : decode cX9_arrival 16 = .ok (.getfield 72, 3) := by decide +kernel
theorem dX9_arrival_19 : decode cX9_arrival 19 = .ok (.aload_n 0, 1) := by decide +kernel
theorem dX9_arrival_20 : decode cX9_arrival 20 = .ok (.getfield 20, 3) := by decide +kernel
theorem dX9_arrival_23 : decode cX9_arrival 23 = .ok (.iload_n 1, 1) := by decide +kernel
theorem dX9_arrival_24 : decode cX9_arrival 24 = .ok (.iload_n 2, 1) := by decide +kernel
theorem dX9_arrival_25 : decode cX9_arrival 25 = .ok (.iload_n 3, 1) := by decide +kernel
theorem dX9_arrival_26 : decode cX9_arrival 26 = .ok (.invokevirtual 226, 3) := by decide +kernel
theorem dX9_arrival_29 : decode cX9_arrival 29 = .ok (.ireturn, 1) := by decide +kernel
theorem dX9_part_0 : decode cX9_part 0 = .ok (.aload_n 0, 1) := by decide +kernel
theorem dX9_part_1 : decode cX9_part 1 = .ok (.invokevirtual 134, 3) := by decide +kernel
theorem dX9_part_4 : decode cX9_part 4 = .ok (.aload_n 0, 1) := by decide +kernel
theorem dX9_part_5 : decode cX9_part 5 = .ok (.iload_n 1, 1) := by decide +kernel
theorem dX9_part_6 : decode cX9_part 6 = .ok (.invokevirtual 150, 3) := by decide +kernel
theorem dX9_part_9 : decode cX9_part 9 = .ok (.aload_n 0, 1) := by decide +kernel
theorem dX9_part_10 : decode cX9_part 10 = .ok (.iload_n 2, 1) := by decide +kernel
theorem dX9_part_11 : decode cX9_part 11 = .ok (.iload_n 3, 1) := by decide +kernel
theorem dX9_part_12 : decode cX9_part 12 = .ok (.invokevirtual 206, 3) := by decide +kernel
theorem dX9_part_15 : decode cX9_part 15 = .ok (.aload_n 0, 1) := by decide +kernel
theorem dX9_part_16 : decode cX9_part 16 = .ok (.getfield 72, 3) := by decide +kernel
theorem dX9_part_19 : decode cX9_part 19 = .ok (.aload_n 0, 1) := by decide +kernel
theorem dX9_part_20 : decode cX9_part 20 = .ok (.getfield 20, 3) := by decide +kernel
theorem dX9_part_23 : decode cX9_part 23 = .ok (.iload_n 1, 1) := by decide +kernel
theorem dX9_part_24 : decode cX9_part 24 = .ok (.iload_n 2, 1) := by decide +kernel
theorem dX9_part_25 : decode cX9_part 25 = .ok (.iload_n 3, 1) := by decide +kernel
theorem dX9_part_26 : decode cX9_part 26 = .ok (.aload_n 0, 1) := by decide +kernel
theorem dX9_part_27 : decode cX9_part 27 = .ok (.getfield 20, 3) := by decide +kernel
theorem dX9_part_30 : decode cX9_part 30 = .ok (.getfield 125, 3) := by decide +kernel
theorem dX9_part_33 : decode cX9_part 33 = .ok (.invokevirtual 229, 3) := by decide +kernel
theorem dX9_part_36 : decode cX9_part 36 = .ok (.ireturn, 1) := by decide +kernel
theorem dX9_wave_0 : decode cX9_wave 0 = .ok (.aload_n 0, 1) := by decide +kernel
theorem dX9_wave_1 : decode cX9_wave 1 = .ok (.invokevirtual 134, 3) := by decide +kernel
theorem dX9_wave_4 : decode cX9_wave 4 = .ok (.aload_n 0, 1) := by decide +kernel
theorem dX9_wave_5 : decode cX9_wave 5 = .ok (.iload_n 1, 1) := by decide +kernel
theorem dX9_wave_6 : decode cX9_wave 6 = .ok (.iload_n 2, 1) := by decide +kernel
theorem dX9_wave_7 : decode cX9_wave 7 = .ok (.invokevirtual 206, 3) := by decide +kernel
theorem dX9_wave_10 : decode cX9_wave 10 = .ok (.aload_n 0, 1) := by decide +kernel
theorem dX9_wave_11 : decode cX9_wave 11 = .ok (.getfield 72, 3) := by decide +kernel
theorem dX9_wave_14 : decode cX9_wave 14 = .ok (.aload_n 0, 1) := by decide +kernel
theorem dX9_wave_15 : decode cX9_wave 15 = .ok (.getfield 20, 3) := by decide +kernel
theorem dX9_wave_18 : decode cX9_wave 18 = .ok (.iload_n 1, 1) := by decide +kernel
theorem dX9_wave_19 : decode cX9_wave 19 = .ok (.iload_n 2, 1) := by decide +kernel
theorem dX9_wave_20 : decode cX9_wave 20 = .ok (.aload_n 0, 1) := by decide +kernel
theorem dX9_wave_21 : decode cX9_wave 21 = .ok (.getfield 20, 3) := by decide +kernel
theorem dX9_wave_24 : decode cX9_wave 24 = .ok (.getfield 125, 3) := by decide +kernel
theorem dX9_wave_27 : decode cX9_wave 27 = .ok (.invokevirtual 233, 3) := by decide +kernel
theorem dX9_wave_30 : decode cX9_wave 30 = .ok (.ireturn, 1) := by decide +kernel
theorem dX9_waveAt_0 : decode cX9_waveAt 0 = .ok (.aload_n 0, 1) := by decide +kernel
theorem dX9_waveAt_1 : decode cX9_waveAt 1 = .ok (.invokevirtual 134, 3) := by decide +kernel
theorem dX9_waveAt_4 : decode cX9_waveAt 4 = .ok (.aload_n 0, 1) := by decide +kernel
theorem dX9_waveAt_5 : decode cX9_waveAt 5 = .ok (.iload_n 1, 1) := by decide +kernel
theorem dX9_waveAt_6 : decode cX9_waveAt 6 = .ok (.iload_n 2, 1) := by decide +kernel
theorem dX9_waveAt_7 : decode cX9_waveAt 7 = .ok (.invokevirtual 206, 3) := by decide +kernel
theorem dX9_waveAt_10 : decode cX9_waveAt 10 = .ok (.iload_n 3, 1) := by decide +kernel
theorem dX9_waveAt_11 : decode cX9_waveAt 11 = .ok (.iconst 0, 1) := by decide +kernel
theorem dX9_waveAt_12 : decode cX9_waveAt 12 = .ok (.sipush 9999, 3) := by decide +kernel
theorem dX9_waveAt_15 : decode cX9_waveAt 15 = .ok (.invokestatic 153, 3) := by decide +kernel
theorem dX9_waveAt_18 : decode cX9_waveAt 18 = .ok (.aload_n 0, 1) := by decide +kernel
theorem dX9_waveAt_19 : decode cX9_waveAt 19 = .ok (.getfield 72, 3) := by decide +kernel
theorem dX9_waveAt_22 : decode cX9_waveAt 22 = .ok (.aload_n 0, 1) := by decide +kernel
theorem dX9_waveAt_23 : decode cX9_waveAt 23 = .ok (.getfield 20, 3) := by decide +kernel
theorem dX9_waveAt_26 : decode cX9_waveAt 26 = .ok (.iload_n 1, 1) := by decide +kernel
theorem dX9_waveAt_27 : decode cX9_waveAt 27 = .ok (.iload_n 2, 1) := by decide +kernel
theorem dX9_waveAt_28 : decode cX9_waveAt 28 = .ok (.iload_n 3, 1) := by decide +kernel
theorem dX9_waveAt_29 : decode cX9_waveAt 29 = .ok (.invokevirtual 233, 3) := by decide +kernel
theorem dX9_waveAt_32 : decode cX9_waveAt 32 = .ok (.ireturn, 1) := by decide +kernel
theorem dX9_gaugeAt_0 : decode cX9_gaugeAt 0 = .ok (.aload_n 0, 1) := by decide +kernel
theorem dX9_gaugeAt_1 : decode cX9_gaugeAt 1 = .ok (.invokevirtual 134, 3) := by decide +kernel
theorem dX9_gaugeAt_4 : decode cX9_gaugeAt 4 = .ok (.aload_n 0, 1) := by decide +kernel
theorem dX9_gaugeAt_5 : decode cX9_gaugeAt 5 = .ok (.iload_n 1, 1) := by decide +kernel
theorem dX9_gaugeAt_6 : decode cX9_gaugeAt 6 = .ok (.invokevirtual 247, 3) := by decide +kernel
theorem dX9_gaugeAt_9 : decode cX9_gaugeAt 9 = .ok (.iload_n 2, 1) := by decide +kernel
theorem dX9_gaugeAt_10 : decode cX9_gaugeAt 10 = .ok (.iconst 0, 1) := by decide +kernel
theorem dX9_gaugeAt_11 : decode cX9_gaugeAt 11 = .ok (.iconst 1, 1) := by decide +kernel
theorem dX9_gaugeAt_12 : decode cX9_gaugeAt 12 = .ok (.invokestatic 153, 3) := by decide +kernel
theorem dX9_gaugeAt_15 : decode cX9_gaugeAt 15 = .ok (.iload_n 2, 1) := by decide +kernel
theorem dX9_gaugeAt_16 : decode cX9_gaugeAt 16 = .ok (.ifCond .ne 15, 3) := by decide +kernel
theorem dX9_gaugeAt_19 : decode cX9_gaugeAt 19 = .ok (.aload_n 0, 1) := by decide +kernel
theorem dX9_gaugeAt_20 : decode cX9_gaugeAt 20 = .ok (.getfield 72, 3) := by decide +kernel
theorem dX9_gaugeAt_23 : decode cX9_gaugeAt 23 = .ok (.getfield 250, 3) := by decide +kernel
theorem dX9_gaugeAt_26 : decode cX9_gaugeAt 26 = .ok (.iload_n 1, 1) := by decide +kernel
theorem dX9_gaugeAt_27 : decode cX9_gaugeAt 27 = .ok (.iaload, 1) := by decide +kernel
theorem dX9_gaugeAt_28 : decode cX9_gaugeAt 28 = .ok (.goto 12, 3) := by decide +kernel
theorem dX9_gaugeAt_31 : decode cX9_gaugeAt 31 = .ok (.aload_n 0, 1) := by decide +kernel
theorem dX9_gaugeAt_32 : decode cX9_gaugeAt 32 = .ok (.getfield 72, 3) := by decide +kernel
theorem dX9_gaugeAt_35 : decode cX9_gaugeAt 35 = .ok (.getfield 253, 3) := by decide +kernel
theorem dX9_gaugeAt_38 : decode cX9_gaugeAt 38 = .ok (.iload_n 1, 1) := by decide +kernel
theorem dX9_gaugeAt_39 : decode cX9_gaugeAt 39 = .ok (.iaload, 1) := by decide +kernel
theorem dX9_gaugeAt_40 : decode cX9_gaugeAt 40 = .ok (.ireturn, 1) := by decide +kernel
theorem dX9_peak_0 : decode cX9_peak 0 = .ok (.aload_n 0, 1) := by decide +kernel
theorem dX9_peak_1 : decode cX9_peak 1 = .ok (.invokevirtual 134, 3) := by decide +kernel
theorem dX9_peak_4 : decode cX9_peak 4 = .ok (.aload_n 0, 1) := by decide +kernel
theorem dX9_peak_5 : decode cX9_peak 5 = .ok (.iload_n 1, 1) := by decide +kernel
theorem dX9_peak_6 : decode cX9_peak 6 = .ok (.invokevirtual 247, 3) := by decide +kernel
theorem dX9_peak_9 : decode cX9_peak 9 = .ok (.iload_n 2, 1) := by decide +kernel
theorem dX9_peak_10 : decode cX9_peak 10 = .ok (.invokestatic 256, 3) := by decide +kernel
theorem dX9_peak_13 : decode cX9_peak 13 = .ok (.aload_n 0, 1) := by decide +kernel
theorem dX9_peak_14 : decode cX9_peak 14 = .ok (.iload_n 1, 1) := by decide +kernel
theorem dX9_peak_15 : decode cX9_peak 15 = .ok (.iload_n 2, 1) := by decide +kernel
theorem dX9_peak_16 : decode cX9_peak 16 = .ok (.invokevirtual 259, 3) := by decide +kernel
theorem dX9_peak_19 : decode cX9_peak 19 = .ok (.iconst 0, 1) := by decide +kernel
theorem dX9_peak_20 : decode cX9_peak 20 = .ok (.istore_n 3, 1) := by decide +kernel
theorem dX9_peak_21 : decode cX9_peak 21 = .ok (.iconst 0, 1) := by decide +kernel
theorem dX9_peak_22 : decode cX9_peak 22 = .ok (.istore 4, 2) := by decide +kernel
theorem dX9_peak_24 : decode cX9_peak 24 = .ok (.iload 4, 2) := by decide +kernel
theorem dX9_peak_26 : decode cX9_peak 26 = .ok (.iload_n 2, 1) := by decide +kernel
theorem dX9_peak_27 : decode cX9_peak 27 = .ok (.if_icmp .ge 24, 3) := by decide +kernel
theorem dX9_peak_30 : decode cX9_peak 30 = .ok (.iload_n 3, 1) := by decide +kernel
theorem dX9_peak_31 : decode cX9_peak 31 = .ok (.aload_n 0, 1) := by decide +kernel
theorem dX9_peak_32 : decode cX9_peak 32 = .ok (.getfield 60, 3) := by decide +kernel
theorem dX9_peak_35 : decode cX9_peak 35 = .ok (.iload 4, 2) := by decide +kernel
theorem dX9_peak_37 : decode cX9_peak 37 = .ok (.iaload, 1) := by decide +kernel
theorem dX9_peak_38 : decode cX9_peak 38 = .ok (.invokestatic 239, 3) := by decide +kernel
theorem dX9_peak_41 : decode cX9_peak 41 = .ok (.invokestatic 262, 3) := by decide +kernel
theorem dX9_peak_44 : decode cX9_peak 44 = .ok (.istore_n 3, 1) := by decide +kernel
theorem dX9_peak_45 : decode cX9_peak 45 = .ok (.iinc 4 1, 3) := by decide +kernel
theorem dX9_peak_48 : decode cX9_peak 48 = .ok (.goto (-24), 3) := by decide +kernel
theorem dX9_peak_51 : decode cX9_peak 51 = .ok (.iload_n 3, 1) := by decide +kernel
theorem dX9_peak_52 : decode cX9_peak 52 = .ok (.ireturn, 1) := by decide +kernel
theorem dX9_crossings_0 : decode cX9_crossings 0 = .ok (.aload_n 0, 1) := by decide +kernel
theorem dX9_crossings_1 : decode cX9_crossings 1 = .ok (.invokevirtual 134, 3) := by decide +kernel
theorem dX9_crossings_4 : decode cX9_crossings 4 = .ok (.aload_n 0, 1) := by decide +kernel
theorem dX9_crossings_5 : decode cX9_crossings 5 = .ok (.iload_n 1, 1) := by decide +kernel
theorem dX9_crossings_6 : decode cX9_crossings 6 = .ok (.invokevirtual 247, 3) := by decide +kernel
theorem dX9_crossings_9 : decode cX9_crossings 9 = .ok (.iload_n 2, 1) := by decide +kernel
theorem dX9_crossings_10 : decode cX9_crossings 10 = .ok (.invokestatic 256, 3) := by decide +kernel
theorem dX9_crossings_13 : decode cX9_crossings 13 = .ok (.aload_n 0, 1) := by decide +kernel
theorem dX9_crossings_14 : decode cX9_crossings 14 = .ok (.iload_n 1, 1) := by decide +kernel
theorem dX9_crossings_15 : decode cX9_crossings 15 = .ok (.iload_n 2, 1) := by decide +kernel
theorem dX9_crossings_16 : decode cX9_crossings 16 = .ok (.invokevirtual 259, 3) := by decide +kernel
theorem dX9_crossings_19 : decode cX9_crossings 19 = .ok (.iconst 0, 1) := by decide +kernel
theorem dX9_crossings_20 : decode cX9_crossings 20 = .ok (.istore_n 3, 1) := by decide +kernel
theorem dX9_crossings_21 : decode cX9_crossings 21 = .ok (.iconst 0, 1) := by decide +kernel
theorem dX9_crossings_22 : decode cX9_crossings 22 = .ok (.istore 4, 2) := by decide +kernel
theorem dX9_crossings_24 : decode cX9_crossings 24 = .ok (.iconst 0, 1) := by decide +kernel
theorem dX9_crossings_25 : decode cX9_crossings 25 = .ok (.istore 5, 2) := by decide +kernel
theorem dX9_crossings_27 : decode cX9_crossings 27 = .ok (.iload 5, 2) := by decide +kernel
theorem dX9_crossings_29 : decode cX9_crossings 29 = .ok (.iload_n 2, 1) := by decide +kernel
theorem dX9_crossings_30 : decode cX9_crossings 30 = .ok (.if_icmp .ge 55, 3) := by decide +kernel
theorem dX9_crossings_33 : decode cX9_crossings 33 = .ok (.aload_n 0, 1) := by decide +kernel
theorem dX9_crossings_34 : decode cX9_crossings 34 = .ok (.getfield 60, 3) := by decide +kernel
theorem dX9_crossings_37 : decode cX9_crossings 37 = .ok (.iload 5, 2) := by decide +kernel
theorem dX9_crossings_39 : decode cX9_crossings 39 = .ok (.iaload, 1) := by decide +kernel
theorem dX9_crossings_40 : decode cX9_crossings 40 = .ok (.ifCond .eq 39, 3) := by decide +kernel
theorem dX9_crossings_43 : decode cX9_crossings 43 = .ok (.aload_n 0, 1) := by decide +kernel
theorem dX9_crossings_44 : decode cX9_crossings 44 = .ok (.getfield 60, 3) := by decide +kernel
theorem dX9_crossings_47 : decode cX9_crossings 47 = .ok (.iload 5, 2) := by decide +kernel
theorem dX9_crossings_49 : decode cX9_crossings 49 = .ok (.iaload, 1) := by decide +kernel
theorem dX9_crossings_50 : decode cX9_crossings 50 = .ok (.ifCond .le 7, 3) := by decide +kernel
theorem dX9_crossings_53 : decode cX9_crossings 53 = .ok (.iconst 1, 1) := by decide +kernel
theorem dX9_crossings_54 : decode cX9_crossings 54 = .ok (.goto 4, 3) := by decide +kernel
theorem dX9_crossings_57 : decode cX9_crossings 57 = .ok (.iconst (-1), 1) := by decide +kernel
theorem dX9_crossings_58 : decode cX9_crossings 58 = .ok (.istore 6, 2) := by decide +kernel
theorem dX9_crossings_60 : decode cX9_crossings 60 = .ok (.iload 4, 2) := by decide +kernel
theorem dX9_crossings_62 : decode cX9_crossings 62 = .ok (.ifCond .eq 13, 3) := by decide +kernel
theorem dX9_crossings_65 : decode cX9_crossings 65 = .ok (.iload 6, 2) := by decide +kernel
theorem dX9_crossings_67 : decode cX9_crossings 67 = .ok (.iload 4, 2) := by decide +kernel
theorem dX9_crossings_69 : decode cX9_crossings 69 = .ok (.if_icmp .eq 6, 3) := by decide +kernel
theorem dX9_crossings_72 : decode cX9_crossings 72 = .ok (.iinc 3 1, 3) := by decide +kernel
theorem dX9_crossings_75 : decode cX9_crossings 75 = .ok (.iload 6, 2) := by decide +kernel
theorem dX9_crossings_77 : decode cX9_crossings 77 = .ok (.istore 4, 2) := by decide +kernel
theorem dX9_crossings_79 : decode cX9_crossings 79 = .ok (.iinc 5 1, 3) := by decide +kernel
theorem dX9_crossings_82 : decode cX9_crossings 82 = .ok (.goto (-55), 3) := by decide +kernel
theorem dX9_crossings_85 : decode cX9_crossings 85 = .ok (.iload_n 3, 1) := by decide +kernel
theorem dX9_crossings_86 : decode cX9_crossings 86 = .ok (.ireturn, 1) := by decide +kernel
theorem dX9_rhythm_0 : decode cX9_rhythm 0 = .ok (.aload_n 0, 1) := by decide +kernel
theorem dX9_rhythm_1 : decode cX9_rhythm 1 = .ok (.invokevirtual 134, 3) := by decide +kernel
theorem dX9_rhythm_4 : decode cX9_rhythm 4 = .ok (.aload_n 0, 1) := by decide +kernel
theorem dX9_rhythm_5 : decode cX9_rhythm 5 = .ok (.iload_n 1, 1) := by decide +kernel
theorem dX9_rhythm_6 : decode cX9_rhythm 6 = .ok (.invokevirtual 247, 3) := by decide +kernel
theorem dX9_rhythm_9 : decode cX9_rhythm 9 = .ok (.iload_n 2, 1) := by decide +kernel
theorem dX9_rhythm_10 : decode cX9_rhythm 10 = .ok (.invokestatic 256, 3) := by decide +kernel
theorem dX9_rhythm_13 : decode cX9_rhythm 13 = .ok (.aload_n 0, 1) := by decide +kernel
theorem dX9_rhythm_14 : decode cX9_rhythm 14 = .ok (.iload_n 1, 1) := by decide +kernel
theorem dX9_rhythm_15 : decode cX9_rhythm 15 = .ok (.iload_n 2, 1) := by decide +kernel
theorem dX9_rhythm_16 : decode cX9_rhythm 16 = .ok (.bipush 20, 2) := by decide +kernel
theorem dX9_rhythm_18 : decode cX9_rhythm 18 = .ok (.iadd, 1) := by decide +kernel
theorem dX9_rhythm_19 : decode cX9_rhythm 19 = .ok (.invokevirtual 259, 3) := by decide +kernel
theorem dX9_rhythm_22 : decode cX9_rhythm 22 = .ok (.iconst 1, 1) := by decide +kernel
theorem dX9_rhythm_23 : decode cX9_rhythm 23 = .ok (.istore_n 3, 1) := by decide +kernel
theorem dX9_rhythm_24 : decode cX9_rhythm 24 = .ok (.aload_n 0, 1) := by decide +kernel
theorem dX9_rhythm_25 : decode cX9_rhythm 25 = .ok (.iload_n 2, 1) := by decide +kernel
theorem dX9_rhythm_26 : decode cX9_rhythm 26 = .ok (.iconst 1, 1) := by decide +kernel
theorem dX9_rhythm_27 : decode cX9_rhythm 27 = .ok (.invokevirtual 265, 3) := by decide +kernel
theorem dX9_rhythm_30 : decode cX9_rhythm 30 = .ok (.lstore 4, 2) := by decide +kernel
theorem dX9_rhythm_32 : decode cX9_rhythm 32 = .ok (.iconst 2, 1) := by decide +kernel
theorem dX9_rhythm_33 : decode cX9_rhythm 33 = .ok (.istore 6, 2) := by decide +kernel
theorem dX9_rhythm_35 : decode cX9_rhythm 35 = .ok (.iload 6, 2) := by decide +kernel
theorem dX9_rhythm_37 : decode cX9_rhythm 37 = .ok (.bipush 20, 2) := by decide +kernel
theorem dX9_rhythm_39 : decode cX9_rhythm 39 = .ok (.if_icmp .gt 33, 3) := by decide +kernel
theorem dX9_rhythm_42 : decode cX9_rhythm 42 = .ok (.aload_n 0, 1) := by decide +kernel
theorem dX9_rhythm_43 : decode cX9_rhythm 43 = .ok (.iload_n 2, 1) := by decide +kernel
theorem dX9_rhythm_44 : decode cX9_rhythm 44 = .ok (.iload 6, 2) := by decide +kernel
theorem dX9_rhythm_46 : decode cX9_rhythm 46 = .ok (.invokevirtual 265, 3) := by decide +kernel
theorem dX9_rhythm_49 : decode cX9_rhythm 49 = .ok (.lstore 7, 2) := by decide +kernel
theorem dX9_rhythm_51 : decode cX9_rhythm 51 = .ok (.lload 7, 2) := by decide +kernel
theorem dX9_rhythm_53 : decode cX9_rhythm 53 = .ok (.lload 4, 2) := by decide +kernel
theorem dX9_rhythm_55 : decode cX9_rhythm 55 = .ok (.lcmp, 1) := by decide +kernel
theorem dX9_rhythm_56 : decode cX9_rhythm 56 = .ok (.ifCond .le 10, 3) := by decide +kernel
theorem dX9_rhythm_59 : decode cX9_rhythm 59 = .ok (.lload 7, 2) := by decide +kernel
theorem dX9_rhythm_61 : decode cX9_rhythm 61 = .ok (.lstore 4, 2) := by decide +kernel
theorem dX9_rhythm_63 : decode cX9_rhythm 63 = .ok (.iload 6, 2) := by decide +kernel
theorem dX9_rhythm_65 : decode cX9_rhythm 65 = .ok (.istore_n 3, 1) := by decide +kernel
theorem dX9_rhythm_66 : decode cX9_rhythm 66 = .ok (.iinc 6 1, 3) := by decide +kernel
theorem dX9_rhythm_69 : decode cX9_rhythm 69 = .ok (.goto (-34), 3) := by decide +kernel
theorem dX9_rhythm_72 : decode cX9_rhythm 72 = .ok (.iload_n 3, 1) := by decide +kernel
theorem dX9_rhythm_73 : decode cX9_rhythm 73 = .ok (.ireturn, 1) := by decide +kernel
theorem dX9_isNode_0 : decode cX9_isNode 0 = .ok (.aload_n 0, 1) := by decide +kernel
theorem dX9_isNode_1 : decode cX9_isNode 1 = .ok (.invokevirtual 134, 3) := by decide +kernel
theorem dX9_isNode_4 : decode cX9_isNode 4 = .ok (.aload_n 0, 1) := by decide +kernel
theorem dX9_isNode_5 : decode cX9_isNode 5 = .ok (.iload_n 1, 1) := by decide +kernel
theorem dX9_isNode_6 : decode cX9_isNode 6 = .ok (.iload_n 2, 1) := by decide +kernel
theorem dX9_isNode_7 : decode cX9_isNode 7 = .ok (.invokevirtual 206, 3) := by decide +kernel
theorem dX9_isNode_10 : decode cX9_isNode 10 = .ok (.iload_n 3, 1) := by decide +kernel
theorem dX9_isNode_11 : decode cX9_isNode 11 = .ok (.invokestatic 256, 3) := by decide +kernel
theorem dX9_isNode_14 : decode cX9_isNode 14 = .ok (.iload 4, 2) := by decide +kernel
theorem dX9_isNode_16 : decode cX9_isNode 16 = .ok (.invokestatic 236, 3) := by decide +kernel
theorem dX9_isNode_19 : decode cX9_isNode 19 = .ok (.aload_n 0, 1) := by decide +kernel
theorem dX9_isNode_20 : decode cX9_isNode 20 = .ok (.getfield 72, 3) := by decide +kernel
theorem dX9_isNode_23 : decode cX9_isNode 23 = .ok (.aload_n 0, 1) := by decide +kernel
theorem dX9_isNode_24 : decode cX9_isNode 24 = .ok (.getfield 20, 3) := by decide +kernel
theorem dX9_isNode_27 : decode cX9_isNode 27 = .ok (.iload_n 1, 1) := by decide +kernel
theorem dX9_isNode_28 : decode cX9_isNode 28 = .ok (.iload_n 2, 1) := by decide +kernel
theorem dX9_isNode_29 : decode cX9_isNode 29 = .ok (.iload_n 3, 1) := by decide +kernel
theorem dX9_isNode_30 : decode cX9_isNode 30 = .ok (.iload 4, 2) := by decide +kernel
theorem dX9_isNode_32 : decode cX9_isNode 32 = .ok (.invokevirtual 269, 3) := by decide +kernel
theorem dX9_isNode_35 : decode cX9_isNode 35 = .ok (.ireturn, 1) := by decide +kernel
theorem dX9_nodes_0 : decode cX9_nodes 0 = .ok (.aload_n 0, 1) := by decide +kernel
theorem dX9_nodes_1 : decode cX9_nodes 1 = .ok (.invokevirtual 134, 3) := by decide +kernel
theorem dX9_nodes_4 : decode cX9_nodes 4 = .ok (.iload_n 1, 1) := by decide +kernel
theorem dX9_nodes_5 : decode cX9_nodes 5 = .ok (.invokestatic 256, 3) := by decide +kernel
theorem dX9_nodes_8 : decode cX9_nodes 8 = .ok (.iload_n 2, 1) := by decide +kernel
theorem dX9_nodes_9 : decode cX9_nodes 9 = .ok (.invokestatic 236, 3) := by decide +kernel
theorem dX9_nodes_12 : decode cX9_nodes 12 = .ok (.aload_n 0, 1) := by decide +kernel
theorem dX9_nodes_13 : decode cX9_nodes 13 = .ok (.aload_n 0, 1) := by decide +kernel
theorem dX9_nodes_14 : decode cX9_nodes 14 = .ok (.getfield 20, 3) := by decide +kernel
theorem dX9_nodes_17 : decode cX9_nodes 17 = .ok (.iload_n 1, 1) := by decide +kernel
theorem dX9_nodes_18 : decode cX9_nodes 18 = .ok (.iload_n 2, 1) := by decide +kernel
theorem dX9_nodes_19 : decode cX9_nodes 19 = .ok (.invokevirtual 273, 3) := by decide +kernel
theorem dX9_nodes_22 : decode cX9_nodes 22 = .ok (.ireturn, 1) := by decide +kernel
theorem dX9_nodeGroups_0 : decode cX9_nodeGroups 0 = .ok (.aload_n 0, 1) := by decide +kernel
theorem dX9_nodeGroups_1 : decode cX9_nodeGroups 1 = .ok (.invokevirtual 134, 3) := by decide +kernel
theorem dX9_nodeGroups_4 : decode cX9_nodeGroups 4 = .ok (.iload_n 1, 1) := by decide +kernel
theorem dX9_nodeGroups_5 : decode cX9_nodeGroups 5 = .ok (.invokestatic 256, 3) := by decide +kernel
theorem dX9_nodeGroups_8 : decode cX9_nodeGroups 8 = .ok (.iload_n 2, 1) := by decide +kernel
theorem dX9_nodeGroups_9 : decode cX9_nodeGroups 9 = .ok (.invokestatic 236, 3) := by decide +kernel
theorem dX9_nodeGroups_12 : decode cX9_nodeGroups 12 = .ok (.iconst 0, 1) := by decide +kernel
theorem dX9_nodeGroups_13 : decode cX9_nodeGroups 13 = .ok (.istore_n 3, 1) := by decide +kernel
theorem dX9_nodeGroups_14 : decode cX9_nodeGroups 14 = .ok (.iload_n 3, 1) := by decide +kernel
theorem dX9_nodeGroups_15 : decode cX9_nodeGroups 15 = .ok (.aload_n 0, 1) := by decide +kernel
theorem dX9_nodeGroups_16 : decode cX9_nodeGroups 16 = .ok (.getfield 72, 3) := by decide +kernel
theorem dX9_nodeGroups_19 : decode cX9_nodeGroups 19 = .ok (.getfield 131, 3) := by decide +kernel
theorem dX9_nodeGroups_22 : decode cX9_nodeGroups 22 = .ok (.if_icmp .ge 29, 3) := by decide +kernel
theorem dX9_nodeGroups_25 : decode cX9_nodeGroups 25 = .ok (.aload_n 0, 1) := by decide +kernel
theorem dX9_nodeGroups_26 : decode cX9_nodeGroups 26 = .ok (.getfield 52, 3) := by decide +kernel
theorem dX9_nodeGroups_29 : decode cX9_nodeGroups 29 = .ok (.getfield 279, 3) := by decide +kernel
theorem dX9_nodeGroups_32 : decode cX9_nodeGroups 32 = .ok (.iload_n 3, 1) := by decide +kernel
theorem dX9_nodeGroups_33 : decode cX9_nodeGroups 33 = .ok (.aload_n 0, 1) := by decide +kernel
theorem dX9_nodeGroups_34 : decode cX9_nodeGroups 34 = .ok (.aload_n 0, 1) := by decide +kernel
theorem dX9_nodeGroups_35 : decode cX9_nodeGroups 35 = .ok (.getfield 20, 3) := by decide +kernel
theorem dX9_nodeGroups_38 : decode cX9_nodeGroups 38 = .ok (.iload_n 3, 1) := by decide +kernel
theorem dX9_nodeGroups_39 : decode cX9_nodeGroups 39 = .ok (.iload_n 1, 1) := by decide +kernel
theorem dX9_nodeGroups_40 : decode cX9_nodeGroups 40 = .ok (.iload_n 2, 1) := by decide +kernel
theorem dX9_nodeGroups_41 : decode cX9_nodeGroups 41 = .ok (.invokevirtual 276, 3) := by decide +kernel
theorem dX9_nodeGroups_44 : decode cX9_nodeGroups 44 = .ok (.iastore, 1) := by decide +kernel
theorem dX9_nodeGroups_45 : decode cX9_nodeGroups 45 = .ok (.iinc 3 1, 3) := by decide +kernel
theorem dX9_nodeGroups_48 : decode cX9_nodeGroups 48 = .ok (.goto (-34), 3) := by decide +kernel
theorem dX9_nodeGroups_51 : decode cX9_nodeGroups 51 = .ok (.aload_n 0, 1) := by decide +kernel
theorem dX9_nodeGroups_52 : decode cX9_nodeGroups 52 = .ok (.getfield 52, 3) := by decide +kernel
theorem dX9_nodeGroups_55 : decode cX9_nodeGroups 55 = .ok (.aload_n 0, 1) := by decide +kernel
theorem dX9_nodeGroups_56 : decode cX9_nodeGroups 56 = .ok (.getfield 72, 3) := by decide +kernel
theorem dX9_nodeGroups_59 : decode cX9_nodeGroups 59 = .ok (.getfield 128, 3) := by decide +kernel
theorem dX9_nodeGroups_62 : decode cX9_nodeGroups 62 = .ok (.aload_n 0, 1) := by decide +kernel
theorem dX9_nodeGroups_63 : decode cX9_nodeGroups 63 = .ok (.getfield 72, 3) := by decide +kernel
theorem dX9_nodeGroups_66 : decode cX9_nodeGroups 66 = .ok (.getfield 131, 3) := by decide +kernel
theorem dX9_nodeGroups_69 : decode cX9_nodeGroups 69 = .ok (.invokevirtual 282, 3) := by decide +kernel
theorem dX9_nodeGroups_72 : decode cX9_nodeGroups 72 = .ok (.ireturn, 1) := by decide +kernel
theorem dX9_energy_0 : decode cX9_energy 0 = .ok (.aload_n 0, 1) := by decide +kernel
theorem dX9_energy_1 : decode cX9_energy 1 = .ok (.invokevirtual 134, 3) := by decide +kernel
theorem dX9_energy_4 : decode cX9_energy 4 = .ok (.aload_n 0, 1) := by decide +kernel
theorem dX9_energy_5 : decode cX9_energy 5 = .ok (.iload_n 1, 1) := by decide +kernel
theorem dX9_energy_6 : decode cX9_energy 6 = .ok (.iload_n 2, 1) := by decide +kernel
theorem dX9_energy_7 : decode cX9_energy 7 = .ok (.invokevirtual 206, 3) := by decide +kernel
theorem dX9_energy_10 : decode cX9_energy 10 = .ok (.iload_n 3, 1) := by decide +kernel
theorem dX9_energy_11 : decode cX9_energy 11 = .ok (.invokestatic 256, 3) := by decide +kernel
theorem dX9_energy_14 : decode cX9_energy 14 = .ok (.aload_n 0, 1) := by decide +kernel
theorem dX9_energy_15 : decode cX9_energy 15 = .ok (.getfield 72, 3) := by decide +kernel
theorem dX9_energy_18 : decode cX9_energy 18 = .ok (.aload_n 0, 1) := by decide +kernel
theorem dX9_energy_19 : decode cX9_energy 19 = .ok (.getfield 20, 3) := by decide +kernel
theorem dX9_energy_22 : decode cX9_energy 22 = .ok (.iload_n 1, 1) := by decide +kernel
theorem dX9_energy_23 : decode cX9_energy 23 = .ok (.iload_n 2, 1) := by decide +kernel
theorem dX9_energy_24 : decode cX9_energy 24 = .ok (.iload_n 3, 1) := by decide +kernel
theorem dX9_energy_25 : decode cX9_energy 25 = .ok (.invokevirtual 285, 3) := by decide +kernel
theorem dX9_energy_28 : decode cX9_energy 28 = .ok (.lreturn, 1) := by decide +kernel
theorem dX9_rowEnergy_0 : decode cX9_rowEnergy 0 = .ok (.aload_n 0, 1) := by decide +kernel
theorem dX9_rowEnergy_1 : decode cX9_rowEnergy 1 = .ok (.invokevirtual 134, 3) := by decide +kernel
theorem dX9_rowEnergy_4 : decode cX9_rowEnergy 4 = .ok (.aload_n 0, 1) := by decide +kernel
theorem dX9_rowEnergy_5 : decode cX9_rowEnergy 5 = .ok (.iload_n 1, 1) := by decide +kernel
theorem dX9_rowEnergy_6 : decode cX9_rowEnergy 6 = .ok (.invokevirtual 143, 3) := by decide +kernel
theorem dX9_rowEnergy_9 : decode cX9_rowEnergy 9 = .ok (.iload_n 2, 1) := by decide +kernel
theorem dX9_rowEnergy_10 : decode cX9_rowEnergy 10 = .ok (.invokestatic 256, 3) := by decide +kernel
theorem dX9_rowEnergy_13 : decode cX9_rowEnergy 13 = .ok (.lconst 0, 1) := by decide +kernel
theorem dX9_rowEnergy_14 : decode cX9_rowEnergy 14 = .ok (.lstore_n 3, 1) := by decide +kernel
theorem dX9_rowEnergy_15 : decode cX9_rowEnergy 15 = .ok (.iconst 0, 1) := by decide +kernel
theorem dX9_rowEnergy_16 : decode cX9_rowEnergy 16 = .ok (.istore 5, 2) := by decide +kernel
theorem dX9_rowEnergy_18 : decode cX9_rowEnergy 18 = .ok (.iload 5, 2) := by decide +kernel
theorem dX9_rowEnergy_20 : decode cX9_rowEnergy 20 = .ok (.aload_n 0, 1) := by decide +kernel
theorem dX9_rowEnergy_21 : decode cX9_rowEnergy 21 = .ok (.getfield 72, 3) := by decide +kernel
theorem dX9_rowEnergy_24 : decode cX9_rowEnergy 24 = .ok (.getfield 128, 3) := by decide +kernel
theorem dX9_rowEnergy_27 : decode cX9_rowEnergy 27 = .ok (.if_icmp .ge 27, 3) := by decide +kernel
theorem dX9_rowEnergy_30 : decode cX9_rowEnergy 30 = .ok (.lload_n 3, 1) := by decide +kernel
theorem dX9_rowEnergy_31 : decode cX9_rowEnergy 31 = .ok (.aload_n 0, 1) := by decide +kernel
theorem dX9_rowEnergy_32 : decode cX9_rowEnergy 32 = .ok (.getfield 72, 3) := by decide +kernel
theorem dX9_rowEnergy_35 : decode cX9_rowEnergy 35 = .ok (.aload_n 0, 1) := by decide +kernel
theorem dX9_rowEnergy_36 : decode cX9_rowEnergy 36 = .ok (.getfield 20, 3) := by decide +kernel
theorem dX9_rowEnergy_39 : decode cX9_rowEnergy 39 = .ok (.iload 5, 2) := by decide +kernel
theorem dX9_rowEnergy_41 : decode cX9_rowEnergy 41 = .ok (.iload_n 1, 1) := by decide +kernel
theorem dX9_rowEnergy_42 : decode cX9_rowEnergy 42 = .ok (.iload_n 2, 1) := by decide +kernel
theorem dX9_rowEnergy_43 : decode cX9_rowEnergy 43 = .ok (.invokevirtual 285, 3) := by decide +kernel
theorem dX9_rowEnergy_46 : decode cX9_rowEnergy 46 = .ok (.ladd, 1) := by decide +kernel
theorem dX9_rowEnergy_47 : decode cX9_rowEnergy 47 = .ok (.lstore_n 3, 1) := by decide +kernel
theorem dX9_rowEnergy_48 : decode cX9_rowEnergy 48 = .ok (.iinc 5 1, 3) := by decide +kernel
theorem dX9_rowEnergy_51 : decode cX9_rowEnergy 51 = .ok (.goto (-33), 3) := by decide +kernel
theorem dX9_rowEnergy_54 : decode cX9_rowEnergy 54 = .ok (.lload_n 3, 1) := by decide +kernel
theorem dX9_rowEnergy_55 : decode cX9_rowEnergy 55 = .ok (.lreturn, 1) := by decide +kernel
theorem dX9_allEnergy_0 : decode cX9_allEnergy 0 = .ok (.aload_n 0, 1) := by decide +kernel
theorem dX9_allEnergy_1 : decode cX9_allEnergy 1 = .ok (.invokevirtual 134, 3) := by decide +kernel
theorem dX9_allEnergy_4 : decode cX9_allEnergy 4 = .ok (.iload_n 1, 1) := by decide +kernel
theorem dX9_allEnergy_5 : decode cX9_allEnergy 5 = .ok (.invokestatic 256, 3) := by decide +kernel
theorem dX9_allEnergy_8 : decode cX9_allEnergy 8 = .ok (.aload_n 0, 1) := by decide +kernel
theorem dX9_allEnergy_9 : decode cX9_allEnergy 9 = .ok (.iload_n 1, 1) := by decide +kernel
theorem dX9_allEnergy_10 : decode cX9_allEnergy 10 = .ok (.invokevirtual 289, 3) := by decide +kernel
theorem dX9_allEnergy_13 : decode cX9_allEnergy 13 = .ok (.lconst 0, 1) := by decide +kernel
theorem dX9_allEnergy_14 : decode cX9_allEnergy 14 = .ok (.lstore_n 2, 1) := by decide +kernel
theorem dX9_allEnergy_15 : decode cX9_allEnergy 15 = .ok (.iconst 0, 1) := by decide +kernel
theorem dX9_allEnergy_16 : decode cX9_allEnergy 16 = .ok (.istore 4, 2) := by decide +kernel
theorem dX9_allEnergy_18 : decode cX9_allEnergy 18 = .ok (.iload 4, 2) := by decide +kernel
theorem dX9_allEnergy_20 : decode cX9_allEnergy 20 = .ok (.aload_n 0, 1) := by decide +kernel
theorem dX9_allEnergy_21 : decode cX9_allEnergy 21 = .ok (.getfield 72, 3) := by decide +kernel
theorem dX9_allEnergy_24 : decode cX9_allEnergy 24 = .ok (.invokevirtual 292, 3) := by decide +kernel
theorem dX9_allEnergy_27 : decode cX9_allEnergy 27 = .ok (.if_icmp .ge 19, 3) := by decide +kernel
theorem dX9_allEnergy_30 : decode cX9_allEnergy 30 = .ok (.lload_n 2, 1) := by decide +kernel
theorem dX9_allEnergy_31 : decode cX9_allEnergy 31 = .ok (.aload_n 0, 1) := by decide +kernel
theorem dX9_allEnergy_32 : decode cX9_allEnergy 32 = .ok (.getfield 56, 3) := by decide +kernel
theorem dX9_allEnergy_35 : decode cX9_allEnergy 35 = .ok (.iload 4, 2) := by decide +kernel
theorem dX9_allEnergy_37 : decode cX9_allEnergy 37 = .ok (.laload, 1) := by decide +kernel
theorem dX9_allEnergy_38 : decode cX9_allEnergy 38 = .ok (.ladd, 1) := by decide +kernel
theorem dX9_allEnergy_39 : decode cX9_allEnergy 39 = .ok (.lstore_n 2, 1) := by decide +kernel
theorem dX9_allEnergy_40 : decode cX9_allEnergy 40 = .ok (.iinc 4 1, 3) := by decide +kernel
theorem dX9_allEnergy_43 : decode cX9_allEnergy 43 = .ok (.goto (-25), 3) := by decide +kernel
theorem dX9_allEnergy_46 : decode cX9_allEnergy 46 = .ok (.lload_n 2, 1) := by decide +kernel
theorem dX9_allEnergy_47 : decode cX9_allEnergy 47 = .ok (.lreturn, 1) := by decide +kernel
theorem dX9_strongest_0 : decode cX9_strongest 0 = .ok (.aload_n 0, 1) := by decide +kernel
theorem dX9_strongest_1 : decode cX9_strongest 1 = .ok (.invokevirtual 134, 3) := by decide +kernel
theorem dX9_strongest_4 : decode cX9_strongest 4 = .ok (.iload_n 1, 1) := by decide +kernel
theorem dX9_strongest_5 : decode cX9_strongest 5 = .ok (.ifCond .lt 14, 3) := by decide +kernel
theorem dX9_strongest_8 : decode cX9_strongest 8 = .ok (.iload_n 1, 1) := by decide +kernel
theorem dX9_strongest_9 : decode cX9_strongest 9 = .ok (.aload_n 0, 1) := by decide +kernel
theorem dX9_strongest_10 : decode cX9_strongest 10 = .ok (.getfield 72, 3) := by decide +kernel
theorem dX9_strongest_13 : decode cX9_strongest 13 = .ok (.invokevirtual 292, 3) := by decide +kernel
theorem dX9_strongest_16 : decode cX9_strongest 16 = .ok (.if_icmp .lt 14, 3) := by decide +kernel
theorem dX9_strongest_19 : decode cX9_strongest 19 = .ok (.new 86, 3) := by decide +kernel
theorem dX9_strongest_22 : decode cX9_strongest 22 = .ok (.dup, 1) := by decide +kernel
theorem dX9_strongest_23 : decode cX9_strongest 23 = .ok (.ldc_w 296, 3) := by decide +kernel
theorem dX9_strongest_26 : decode cX9_strongest 26 = .ok (.invokespecial 90, 3) := by decide +kernel
theorem dX9_strongest_29 : decode cX9_strongest 29 = .ok (.athrow, 1) := by decide +kernel
theorem dX9_strongest_30 : decode cX9_strongest 30 = .ok (.iload_n 2, 1) := by decide +kernel
theorem dX9_strongest_31 : decode cX9_strongest 31 = .ok (.invokestatic 256, 3) := by decide +kernel
theorem dX9_strongest_34 : decode cX9_strongest 34 = .ok (.aload_n 0, 1) := by decide +kernel
theorem dX9_strongest_35 : decode cX9_strongest 35 = .ok (.iload_n 2, 1) := by decide +kernel
theorem dX9_strongest_36 : decode cX9_strongest 36 = .ok (.invokevirtual 289, 3) := by decide +kernel
theorem dX9_strongest_39 : decode cX9_strongest 39 = .ok (.iconst (-1), 1) := by decide +kernel
theorem dX9_strongest_40 : decode cX9_strongest 40 = .ok (.istore_n 3, 1) := by decide +kernel
theorem dX9_strongest_41 : decode cX9_strongest 41 = .ok (.iconst 0, 1) := by decide +kernel
theorem dX9_strongest_42 : decode cX9_strongest 42 = .ok (.istore 4, 2) := by decide +kernel
theorem dX9_strongest_44 : decode cX9_strongest 44 = .ok (.iload 4, 2) := by decide +kernel
theorem dX9_strongest_46 : decode cX9_strongest 46 = .ok (.aload_n 0, 1) := by decide +kernel
theorem dX9_strongest_47 : decode cX9_strongest 47 = .ok (.getfield 72, 3) := by decide +kernel
theorem dX9_strongest_50 : decode cX9_strongest 50 = .ok (.invokevirtual 292, 3) := by decide +kernel
theorem dX9_strongest_53 : decode cX9_strongest 53 = .ok (.if_icmp .ge 27, 3) := by decide +kernel
theorem dX9_strongest_56 : decode cX9_strongest 56 = .ok (.iload_n 3, 1) := by decide +kernel
theorem dX9_strongest_57 : decode cX9_strongest 57 = .ok (.iconst (-1), 1) := by decide +kernel
theorem dX9_strongest_58 : decode cX9_strongest 58 = .ok (.if_icmp .ne 22, 3) := by decide +kernel
theorem dX9_strongest_61 : decode cX9_strongest 61 = .ok (.aload_n 0, 1) := by decide +kernel
theorem dX9_strongest_62 : decode cX9_strongest 62 = .ok (.iload 4, 2) := by decide +kernel
theorem dX9_strongest_64 : decode cX9_strongest 64 = .ok (.invokevirtual 298, 3) := by decide +kernel
theorem dX9_strongest_67 : decode cX9_strongest 67 = .ok (.iload_n 1, 1) := by decide +kernel
theorem dX9_strongest_68 : decode cX9_strongest 68 = .ok (.if_icmp .ne 6, 3) := by decide +kernel
theorem dX9_strongest_71 : decode cX9_strongest 71 = .ok (.iload 4, 2) := by decide +kernel
theorem dX9_strongest_73 : decode cX9_strongest 73 = .ok (.istore_n 3, 1) := by decide +kernel
theorem dX9_strongest_74 : decode cX9_strongest 74 = .ok (.iinc 4 1, 3) := by decide +kernel
theorem dX9_strongest_77 : decode cX9_strongest 77 = .ok (.goto (-33), 3) := by decide +kernel
theorem dX9_strongest_80 : decode cX9_strongest 80 = .ok (.iload_n 3, 1) := by decide +kernel
theorem dX9_strongest_81 : decode cX9_strongest 81 = .ok (.ireturn, 1) := by decide +kernel
theorem dX9_marks_0 : decode cX9_marks 0 = .ok (.aload_n 0, 1) := by decide +kernel
theorem dX9_marks_1 : decode cX9_marks 1 = .ok (.invokevirtual 134, 3) := by decide +kernel
theorem dX9_marks_4 : decode cX9_marks 4 = .ok (.iload_n 1, 1) := by decide +kernel
theorem dX9_marks_5 : decode cX9_marks 5 = .ok (.invokestatic 256, 3) := by decide +kernel
theorem dX9_marks_8 : decode cX9_marks 8 = .ok (.iload_n 2, 1) := by decide +kernel
theorem dX9_marks_9 : decode cX9_marks 9 = .ok (.iconst 1, 1) := by decide +kernel
theorem dX9_marks_10 : decode cX9_marks 10 = .ok (.bipush 100, 2) := by decide +kernel
theorem dX9_marks_12 : decode cX9_marks 12 = .ok (.invokestatic 153, 3) := by decide +kernel
theorem dX9_marks_15 : decode cX9_marks 15 = .ok (.aload_n 0, 1) := by decide +kernel
theorem dX9_marks_16 : decode cX9_marks 16 = .ok (.iload_n 1, 1) := by decide +kernel
theorem dX9_marks_17 : decode cX9_marks 17 = .ok (.invokevirtual 289, 3) := by decide +kernel
theorem dX9_marks_20 : decode cX9_marks 20 = .ok (.aload_n 0, 1) := by decide +kernel
theorem dX9_marks_21 : decode cX9_marks 21 = .ok (.invokevirtual 301, 3) := by decide +kernel
theorem dX9_marks_24 : decode cX9_marks 24 = .ok (.lstore_n 3, 1) := by decide +kernel
theorem dX9_marks_25 : decode cX9_marks 25 = .ok (.iconst 0, 1) := by decide +kernel
theorem dX9_marks_26 : decode cX9_marks 26 = .ok (.istore 5, 2) := by decide +kernel
theorem dX9_marks_28 : decode cX9_marks 28 = .ok (.iconst 0, 1) := by decide +kernel
theorem dX9_marks_29 : decode cX9_marks 29 = .ok (.istore 6, 2) := by decide +kernel
theorem dX9_marks_31 : decode cX9_marks 31 = .ok (.iload 6, 2) := by decide +kernel
theorem dX9_marks_33 : decode cX9_marks 33 = .ok (.aload_n 0, 1) := by decide +kernel
theorem dX9_marks_34 : decode cX9_marks 34 = .ok (.getfield 72, 3) := by decide +kernel
theorem dX9_marks_37 : decode cX9_marks 37 = .ok (.invokevirtual 292, 3) := by decide +kernel
theorem dX9_marks_40 : decode cX9_marks 40 = .ok (.if_icmp .ge 27, 3) := by decide +kernel
theorem dX9_marks_43 : decode cX9_marks 43 = .ok (.aload_n 0, 1) := by decide +kernel
theorem dX9_marks_44 : decode cX9_marks 44 = .ok (.getfield 56, 3) := by decide +kernel
theorem dX9_marks_47 : decode cX9_marks 47 = .ok (.iload 6, 2) := by decide +kernel
theorem dX9_marks_49 : decode cX9_marks 49 = .ok (.laload, 1) := by decide +kernel
theorem dX9_marks_50 : decode cX9_marks 50 = .ok (.iload_n 2, 1) := by decide +kernel
theorem dX9_marks_51 : decode cX9_marks 51 = .ok (.lload_n 3, 1) := by decide +kernel
theorem dX9_marks_52 : decode cX9_marks 52 = .ok (.invokestatic 305, 3) := by decide +kernel
theorem dX9_marks_55 : decode cX9_marks 55 = .ok (.ifCond .eq 6, 3) := by decide +kernel
theorem dX9_marks_58 : decode cX9_marks 58 = .ok (.iinc 5 1, 3) := by decide +kernel
theorem dX9_marks_61 : decode cX9_marks 61 = .ok (.iinc 6 1, 3) := by decide +kernel
theorem dX9_marks_64 : decode cX9_marks 64 = .ok (.goto (-33), 3) := by decide +kernel
theorem dX9_marks_67 : decode cX9_marks 67 = .ok (.iload 5, 2) := by decide +kernel
theorem dX9_marks_69 : decode cX9_marks 69 = .ok (.ireturn, 1) := by decide +kernel
theorem dX9_isMark_0 : decode cX9_isMark 0 = .ok (.aload_n 0, 1) := by decide +kernel
theorem dX9_isMark_1 : decode cX9_isMark 1 = .ok (.invokevirtual 134, 3) := by decide +kernel
theorem dX9_isMark_4 : decode cX9_isMark 4 = .ok (.aload_n 0, 1) := by decide +kernel
theorem dX9_isMark_5 : decode cX9_isMark 5 = .ok (.iload_n 1, 1) := by decide +kernel
theorem dX9_isMark_6 : decode cX9_isMark 6 = .ok (.iload_n 2, 1) := by decide +kernel
theorem dX9_isMark_7 : decode cX9_isMark 7 = .ok (.invokevirtual 206, 3) := by decide +kernel
theorem dX9_isMark_10 : decode cX9_isMark 10 = .ok (.iload_n 3, 1) := by decide +kernel
theorem dX9_isMark_11 : decode cX9_isMark 11 = .ok (.invokestatic 256, 3) := by decide +kernel
theorem dX9_isMark_14 : decode cX9_isMark 14 = .ok (.iload 4, 2) := by decide +kernel
theorem dX9_isMark_16 : decode cX9_isMark 16 = .ok (.iconst 1, 1) := by decide +kernel
theorem dX9_isMark_17 : decode cX9_isMark 17 = .ok (.bipush 100, 2) := by decide +kernel
theorem dX9_isMark_19 : decode cX9_isMark 19 = .ok (.invokestatic 153, 3) := by decide +kernel
theorem dX9_isMark_22 : decode cX9_isMark 22 = .ok (.aload_n 0, 1) := by decide +kernel
theorem dX9_isMark_23 : decode cX9_isMark 23 = .ok (.iload_n 3, 1) := by decide +kernel
theorem dX9_isMark_24 : decode cX9_isMark 24 = .ok (.invokevirtual 289, 3) := by decide +kernel
theorem dX9_isMark_27 : decode cX9_isMark 27 = .ok (.aload_n 0, 1) := by decide +kernel
theorem dX9_isMark_28 : decode cX9_isMark 28 = .ok (.getfield 56, 3) := by decide +kernel
theorem dX9_isMark_31 : decode cX9_isMark 31 = .ok (.aload_n 0, 1) := by decide +kernel
theorem dX9_isMark_32 : decode cX9_isMark 32 = .ok (.getfield 72, 3) := by decide +kernel
theorem dX9_isMark_35 : decode cX9_isMark 35 = .ok (.iload_n 1, 1) := by decide +kernel
theorem dX9_isMark_36 : decode cX9_isMark 36 = .ok (.iload_n 2, 1) := by decide +kernel
theorem dX9_isMark_37 : decode cX9_isMark 37 = .ok (.invokevirtual 309, 3) := by decide +kernel
theorem dX9_isMark_40 : decode cX9_isMark 40 = .ok (.laload, 1) := by decide +kernel
theorem dX9_isMark_41 : decode cX9_isMark 41 = .ok (.iload 4, 2) := by decide +kernel
theorem dX9_isMark_43 : decode cX9_isMark 43 = .ok (.aload_n 0, 1) := by decide +kernel
theorem dX9_isMark_44 : decode cX9_isMark 44 = .ok (.invokevirtual 301, 3) := by decide +kernel
theorem dX9_isMark_47 : decode cX9_isMark 47 = .ok (.invokestatic 305, 3) := by decide +kernel
theorem dX9_isMark_50 : decode cX9_isMark 50 = .ok (.ireturn, 1) := by decide +kernel
theorem dX9_nodesIfOff_0 : decode cX9_nodesIfOff 0 = .ok (.aload_n 0, 1) := by decide +kernel
theorem dX9_nodesIfOff_1 : decode cX9_nodesIfOff 1 = .ok (.invokevirtual 134, 3) := by decide +kernel
theorem dX9_nodesIfOff_4 : decode cX9_nodesIfOff 4 = .ok (.aload_n 0, 1) := by decide +kernel
theorem dX9_nodesIfOff_5 : decode cX9_nodesIfOff 5 = .ok (.iload_n 1, 1) := by decide +kernel
theorem dX9_nodesIfOff_6 : decode cX9_nodesIfOff 6 = .ok (.invokevirtual 150, 3) := by decide +kernel
theorem dX9_nodesIfOff_9 : decode cX9_nodesIfOff 9 = .ok (.iload_n 2, 1) := by decide +kernel
theorem dX9_nodesIfOff_10 : decode cX9_nodesIfOff 10 = .ok (.invokestatic 256, 3) := by decide +kernel
theorem dX9_nodesIfOff_13 : decode cX9_nodesIfOff 13 = .ok (.iload_n 3, 1) := by decide +kernel
theorem dX9_nodesIfOff_14 : decode cX9_nodesIfOff 14 = .ok (.invokestatic 236, 3) := by decide +kernel
theorem dX9_nodesIfOff_17 : decode cX9_nodesIfOff 17 = .ok (.aload_n 0, 1) := by decide +kernel
theorem dX9_nodesIfOff_18 : decode cX9_nodesIfOff 18 = .ok (.getfield 24, 3) := by decide +kernel
theorem dX9_nodesIfOff_21 : decode cX9_nodesIfOff 21 = .ok (.aload_n 0, 1) := by decide +kernel
theorem dX9_nodesIfOff_22 : decode cX9_nodesIfOff 22 = .ok (.getfield 20, 3) := by decide +kernel
theorem dX9_nodesIfOff_25 : decode cX9_nodesIfOff 25 = .ok (.invokevirtual 111, 3) := by decide +kernel
theorem dX9_nodesIfOff_28 : decode cX9_nodesIfOff 28 = .ok (.aload_n 0, 1) := by decide +kernel
theorem dX9_nodesIfOff_29 : decode cX9_nodesIfOff 29 = .ok (.getfield 24, 3) := by decide +kernel
theorem dX9_nodesIfOff_32 : decode cX9_nodesIfOff 32 = .ok (.getfield 188, 3) := by decide +kernel
theorem dX9_nodesIfOff_35 : decode cX9_nodesIfOff 35 = .ok (.iload_n 1, 1) := by decide +kernel
theorem dX9_nodesIfOff_36 : decode cX9_nodesIfOff 36 = .ok (.iconst 0, 1) := by decide +kernel
theorem dX9_nodesIfOff_37 : decode cX9_nodesIfOff 37 = .ok (.bastore, 1) := by decide +kernel
theorem dX9_nodesIfOff_38 : decode cX9_nodesIfOff 38 = .ok (.aload_n 0, 1) := by decide +kernel
theorem dX9_nodesIfOff_39 : decode cX9_nodesIfOff 39 = .ok (.aload_n 0, 1) := by decide +kernel
theorem dX9_nodesIfOff_40 : decode cX9_nodesIfOff 40 = .ok (.getfield 24, 3) := by decide +kernel
theorem dX9_nodesIfOff_43 : decode cX9_nodesIfOff 43 = .ok (.iload_n 2, 1) := by decide +kernel
theorem dX9_nodesIfOff_44 : decode cX9_nodesIfOff 44 = .ok (.iload_n 3, 1) := by decide +kernel
theorem dX9_nodesIfOff_45 : decode cX9_nodesIfOff 45 = .ok (.invokevirtual 273, 3) := by decide +kernel
theorem dX9_nodesIfOff_48 : decode cX9_nodesIfOff 48 = .ok (.ireturn, 1) := by decide +kernel
theorem dX9_bestPhase_0 : decode cX9_bestPhase 0 = .ok (.aload_n 0, 1) := by decide +kernel
theorem dX9_bestPhase_1 : decode cX9_bestPhase 1 = .ok (.invokevirtual 134, 3) := by decide +kernel
theorem dX9_bestPhase_4 : decode cX9_bestPhase 4 = .ok (.aload_n 0, 1) := by decide +kernel
theorem dX9_bestPhase_5 : decode cX9_bestPhase 5 = .ok (.iload_n 1, 1) := by decide +kernel
theorem dX9_bestPhase_6 : decode cX9_bestPhase 6 = .ok (.invokevirtual 150, 3) := by decide +kernel
theorem dX9_bestPhase_9 : decode cX9_bestPhase 9 = .ok (.aload_n 0, 1) := by decide +kernel
theorem dX9_bestPhase_10 : decode cX9_bestPhase 10 = .ok (.iload_n 2, 1) := by decide +kernel
theorem dX9_bestPhase_11 : decode cX9_bestPhase 11 = .ok (.iload_n 3, 1) := by decide +kernel
theorem dX9_bestPhase_12 : decode cX9_bestPhase 12 = .ok (.invokevirtual 206, 3) := by decide +kernel
theorem dX9_bestPhase_15 : decode cX9_bestPhase 15 = .ok (.iload 4, 2) := by decide +kernel
theorem dX9_bestPhase_17 : decode cX9_bestPhase 17 = .ok (.invokestatic 256, 3) := by decide +kernel
theorem dX9_bestPhase_20 : decode cX9_bestPhase 20 = .ok (.aload_n 0, 1) := by decide +kernel
theorem dX9_bestPhase_21 : decode cX9_bestPhase 21 = .ok (.getfield 24, 3) := by decide +kernel
theorem dX9_bestPhase_24 : decode cX9_bestPhase 24 = .ok (.aload_n 0, 1) := by decide +kernel
theorem dX9_bestPhase_25 : decode cX9_bestPhase 25 = .ok (.getfield 20, 3) := by decide +kernel
theorem dX9_bestPhase_28 : decode cX9_bestPhase 28 = .ok (.invokevirtual 111, 3) := by decide +kernel
theorem dX9_bestPhase_31 : decode cX9_bestPhase 31 = .ok (.iconst (-1), 1) := by decide +kernel
theorem dX9_bestPhase_32 : decode cX9_bestPhase 32 = .ok (.istore 5, 2) := by decide +kernel
theorem dX9_bestPhase_34 : decode cX9_bestPhase 34 = .ok (.lconst 0, 1) := by decide +kernel
theorem dX9_bestPhase_35 : decode cX9_bestPhase 35 = .ok (.lstore 6, 2) := by decide +kernel
theorem dX9_bestPhase_37 : decode cX9_bestPhase 37 = .ok (.iconst 0, 1) := by decide +kernel
theorem dX9_bestPhase_38 : decode cX9_bestPhase 38 = .ok (.istore 8, 2) := by decide +kernel
theorem dX9_bestPhase_40 : decode cX9_bestPhase 40 = .ok (.iload 8, 2) := by decide +kernel
theorem dX9_bestPhase_42 : decode cX9_bestPhase 42 = .ok (.sipush 360, 3) := by decide +kernel
theorem dX9_bestPhase_45 : decode cX9_bestPhase 45 = .ok (.if_icmp .ge 59, 3) := by decide +kernel
theorem dX9_bestPhase_48 : decode cX9_bestPhase 48 = .ok (.aload_n 0, 1) := by decide +kernel
theorem dX9_bestPhase_49 : decode cX9_bestPhase 49 = .ok (.getfield 24, 3) := by decide +kernel
theorem dX9_bestPhase_52 : decode cX9_bestPhase 52 = .ok (.getfield 179, 3) := by decide +kernel
theorem dX9_bestPhase_55 : decode cX9_bestPhase 55 = .ok (.iload_n 1, 1) := by decide +kernel
theorem dX9_bestPhase_56 : decode cX9_bestPhase 56 = .ok (.iload 8, 2) := by decide +kernel
theorem dX9_bestPhase_58 : decode cX9_bestPhase 58 = .ok (.iastore, 1) := by decide +kernel
theorem dX9_bestPhase_59 : decode cX9_bestPhase 59 = .ok (.aload_n 0, 1) := by decide +kernel
theorem dX9_bestPhase_60 : decode cX9_bestPhase 60 = .ok (.getfield 72, 3) := by decide +kernel
theorem dX9_bestPhase_63 : decode cX9_bestPhase 63 = .ok (.aload_n 0, 1) := by decide +kernel
theorem dX9_bestPhase_64 : decode cX9_bestPhase 64 = .ok (.getfield 24, 3) := by decide +kernel
theorem dX9_bestPhase_67 : decode cX9_bestPhase 67 = .ok (.iload_n 2, 1) := by decide +kernel
theorem dX9_bestPhase_68 : decode cX9_bestPhase 68 = .ok (.iload_n 3, 1) := by decide +kernel
theorem dX9_bestPhase_69 : decode cX9_bestPhase 69 = .ok (.iload 4, 2) := by decide +kernel
theorem dX9_bestPhase_71 : decode cX9_bestPhase 71 = .ok (.invokevirtual 285, 3) := by decide +kernel
theorem dX9_bestPhase_74 : decode cX9_bestPhase 74 = .ok (.lstore 9, 2) := by decide +kernel
theorem dX9_bestPhase_76 : decode cX9_bestPhase 76 = .ok (.iload 5, 2) := by decide +kernel
theorem dX9_bestPhase_78 : decode cX9_bestPhase 78 = .ok (.iconst (-1), 1) := by decide +kernel
theorem dX9_bestPhase_79 : decode cX9_bestPhase 79 = .ok (.if_icmp .eq 11, 3) := by decide +kernel
theorem dX9_bestPhase_82 : decode cX9_bestPhase 82 = .ok (.lload 9, 2) := by decide +kernel
theorem dX9_bestPhase_84 : decode cX9_bestPhase 84 = .ok (.lload 6, 2) := by decide +kernel
theorem dX9_bestPhase_86 : decode cX9_bestPhase 86 = .ok (.lcmp, 1) := by decide +kernel
theorem dX9_bestPhase_87 : decode cX9_bestPhase 87 = .ok (.ifCond .ge 11, 3) := by decide +kernel
theorem dX9_bestPhase_90 : decode cX9_bestPhase 90 = .ok (.lload 9, 2) := by decide +kernel
theorem dX9_bestPhase_92 : decode cX9_bestPhase 92 = .ok (.lstore 6, 2) := by decide +kernel
theorem dX9_bestPhase_94 : decode cX9_bestPhase 94 = .ok (.iload 8, 2) := by decide +kernel
theorem dX9_bestPhase_96 : decode cX9_bestPhase 96 = .ok (.istore 5, 2) := by decide +kernel
theorem dX9_bestPhase_98 : decode cX9_bestPhase 98 = .ok (.iinc 8 15, 3) := by decide +kernel
theorem dX9_bestPhase_101 : decode cX9_bestPhase 101 = .ok (.goto (-61), 3) := by decide +kernel
theorem dX9_bestPhase_104 : decode cX9_bestPhase 104 = .ok (.iload 5, 2) := by decide +kernel
theorem dX9_bestPhase_106 : decode cX9_bestPhase 106 = .ok (.ireturn, 1) := by decide +kernel
theorem dX9_energyIfTurned_0 : decode cX9_energyIfTurned 0 = .ok (.aload_n 0, 1) := by decide +kernel
theorem dX9_energyIfTurned_1 : decode cX9_energyIfTurned 1 = .ok (.invokevirtual 134, 3) := by decide +kernel
theorem dX9_energyIfTurned_4 : decode cX9_energyIfTurned 4 = .ok (.aload_n 0, 1) := by decide +kernel
theorem dX9_energyIfTurned_5 : decode cX9_energyIfTurned 5 = .ok (.iload_n 1, 1) := by decide +kernel
theorem dX9_energyIfTurned_6 : decode cX9_energyIfTurned 6 = .ok (.iload_n 2, 1) := by decide +kernel
theorem dX9_energyIfTurned_7 : decode cX9_energyIfTurned 7 = .ok (.invokevirtual 206, 3) := by decide +kernel
theorem dX9_energyIfTurned_10 : decode cX9_energyIfTurned 10 = .ok (.aload_n 0, 1) := by decide +kernel
theorem dX9_energyIfTurned_11 : decode cX9_energyIfTurned 11 = .ok (.iload_n 3, 1) := by decide +kernel
theorem dX9_energyIfTurned_12 : decode cX9_energyIfTurned 12 = .ok (.invokevirtual 143, 3) := by decide +kernel
theorem dX9_energyIfTurned_15 : decode cX9_energyIfTurned 15 = .ok (.iload 4, 2) := by decide +kernel
theorem dX9_energyIfTurned_17 : decode cX9_energyIfTurned 17 = .ok (.invokestatic 256, 3) := by decide +kernel
theorem dX9_energyIfTurned_20 : decode cX9_energyIfTurned 20 = .ok (.aload_n 0, 1) := by decide +kernel
theorem dX9_energyIfTurned_21 : decode cX9_energyIfTurned 21 = .ok (.iload_n 1, 1) := by decide +kernel
theorem dX9_energyIfTurned_22 : decode cX9_energyIfTurned 22 = .ok (.iload_n 2, 1) := by decide +kernel
theorem dX9_energyIfTurned_23 : decode cX9_energyIfTurned 23 = .ok (.iload_n 3, 1) := by decide +kernel
theorem dX9_energyIfTurned_24 : decode cX9_energyIfTurned 24 = .ok (.iload 4, 2) := by decide +kernel
theorem dX9_energyIfTurned_26 : decode cX9_energyIfTurned 26 = .ok (.invokevirtual 342, 3) := by decide +kernel
theorem dX9_energyIfTurned_29 : decode cX9_energyIfTurned 29 = .ok (.lreturn, 1) := by decide +kernel
theorem dX9_bestRow_0 : decode cX9_bestRow 0 = .ok (.aload_n 0, 1) := by decide +kernel
theorem dX9_bestRow_1 : decode cX9_bestRow 1 = .ok (.invokevirtual 134, 3) := by decide +kernel
theorem dX9_bestRow_4 : decode cX9_bestRow 4 = .ok (.aload_n 0, 1) := by decide +kernel
theorem dX9_bestRow_5 : decode cX9_bestRow 5 = .ok (.iload_n 1, 1) := by decide +kernel
theorem dX9_bestRow_6 : decode cX9_bestRow 6 = .ok (.iload_n 2, 1) := by decide +kernel
theorem dX9_bestRow_7 : decode cX9_bestRow 7 = .ok (.invokevirtual 206, 3) := by decide +kernel
theorem dX9_bestRow_10 : decode cX9_bestRow 10 = .ok (.iload_n 3, 1) := by decide +kernel
theorem dX9_bestRow_11 : decode cX9_bestRow 11 = .ok (.invokestatic 256, 3) := by decide +kernel
theorem dX9_bestRow_14 : decode cX9_bestRow 14 = .ok (.iconst (-1), 1) := by decide +kernel
theorem dX9_bestRow_15 : decode cX9_bestRow 15 = .ok (.istore 4, 2) := by decide +kernel
theorem dX9_bestRow_17 : decode cX9_bestRow 17 = .ok (.ldc2_w 346, 3) := by decide +kernel
theorem dX9_bestRow_20 : decode cX9_bestRow 20 = .ok (.lstore 5, 2) := by decide +kernel
theorem dX9_bestRow_22 : decode cX9_bestRow 22 = .ok (.iconst 0, 1) := by decide +kernel
theorem dX9_bestRow_23 : decode cX9_bestRow 23 = .ok (.istore 7, 2) := by decide +kernel
theorem dX9_bestRow_25 : decode cX9_bestRow 25 = .ok (.iload 7, 2) := by decide +kernel
theorem dX9_bestRow_27 : decode cX9_bestRow 27 = .ok (.aload_n 0, 1) := by decide +kernel
theorem dX9_bestRow_28 : decode cX9_bestRow 28 = .ok (.getfield 72, 3) := by decide +kernel
theorem dX9_bestRow_31 : decode cX9_bestRow 31 = .ok (.getfield 131, 3) := by decide +kernel
theorem dX9_bestRow_34 : decode cX9_bestRow 34 = .ok (.if_icmp .ge 36, 3) := by decide +kernel
theorem dX9_bestRow_37 : decode cX9_bestRow 37 = .ok (.aload_n 0, 1) := by decide +kernel
theorem dX9_bestRow_38 : decode cX9_bestRow 38 = .ok (.iload_n 1, 1) := by decide +kernel
theorem dX9_bestRow_39 : decode cX9_bestRow 39 = .ok (.iload_n 2, 1) := by decide +kernel
theorem dX9_bestRow_40 : decode cX9_bestRow 40 = .ok (.iload 7, 2) := by decide +kernel
theorem dX9_bestRow_42 : decode cX9_bestRow 42 = .ok (.iload_n 3, 1) := by decide +kernel
theorem dX9_bestRow_43 : decode cX9_bestRow 43 = .ok (.invokevirtual 342, 3) := by decide +kernel
theorem dX9_bestRow_46 : decode cX9_bestRow 46 = .ok (.lstore 8, 2) := by decide +kernel
theorem dX9_bestRow_48 : decode cX9_bestRow 48 = .ok (.lload 8, 2) := by decide +kernel
theorem dX9_bestRow_50 : decode cX9_bestRow 50 = .ok (.lload 5, 2) := by decide +kernel
theorem dX9_bestRow_52 : decode cX9_bestRow 52 = .ok (.lcmp, 1) := by decide +kernel
theorem dX9_bestRow_53 : decode cX9_bestRow 53 = .ok (.ifCond .le 11, 3) := by decide +kernel
theorem dX9_bestRow_56 : decode cX9_bestRow 56 = .ok (.lload 8, 2) := by decide +kernel
theorem dX9_bestRow_58 : decode cX9_bestRow 58 = .ok (.lstore 5, 2) := by decide +kernel
theorem dX9_bestRow_60 : decode cX9_bestRow 60 = .ok (.iload 7, 2) := by decide +kernel
theorem dX9_bestRow_62 : decode cX9_bestRow 62 = .ok (.istore 4, 2) := by decide +kernel
theorem dX9_bestRow_64 : decode cX9_bestRow 64 = .ok (.iinc 7 1, 3) := by decide +kernel
theorem dX9_bestRow_67 : decode cX9_bestRow 67 = .ok (.goto (-42), 3) := by decide +kernel
theorem dX9_bestRow_70 : decode cX9_bestRow 70 = .ok (.iload 4, 2) := by decide +kernel
theorem dX9_bestRow_72 : decode cX9_bestRow 72 = .ok (.ireturn, 1) := by decide +kernel
theorem dX9_advance_0 : decode cX9_advance 0 = .ok (.aload_n 0, 1) := by decide +kernel
theorem dX9_advance_1 : decode cX9_advance 1 = .ok (.invokevirtual 134, 3) := by decide +kernel
theorem dX9_advance_4 : decode cX9_advance 4 = .ok (.iload_n 1, 1) := by decide +kernel
theorem dX9_advance_5 : decode cX9_advance 5 = .ok (.iconst 1, 1) := by decide +kernel
theorem dX9_advance_6 : decode cX9_advance 6 = .ok (.sipush 999, 3) := by decide +kernel
theorem dX9_advance_9 : decode cX9_advance 9 = .ok (.invokestatic 153, 3) := by decide +kernel
theorem dX9_advance_12 : decode cX9_advance 12 = .ok (.aload_n 0, 1) := by decide +kernel
theorem dX9_advance_13 : decode cX9_advance 13 = .ok (.getfield 20, 3) := by decide +kernel
theorem dX9_advance_16 : decode cX9_advance 16 = .ok (.getfield 125, 3) := by decide +kernel
theorem dX9_advance_19 : decode cX9_advance 19 = .ok (.iload_n 1, 1) := by decide +kernel
theorem dX9_advance_20 : decode cX9_advance 20 = .ok (.iadd, 1) := by decide +kernel
theorem dX9_advance_21 : decode cX9_advance 21 = .ok (.iconst 0, 1) := by decide +kernel
theorem dX9_advance_22 : decode cX9_advance 22 = .ok (.sipush 9999, 3) := by decide +kernel
theorem dX9_advance_25 : decode cX9_advance 25 = .ok (.invokestatic 153, 3) := by decide +kernel
theorem dX9_advance_28 : decode cX9_advance 28 = .ok (.aload_n 0, 1) := by decide +kernel
theorem dX9_advance_29 : decode cX9_advance 29 = .ok (.getfield 30, 3) := by decide +kernel
theorem dX9_advance_32 : decode cX9_advance 32 = .ok (.aload_n 0, 1) := by decide +kernel
theorem dX9_advance_33 : decode cX9_advance 33 = .ok (.getfield 20, 3) := by decide +kernel
theorem dX9_advance_36 : decode cX9_advance 36 = .ok (.invokevirtual 348, 3) := by decide +kernel
theorem dX9_advance_39 : decode cX9_advance 39 = .ok (.aload_n 0, 1) := by decide +kernel
theorem dX9_advance_40 : decode cX9_advance 40 = .ok (.getfield 20, 3) := by decide +kernel
theorem dX9_advance_43 : decode cX9_advance 43 = .ok (.dup, 1) := by decide +kernel
theorem dX9_advance_44 : decode cX9_advance 44 = .ok (.getfield 125, 3) := by decide +kernel
theorem dX9_advance_47 : decode cX9_advance 47 = .ok (.iload_n 1, 1) := by decide +kernel
theorem dX9_advance_48 : decode cX9_advance 48 = .ok (.iadd, 1) := by decide +kernel
theorem dX9_advance_49 : decode cX9_advance 49 = .ok (.putfield 125, 3) := by decide +kernel
theorem dX9_advance_52 : decode cX9_advance 52 = .ok (.aload_n 0, 1) := by decide +kernel
theorem dX9_advance_53 : decode cX9_advance 53 = .ok (.getfield 20, 3) := by decide +kernel
theorem dX9_advance_56 : decode cX9_advance 56 = .ok (.getfield 125, 3) := by decide +kernel
theorem dX9_advance_59 : decode cX9_advance 59 = .ok (.ireturn, 1) := by decide +kernel
theorem dX9_setOn_0 : decode cX9_setOn 0 = .ok (.aload_n 0, 1) := by decide +kernel
theorem dX9_setOn_1 : decode cX9_setOn 1 = .ok (.invokevirtual 134, 3) := by decide +kernel
theorem dX9_setOn_4 : decode cX9_setOn 4 = .ok (.aload_n 0, 1) := by decide +kernel
theorem dX9_setOn_5 : decode cX9_setOn 5 = .ok (.iload_n 1, 1) := by decide +kernel
theorem dX9_setOn_6 : decode cX9_setOn 6 = .ok (.invokevirtual 150, 3) := by decide +kernel
theorem dX9_setOn_9 : decode cX9_setOn 9 = .ok (.aload_n 0, 1) := by decide +kernel
theorem dX9_setOn_10 : decode cX9_setOn 10 = .ok (.getfield 30, 3) := by decide +kernel
theorem dX9_setOn_13 : decode cX9_setOn 13 = .ok (.aload_n 0, 1) := by decide +kernel
theorem dX9_setOn_14 : decode cX9_setOn 14 = .ok (.getfield 20, 3) := by decide +kernel
theorem dX9_setOn_17 : decode cX9_setOn 17 = .ok (.invokevirtual 348, 3) := by decide +kernel
theorem dX9_setOn_20 : decode cX9_setOn 20 = .ok (.aload_n 0, 1) := by decide +kernel
theorem dX9_setOn_21 : decode cX9_setOn 21 = .ok (.getfield 20, 3) := by decide +kernel
theorem dX9_setOn_24 : decode cX9_setOn 24 = .ok (.getfield 188, 3) := by decide +kernel
theorem dX9_setOn_27 : decode cX9_setOn 27 = .ok (.iload_n 1, 1) := by decide +kernel
theorem dX9_setOn_28 : decode cX9_setOn 28 = .ok (.baload, 1) := by decide +kernel
theorem dX9_setOn_29 : decode cX9_setOn 29 = .ok (.istore_n 3, 1) := by decide +kernel
theorem dX9_setOn_30 : decode cX9_setOn 30 = .ok (.aload_n 0, 1) := by decide +kernel
theorem dX9_setOn_31 : decode cX9_setOn 31 = .ok (.getfield 20, 3) := by decide +kernel
theorem dX9_setOn_34 : decode cX9_setOn 34 = .ok (.getfield 188, 3) := by decide +kernel
theorem dX9_setOn_37 : decode cX9_setOn 37 = .ok (.iload_n 1, 1) := by decide +kernel
theorem dX9_setOn_38 : decode cX9_setOn 38 = .ok (.iload_n 2, 1) := by decide +kernel
theorem dX9_setOn_39 : decode cX9_setOn 39 = .ok (.bastore, 1) := by decide +kernel
theorem dX9_setOn_40 : decode cX9_setOn 40 = .ok (.iload_n 3, 1) := by decide +kernel
theorem dX9_setOn_41 : decode cX9_setOn 41 = .ok (.ireturn, 1) := by decide +kernel
theorem dX9_setPhase_0 : decode cX9_setPhase 0 = .ok (.aload_n 0, 1) := by decide +kernel
theorem dX9_setPhase_1 : decode cX9_setPhase 1 = .ok (.invokevirtual 134, 3) := by decide +kernel
theorem dX9_setPhase_4 : decode cX9_setPhase 4 = .ok (.aload_n 0, 1) := by decide +kernel
theorem dX9_setPhase_5 : decode cX9_setPhase 5 = .ok (.iload_n 1, 1) := by decide +kernel
theorem dX9_setPhase_6 : decode cX9_setPhase 6 = .ok (.invokevirtual 150, 3) := by decide +kernel
theorem dX9_setPhase_9 : decode cX9_setPhase 9 = .ok (.iload_n 2, 1) := by decide +kernel
theorem dX9_setPhase_10 : decode cX9_setPhase 10 = .ok (.iconst 0, 1) := by decide +kernel
theorem dX9_setPhase_11 : decode cX9_setPhase 11 = .ok (.sipush 359, 3) := by decide +kernel
theorem dX9_setPhase_14 : decode cX9_setPhase 14 = .ok (.invokestatic 153, 3) := by decide +kernel
theorem dX9_setPhase_17 : decode cX9_setPhase 17 = .ok (.aload_n 0, 1) := by decide +kernel
theorem dX9_setPhase_18 : decode cX9_setPhase 18 = .ok (.getfield 30, 3) := by decide +kernel
theorem dX9_setPhase_21 : decode cX9_setPhase 21 = .ok (.aload_n 0, 1) := by decide +kernel
theorem dX9_setPhase_22 : decode cX9_setPhase 22 = .ok (.getfield 20, 3) := by decide +kernel
theorem dX9_setPhase_25 : decode cX9_setPhase 25 = .ok (.invokevirtual 348, 3) := by decide +kernel
theorem dX9_setPhase_28 : decode cX9_setPhase 28 = .ok (.aload_n 0, 1) := by decide +kernel
theorem dX9_setPhase_29 : decode cX9_setPhase 29 = .ok (.getfield 20, 3) := by decide +kernel
theorem dX9_setPhase_32 : decode cX9_setPhase 32 = .ok (.getfield 179, 3) := by decide +kernel
theorem dX9_setPhase_35 : decode cX9_setPhase 35 = .ok (.iload_n 1, 1) := by decide +kernel
theorem dX9_setPhase_36 : decode cX9_setPhase 36 = .ok (.iaload, 1) := by decide +kernel
theorem dX9_setPhase_37 : decode cX9_setPhase 37 = .ok (.istore_n 3, 1) := by decide +kernel
theorem dX9_setPhase_38 : decode cX9_setPhase 38 = .ok (.aload_n 0, 1) := by decide +kernel
theorem dX9_setPhase_39 : decode cX9_setPhase 39 = .ok (.getfield 20, 3) := by decide +kernel
theorem dX9_setPhase_42 : decode cX9_setPhase 42 = .ok (.getfield 179, 3) := by decide +kernel
theorem dX9_setPhase_45 : decode cX9_setPhase 45 = .ok (.iload_n 1, 1) := by decide +kernel
theorem dX9_setPhase_46 : decode cX9_setPhase 46 = .ok (.iload_n 2, 1) := by decide +kernel
theorem dX9_setPhase_47 : decode cX9_setPhase 47 = .ok (.iastore, 1) := by decide +kernel
theorem dX9_setPhase_48 : decode cX9_setPhase 48 = .ok (.iload_n 3, 1) := by decide +kernel
theorem dX9_setPhase_49 : decode cX9_setPhase 49 = .ok (.ireturn, 1) := by decide +kernel
theorem dX9_setAmp_0 : decode cX9_setAmp 0 = .ok (.aload_n 0, 1) := by decide +kernel
theorem dX9_setAmp_1 : decode cX9_setAmp 1 = .ok (.invokevirtual 134, 3) := by decide +kernel
theorem dX9_setAmp_4 : decode cX9_setAmp 4 = .ok (.aload_n 0, 1) := by decide +kernel
theorem dX9_setAmp_5 : decode cX9_setAmp 5 = .ok (.iload_n 1, 1) := by decide +kernel
theorem dX9_setAmp_6 : decode cX9_setAmp 6 = .ok (.invokevirtual 150, 3) := by decide +kernel
theorem dX9_setAmp_9 : decode cX9_setAmp 9 = .ok (.iload_n 2, 1) := by decide +kernel
theorem dX9_setAmp_10 : decode cX9_setAmp 10 = .ok (.iconst 1, 1) := by decide +kernel
theorem dX9_setAmp_11 : decode cX9_setAmp 11 = .ok (.sipush 999, 3) := by decide +kernel
theorem dX9_setAmp_14 : decode cX9_setAmp 14 = .ok (.invokestatic 153, 3) := by decide +kernel
theorem dX9_setAmp_17 : decode cX9_setAmp 17 = .ok (.aload_n 0, 1) := by decide +kernel
theorem dX9_setAmp_18 : decode cX9_setAmp 18 = .ok (.getfield 30, 3) := by decide +kernel
theorem dX9_setAmp_21 : decode cX9_setAmp 21 = .ok (.aload_n 0, 1) := by decide +kernel
theorem dX9_setAmp_22 : decode cX9_setAmp 22 = .ok (.getfield 20, 3) := by decide +kernel
theorem dX9_setAmp_25 : decode cX9_setAmp 25 = .ok (.invokevirtual 348, 3) := by decide +kernel
theorem dX9_setAmp_28 : decode cX9_setAmp 28 = .ok (.aload_n 0, 1) := by decide +kernel
theorem dX9_setAmp_29 : decode cX9_setAmp 29 = .ok (.getfield 20, 3) := by decide +kernel
theorem dX9_setAmp_32 : decode cX9_setAmp 32 = .ok (.getfield 164, 3) := by decide +kernel
theorem dX9_setAmp_35 : decode cX9_setAmp 35 = .ok (.iload_n 1, 1) := by decide +kernel
theorem dX9_setAmp_36 : decode cX9_setAmp 36 = .ok (.iaload, 1) := by decide +kernel
theorem dX9_setAmp_37 : decode cX9_setAmp 37 = .ok (.istore_n 3, 1) := by decide +kernel
theorem dX9_setAmp_38 : decode cX9_setAmp 38 = .ok (.aload_n 0, 1) := by decide +kernel
theorem dX9_setAmp_39 : decode cX9_setAmp 39 = .ok (.getfield 20, 3) := by decide +kernel
theorem dX9_setAmp_42 : decode cX9_setAmp 42 = .ok (.getfield 164, 3) := by decide +kernel
theorem dX9_setAmp_45 : decode cX9_setAmp 45 = .ok (.iload_n 1, 1) := by decide +kernel
theorem dX9_setAmp_46 : decode cX9_setAmp 46 = .ok (.iload_n 2, 1) := by decide +kernel
theorem dX9_setAmp_47 : decode cX9_setAmp 47 = .ok (.iastore, 1) := by decide +kernel
theorem dX9_setAmp_48 : decode cX9_setAmp 48 = .ok (.iload_n 3, 1) := by decide +kernel
theorem dX9_setAmp_49 : decode cX9_setAmp 49 = .ok (.ireturn, 1) := by decide +kernel
theorem dX9_moveSource_0 : decode cX9_moveSource 0 = .ok (.aload_n 0, 1) := by decide +kernel
theorem dX9_moveSource_1 : decode cX9_moveSource 1 = .ok (.invokevirtual 134, 3) := by decide +kernel
theorem dX9_moveSource_4 : decode cX9_moveSource 4 = .ok (.aload_n 0, 1) := by decide +kernel
theorem dX9_moveSource_5 : decode cX9_moveSource 5 = .ok (.iload_n 1, 1) := by decide +kernel
theorem dX9_moveSource_6 : decode cX9_moveSource 6 = .ok (.invokevirtual 150, 3) := by decide +kernel
theorem dX9_moveSource_9 : decode cX9_moveSource 9 = .ok (.aload_n 0, 1) := by decide +kernel
theorem dX9_moveSource_10 : decode cX9_moveSource 10 = .ok (.iload_n 2, 1) := by decide +kernel
theorem dX9_moveSource_11 : decode cX9_moveSource 11 = .ok (.iload_n 3, 1) := by decide +kernel
theorem dX9_moveSource_12 : decode cX9_moveSource 12 = .ok (.invokevirtual 206, 3) := by decide +kernel
theorem dX9_moveSource_15 : decode cX9_moveSource 15 = .ok (.aload_n 0, 1) := by decide +kernel
theorem dX9_moveSource_16 : decode cX9_moveSource 16 = .ok (.getfield 30, 3) := by decide +kernel
theorem dX9_moveSource_19 : decode cX9_moveSource 19 = .ok (.aload_n 0, 1) := by decide +kernel
theorem dX9_moveSource_20 : decode cX9_moveSource 20 = .ok (.getfield 20, 3) := by decide +kernel
theorem dX9_moveSource_23 : decode cX9_moveSource 23 = .ok (.invokevirtual 348, 3) := by decide +kernel
theorem dX9_moveSource_26 : decode cX9_moveSource 26 = .ok (.aload_n 0, 1) := by decide +kernel
theorem dX9_moveSource_27 : decode cX9_moveSource 27 = .ok (.getfield 20, 3) := by decide +kernel
theorem dX9_moveSource_30 : decode cX9_moveSource 30 = .ok (.getfield 338, 3) := by decide +kernel
theorem dX9_moveSource_33 : decode cX9_moveSource 33 = .ok (.iload_n 1, 1) := by decide +kernel
theorem dX9_moveSource_34 : decode cX9_moveSource 34 = .ok (.iload_n 2, 1) := by decide +kernel
theorem dX9_moveSource_35 : decode cX9_moveSource 35 = .ok (.iastore, 1) := by decide +kernel
theorem dX9_moveSource_36 : decode cX9_moveSource 36 = .ok (.aload_n 0, 1) := by decide +kernel
theorem dX9_moveSource_37 : decode cX9_moveSource 37 = .ok (.getfield 20, 3) := by decide +kernel
theorem dX9_moveSource_40 : decode cX9_moveSource 40 = .ok (.getfield 340, 3) := by decide +kernel
theorem dX9_moveSource_43 : decode cX9_moveSource 43 = .ok (.iload_n 1, 1) := by decide +kernel
theorem dX9_moveSource_44 : decode cX9_moveSource 44 = .ok (.iload_n 3, 1) := by decide +kernel
theorem dX9_moveSource_45 : decode cX9_moveSource 45 = .ok (.iastore, 1) := by decide +kernel
theorem dX9_moveSource_46 : decode cX9_moveSource 46 = .ok (.aload_n 0, 1) := by decide +kernel
theorem dX9_moveSource_47 : decode cX9_moveSource 47 = .ok (.getfield 72, 3) := by decide +kernel
theorem dX9_moveSource_50 : decode cX9_moveSource 50 = .ok (.aload_n 0, 1) := by decide +kernel
theorem dX9_moveSource_51 : decode cX9_moveSource 51 = .ok (.getfield 20, 3) := by decide +kernel
theorem dX9_moveSource_54 : decode cX9_moveSource 54 = .ok (.iload_n 1, 1) := by decide +kernel
theorem dX9_moveSource_55 : decode cX9_moveSource 55 = .ok (.invokevirtual 351, 3) := by decide +kernel
theorem dX9_moveSource_58 : decode cX9_moveSource 58 = .ok (.ireturn, 1) := by decide +kernel
theorem dX9_turnRow_0 : decode cX9_turnRow 0 = .ok (.aload_n 0, 1) := by decide +kernel
theorem dX9_turnRow_1 : decode cX9_turnRow 1 = .ok (.invokevirtual 134, 3) := by decide +kernel
theorem dX9_turnRow_4 : decode cX9_turnRow 4 = .ok (.aload_n 0, 1) := by decide +kernel
theorem dX9_turnRow_5 : decode cX9_turnRow 5 = .ok (.getfield 72, 3) := by decide +kernel
theorem dX9_turnRow_8 : decode cX9_turnRow 8 = .ok (.getfield 137, 3) := by decide +kernel
theorem dX9_turnRow_11 : decode cX9_turnRow 11 = .ok (.iconst (-1), 1) := by decide +kernel
theorem dX9_turnRow_12 : decode cX9_turnRow 12 = .ok (.if_icmp .ne 14, 3) := by decide +kernel
theorem dX9_turnRow_15 : decode cX9_turnRow 15 = .ok (.new 361, 3) := by decide +kernel
theorem dX9_turnRow_18 : decode cX9_turnRow 18 = .ok (.dup, 1) := by decide +kernel
theorem dX9_turnRow_19 : decode cX9_turnRow 19 = .ok (.ldc_w 363, 3) := by decide +kernel
theorem dX9_turnRow_22 : decode cX9_turnRow 22 = .ok (.invokespecial 365, 3) := by decide +kernel
theorem dX9_turnRow_25 : decode cX9_turnRow 25 = .ok (.athrow, 1) := by decide +kernel
theorem dX9_turnRow_26 : decode cX9_turnRow 26 = .ok (.aload_n 0, 1) := by decide +kernel
theorem dX9_turnRow_27 : decode cX9_turnRow 27 = .ok (.iload_n 1, 1) := by decide +kernel
theorem dX9_turnRow_28 : decode cX9_turnRow 28 = .ok (.invokevirtual 143, 3) := by decide +kernel
theorem dX9_turnRow_31 : decode cX9_turnRow 31 = .ok (.aload_n 0, 1) := by decide +kernel
theorem dX9_turnRow_32 : decode cX9_turnRow 32 = .ok (.getfield 30, 3) := by decide +kernel
theorem dX9_turnRow_35 : decode cX9_turnRow 35 = .ok (.aload_n 0, 1) := by decide +kernel
theorem dX9_turnRow_36 : decode cX9_turnRow 36 = .ok (.getfield 20, 3) := by decide +kernel
theorem dX9_turnRow_39 : decode cX9_turnRow 39 = .ok (.invokevirtual 348, 3) := by decide +kernel
theorem dX9_turnRow_42 : decode cX9_turnRow 42 = .ok (.aload_n 0, 1) := by decide +kernel
theorem dX9_turnRow_43 : decode cX9_turnRow 43 = .ok (.getfield 20, 3) := by decide +kernel
theorem dX9_turnRow_46 : decode cX9_turnRow 46 = .ok (.iload_n 1, 1) := by decide +kernel
theorem dX9_turnRow_47 : decode cX9_turnRow 47 = .ok (.invokevirtual 366, 3) := by decide +kernel
theorem dX9_turnRow_50 : decode cX9_turnRow 50 = .ok (.aload_n 0, 1) := by decide +kernel
theorem dX9_turnRow_51 : decode cX9_turnRow 51 = .ok (.getfield 20, 3) := by decide +kernel
theorem dX9_turnRow_54 : decode cX9_turnRow 54 = .ok (.iload_n 1, 1) := by decide +kernel
theorem dX9_turnRow_55 : decode cX9_turnRow 55 = .ok (.invokevirtual 146, 3) := by decide +kernel
theorem dX9_turnRow_58 : decode cX9_turnRow 58 = .ok (.ireturn, 1) := by decide +kernel
theorem dX9_undo_0 : decode cX9_undo 0 = .ok (.aload_n 0, 1) := by decide +kernel
theorem dX9_undo_1 : decode cX9_undo 1 = .ok (.getfield 30, 3) := by decide +kernel
theorem dX9_undo_4 : decode cX9_undo 4 = .ok (.getfield 369, 3) := by decide +kernel
theorem dX9_undo_7 : decode cX9_undo 7 = .ok (.ifCond .ne 14, 3) := by decide +kernel
theorem dX9_undo_10 : decode cX9_undo 10 = .ok (.new 361, 3) := by decide +kernel
theorem dX9_undo_13 : decode cX9_undo 13 = .ok (.dup, 1) := by decide +kernel
theorem dX9_undo_14 : decode cX9_undo 14 = .ok (.ldc_w 372, 3) := by decide +kernel
theorem dX9_undo_17 : decode cX9_undo 17 = .ok (.invokespecial 365, 3) := by decide +kernel
theorem dX9_undo_20 : decode cX9_undo 20 = .ok (.athrow, 1) := by decide +kernel
theorem dX9_undo_21 : decode cX9_undo 21 = .ok (.aload_n 0, 1) := by decide +kernel
theorem dX9_undo_22 : decode cX9_undo 22 = .ok (.getfield 30, 3) := by decide +kernel
theorem dX9_undo_25 : decode cX9_undo 25 = .ok (.aload_n 0, 1) := by decide +kernel
theorem dX9_undo_26 : decode cX9_undo 26 = .ok (.getfield 20, 3) := by decide +kernel
theorem dX9_undo_29 : decode cX9_undo 29 = .ok (.invokevirtual 374, 3) := by decide +kernel
theorem dX9_undo_32 : decode cX9_undo 32 = .ok (.aload_n 0, 1) := by decide +kernel
theorem dX9_undo_33 : decode cX9_undo 33 = .ok (.getfield 30, 3) := by decide +kernel
theorem dX9_undo_36 : decode cX9_undo 36 = .ok (.getfield 369, 3) := by decide +kernel
theorem dX9_undo_39 : decode cX9_undo 39 = .ok (.ireturn, 1) := by decide +kernel
theorem dX9_undoable_0 : decode cX9_undoable 0 = .ok (.aload_n 0, 1) := by decide +kernel
theorem dX9_undoable_1 : decode cX9_undoable 1 = .ok (.getfield 30, 3) := by decide +kernel
theorem dX9_undoable_4 : decode cX9_undoable 4 = .ok (.getfield 369, 3) := by decide +kernel
theorem dX9_undoable_7 : decode cX9_undoable 7 = .ok (.ireturn, 1) := by decide +kernel
theorem dX9_save_0 : decode cX9_save 0 = .ok (.aload_n 0, 1) := by decide +kernel
theorem dX9_save_1 : decode cX9_save 1 = .ok (.invokevirtual 134, 3) := by decide +kernel
theorem dX9_save_4 : decode cX9_save 4 = .ok (.iload_n 1, 1) := by decide +kernel
theorem dX9_save_5 : decode cX9_save 5 = .ok (.invokestatic 377, 3) := by decide +kernel
theorem dX9_save_8 : decode cX9_save 8 = .ok (.aload_n 0, 1) := by decide +kernel
theorem dX9_save_9 : decode cX9_save 9 = .ok (.getfield 34, 3) := by decide +kernel
theorem dX9_save_12 : decode cX9_save 12 = .ok (.iload_n 1, 1) := by decide +kernel
theorem dX9_save_13 : decode cX9_save 13 = .ok (.aaload, 1) := by decide +kernel
theorem dX9_save_14 : decode cX9_save 14 = .ok (.aload_n 0, 1) := by decide +kernel
theorem dX9_save_15 : decode cX9_save 15 = .ok (.getfield 20, 3) := by decide +kernel
theorem dX9_save_18 : decode cX9_save 18 = .ok (.invokevirtual 111, 3) := by decide +kernel
theorem dX9_save_21 : decode cX9_save 21 = .ok (.aload_n 0, 1) := by decide +kernel
theorem dX9_save_22 : decode cX9_save 22 = .ok (.getfield 38, 3) := by decide +kernel
theorem dX9_save_25 : decode cX9_save 25 = .ok (.iload_n 1, 1) := by decide +kernel
theorem dX9_save_26 : decode cX9_save 26 = .ok (.iconst 1, 1) := by decide +kernel
theorem dX9_save_27 : decode cX9_save 27 = .ok (.bastore, 1) := by decide +kernel
theorem dX9_save_28 : decode cX9_save 28 = .ok (.aload_n 0, 1) := by decide +kernel
theorem dX9_save_29 : decode cX9_save 29 = .ok (.getfield 20, 3) := by decide +kernel
theorem dX9_save_32 : decode cX9_save 32 = .ok (.getfield 125, 3) := by decide +kernel
theorem dX9_save_35 : decode cX9_save 35 = .ok (.ireturn, 1) := by decide +kernel
theorem dX9_restore_0 : decode cX9_restore 0 = .ok (.iload_n 1, 1) := by decide +kernel
theorem dX9_restore_1 : decode cX9_restore 1 = .ok (.invokestatic 377, 3) := by decide +kernel
theorem dX9_restore_4 : decode cX9_restore 4 = .ok (.aload_n 0, 1) := by decide +kernel
theorem dX9_restore_5 : decode cX9_restore 5 = .ok (.getfield 38, 3) := by decide +kernel
theorem dX9_restore_8 : decode cX9_restore 8 = .ok (.iload_n 1, 1) := by decide +kernel
theorem dX9_restore_9 : decode cX9_restore 9 = .ok (.baload, 1) := by decide +kernel
theorem dX9_restore_10 : decode cX9_restore 10 = .ok (.ifCond .ne 14, 3) := by decide +kernel
theorem dX9_restore_13 : decode cX9_restore 13 = .ok (.new 361, 3) := by decide +kernel
theorem dX9_restore_16 : decode cX9_restore 16 = .ok (.dup, 1) := by decide +kernel
theorem dX9_restore_17 : decode cX9_restore 17 = .ok (.ldc_w 380, 3) := by decide +kernel
theorem dX9_restore_20 : decode cX9_restore 20 = .ok (.invokespecial 365, 3) := by decide +kernel
theorem dX9_restore_23 : decode cX9_restore 23 = .ok (.athrow, 1) := by decide +kernel
theorem dX9_restore_24 : decode cX9_restore 24 = .ok (.aload_n 0, 1) := by decide +kernel
theorem dX9_restore_25 : decode cX9_restore 25 = .ok (.getfield 20, 3) := by decide +kernel
theorem dX9_restore_28 : decode cX9_restore 28 = .ok (.aload_n 0, 1) := by decide +kernel
theorem dX9_restore_29 : decode cX9_restore 29 = .ok (.getfield 34, 3) := by decide +kernel
theorem dX9_restore_32 : decode cX9_restore 32 = .ok (.iload_n 1, 1) := by decide +kernel
theorem dX9_restore_33 : decode cX9_restore 33 = .ok (.aaload, 1) := by decide +kernel
theorem dX9_restore_34 : decode cX9_restore 34 = .ok (.invokevirtual 111, 3) := by decide +kernel
theorem dX9_restore_37 : decode cX9_restore 37 = .ok (.aload_n 0, 1) := by decide +kernel
theorem dX9_restore_38 : decode cX9_restore 38 = .ok (.getfield 30, 3) := by decide +kernel
theorem dX9_restore_41 : decode cX9_restore 41 = .ok (.invokevirtual 115, 3) := by decide +kernel
theorem dX9_restore_44 : decode cX9_restore 44 = .ok (.aload_n 0, 1) := by decide +kernel
theorem dX9_restore_45 : decode cX9_restore 45 = .ok (.getfield 20, 3) := by decide +kernel
theorem dX9_restore_48 : decode cX9_restore 48 = .ok (.getfield 125, 3) := by decide +kernel
theorem dX9_restore_51 : decode cX9_restore 51 = .ok (.ireturn, 1) := by decide +kernel
theorem dX9_needTank_0 : decode cX9_needTank 0 = .ok (.aload_n 0, 1) := by decide +kernel
theorem dX9_needTank_1 : decode cX9_needTank 1 = .ok (.getfield 118, 3) := by decide +kernel
theorem dX9_needTank_4 : decode cX9_needTank 4 = .ok (.ifCond .ne 14, 3) := by decide +kernel
theorem dX9_needTank_7 : decode cX9_needTank 7 = .ok (.new 361, 3) := by decide +kernel
theorem dX9_needTank_10 : decode cX9_needTank 10 = .ok (.dup, 1) := by decide +kernel
theorem dX9_needTank_11 : decode cX9_needTank 11 = .ok (.ldc_w 382, 3) := by decide +kernel
theorem dX9_needTank_14 : decode cX9_needTank 14 = .ok (.invokespecial 365, 3) := by decide +kernel
theorem dX9_needTank_17 : decode cX9_needTank 17 = .ok (.athrow, 1) := by decide +kernel
theorem dX9_needTank_18 : decode cX9_needTank 18 = .ok (.return_, 1) := by decide +kernel
theorem dX9_needSource_0 : decode cX9_needSource 0 = .ok (.iload_n 1, 1) := by decide +kernel
theorem dX9_needSource_1 : decode cX9_needSource 1 = .ok (.ifCond .lt 14, 3) := by decide +kernel
theorem dX9_needSource_4 : decode cX9_needSource 4 = .ok (.iload_n 1, 1) := by decide +kernel
theorem dX9_needSource_5 : decode cX9_needSource 5 = .ok (.aload_n 0, 1) := by decide +kernel
theorem dX9_needSource_6 : decode cX9_needSource 6 = .ok (.getfield 72, 3) := by decide +kernel
theorem dX9_needSource_9 : decode cX9_needSource 9 = .ok (.getfield 122, 3) := by decide +kernel
theorem dX9_needSource_12 : decode cX9_needSource 12 = .ok (.if_icmp .lt 14, 3) := by decide +kernel
theorem dX9_needSource_15 : decode cX9_needSource 15 = .ok (.new 86, 3) := by decide +kernel
theorem dX9_needSource_18 : decode cX9_needSource 18 = .ok (.dup, 1) := by decide +kernel
theorem dX9_needSource_19 : decode cX9_needSource 19 = .ok (.ldc_w 384, 3) := by decide +kernel
theorem dX9_needSource_22 : decode cX9_needSource 22 = .ok (.invokespecial 90, 3) := by decide +kernel
theorem dX9_needSource_25 : decode cX9_needSource 25 = .ok (.athrow, 1) := by decide +kernel
theorem dX9_needSource_26 : decode cX9_needSource 26 = .ok (.return_, 1) := by decide +kernel
theorem dX9_needGauge_0 : decode cX9_needGauge 0 = .ok (.iload_n 1, 1) := by decide +kernel
theorem dX9_needGauge_1 : decode cX9_needGauge 1 = .ok (.ifCond .lt 14, 3) := by decide +kernel
theorem dX9_needGauge_4 : decode cX9_needGauge 4 = .ok (.iload_n 1, 1) := by decide +kernel
theorem dX9_needGauge_5 : decode cX9_needGauge 5 = .ok (.aload_n 0, 1) := by decide +kernel
theorem dX9_needGauge_6 : decode cX9_needGauge 6 = .ok (.getfield 72, 3) := by decide +kernel
theorem dX9_needGauge_9 : decode cX9_needGauge 9 = .ok (.getfield 244, 3) := by decide +kernel
theorem dX9_needGauge_12 : decode cX9_needGauge 12 = .ok (.if_icmp .lt 14, 3) := by decide +kernel
theorem dX9_needGauge_15 : decode cX9_needGauge 15 = .ok (.new 86, 3) := by decide +kernel
theorem dX9_needGauge_18 : decode cX9_needGauge 18 = .ok (.dup, 1) := by decide +kernel
theorem dX9_needGauge_19 : decode cX9_needGauge 19 = .ok (.ldc_w 386, 3) := by decide +kernel
theorem dX9_needGauge_22 : decode cX9_needGauge 22 = .ok (.invokespecial 90, 3) := by decide +kernel
theorem dX9_needGauge_25 : decode cX9_needGauge 25 = .ok (.athrow, 1) := by decide +kernel
theorem dX9_needGauge_26 : decode cX9_needGauge 26 = .ok (.return_, 1) := by decide +kernel
theorem dX9_needColumn_0 : decode cX9_needColumn 0 = .ok (.iload_n 1, 1) := by decide +kernel
theorem dX9_needColumn_1 : decode cX9_needColumn 1 = .ok (.ifCond .lt 14, 3) := by decide +kernel
theorem dX9_needColumn_4 : decode cX9_needColumn 4 = .ok (.iload_n 1, 1) := by decide +kernel
theorem dX9_needColumn_5 : decode cX9_needColumn 5 = .ok (.aload_n 0, 1) := by decide +kernel
theorem dX9_needColumn_6 : decode cX9_needColumn 6 = .ok (.getfield 72, 3) := by decide +kernel
theorem dX9_needColumn_9 : decode cX9_needColumn 9 = .ok (.getfield 128, 3) := by decide +kernel
theorem dX9_needColumn_12 : decode cX9_needColumn 12 = .ok (.if_icmp .lt 14, 3) := by decide +kernel
theorem dX9_needColumn_15 : decode cX9_needColumn 15 = .ok (.new 86, 3) := by decide +kernel
theorem dX9_needColumn_18 : decode cX9_needColumn 18 = .ok (.dup, 1) := by decide +kernel
theorem dX9_needColumn_19 : decode cX9_needColumn 19 = .ok (.ldc_w 388, 3) := by decide +kernel
theorem dX9_needColumn_22 : decode cX9_needColumn 22 = .ok (.invokespecial 90, 3) := by decide +kernel
theorem dX9_needColumn_25 : decode cX9_needColumn 25 = .ok (.athrow, 1) := by decide +kernel
theorem dX9_needColumn_26 : decode cX9_needColumn 26 = .ok (.return_, 1) := by decide +kernel
theorem dX9_needRow_0 : decode cX9_needRow 0 = .ok (.iload_n 1, 1) := by decide +kernel
theorem dX9_needRow_1 : decode cX9_needRow 1 = .ok (.ifCond .lt 14, 3) := by decide +kernel
theorem dX9_needRow_4 : decode cX9_needRow 4 = .ok (.iload_n 1, 1) := by decide +kernel
theorem dX9_needRow_5 : decode cX9_needRow 5 = .ok (.aload_n 0, 1) := by decide +kernel
theorem dX9_needRow_6 : decode cX9_needRow 6 = .ok (.getfield 72, 3) := by decide +kernel
theorem dX9_needRow_9 : decode cX9_needRow 9 = .ok (.getfield 131, 3) := by decide +kernel
theorem dX9_needRow_12 : decode cX9_needRow 12 = .ok (.if_icmp .lt 14, 3) := by decide +kernel
theorem dX9_needRow_15 : decode cX9_needRow 15 = .ok (.new 86, 3) := by decide +kernel
theorem dX9_needRow_18 : decode cX9_needRow 18 = .ok (.dup, 1) := by decide +kernel
theorem dX9_needRow_19 : decode cX9_needRow 19 = .ok (.ldc_w 390, 3) := by decide +kernel
theorem dX9_needRow_22 : decode cX9_needRow 22 = .ok (.invokespecial 90, 3) := by decide +kernel
theorem dX9_needRow_25 : decode cX9_needRow 25 = .ok (.athrow, 1) := by decide +kernel
theorem dX9_needRow_26 : decode cX9_needRow 26 = .ok (.return_, 1) := by decide +kernel
theorem dX9_needCell_0 : decode cX9_needCell 0 = .ok (.aload_n 0, 1) := by decide +kernel
theorem dX9_needCell_1 : decode cX9_needCell 1 = .ok (.iload_n 1, 1) := by decide +kernel
theorem dX9_needCell_2 : decode cX9_needCell 2 = .ok (.invokevirtual 312, 3) := by decide +kernel
theorem dX9_needCell_5 : decode cX9_needCell 5 = .ok (.aload_n 0, 1) := by decide +kernel
theorem dX9_needCell_6 : decode cX9_needCell 6 = .ok (.iload_n 2, 1) := by decide +kernel
theorem dX9_needCell_7 : decode cX9_needCell 7 = .ok (.invokevirtual 143, 3) := by decide +kernel
theorem dX9_needCell_10 : decode cX9_needCell 10 = .ok (.return_, 1) := by decide +kernel
theorem dX9_needSlot_0 : decode cX9_needSlot 0 = .ok (.iload_n 0, 1) := by decide +kernel
theorem dX9_needSlot_1 : decode cX9_needSlot 1 = .ok (.ifCond .lt 8, 3) := by decide +kernel
theorem dX9_needSlot_4 : decode cX9_needSlot 4 = .ok (.iload_n 0, 1) := by decide +kernel
theorem dX9_needSlot_5 : decode cX9_needSlot 5 = .ok (.iconst 2, 1) := by decide +kernel
theorem dX9_needSlot_6 : decode cX9_needSlot 6 = .ok (.if_icmp .lt 14, 3) := by decide +kernel
theorem dX9_needSlot_9 : decode cX9_needSlot 9 = .ok (.new 86, 3) := by decide +kernel
theorem dX9_needSlot_12 : decode cX9_needSlot 12 = .ok (.dup, 1) := by decide +kernel
theorem dX9_needSlot_13 : decode cX9_needSlot 13 = .ok (.ldc_w 392, 3) := by decide +kernel
theorem dX9_needSlot_16 : decode cX9_needSlot 16 = .ok (.invokespecial 90, 3) := by decide +kernel
theorem dX9_needSlot_19 : decode cX9_needSlot 19 = .ok (.athrow, 1) := by decide +kernel
theorem dX9_needSlot_20 : decode cX9_needSlot 20 = .ok (.return_, 1) := by decide +kernel
theorem dX9_needTimes_0 : decode cX9_needTimes 0 = .ok (.iload_n 0, 1) := by decide +kernel
theorem dX9_needTimes_1 : decode cX9_needTimes 1 = .ok (.iconst 1, 1) := by decide +kernel
theorem dX9_needTimes_2 : decode cX9_needTimes 2 = .ok (.bipush 40, 2) := by decide +kernel
theorem dX9_needTimes_4 : decode cX9_needTimes 4 = .ok (.invokestatic 153, 3) := by decide +kernel
theorem dX9_needTimes_7 : decode cX9_needTimes 7 = .ok (.return_, 1) := by decide +kernel
theorem dX9_needTolerance_0 : decode cX9_needTolerance 0 = .ok (.iload_n 0, 1) := by decide +kernel
theorem dX9_needTolerance_1 : decode cX9_needTolerance 1 = .ok (.iconst 0, 1) := by decide +kernel
theorem dX9_needTolerance_2 : decode cX9_needTolerance 2 = .ok (.sipush 9999, 3) := by decide +kernel
theorem dX9_needTolerance_5 : decode cX9_needTolerance 5 = .ok (.invokestatic 153, 3) := by decide +kernel
theorem dX9_needTolerance_8 : decode cX9_needTolerance 8 = .ok (.return_, 1) := by decide +kernel
theorem dX9_needRange_0 : decode cX9_needRange 0 = .ok (.iload_n 0, 1) := by decide +kernel
theorem dX9_needRange_1 : decode cX9_needRange 1 = .ok (.iload_n 1, 1) := by decide +kernel
theorem dX9_needRange_2 : decode cX9_needRange 2 = .ok (.if_icmp .lt 8, 3) := by decide +kernel
theorem dX9_needRange_5 : decode cX9_needRange 5 = .ok (.iload_n 0, 1) := by decide +kernel
theorem dX9_needRange_6 : decode cX9_needRange 6 = .ok (.iload_n 2, 1) := by decide +kernel
theorem dX9_needRange_7 : decode cX9_needRange 7 = .ok (.if_icmp .le 14, 3) := by decide +kernel
theorem dX9_needRange_10 : decode cX9_needRange 10 = .ok (.new 106, 3) := by decide +kernel
theorem dX9_needRange_13 : decode cX9_needRange 13 = .ok (.dup, 1) := by decide +kernel
theorem dX9_needRange_14 : decode cX9_needRange 14 = .ok (.ldc_w 394, 3) := by decide +kernel
theorem dX9_needRange_17 : decode cX9_needRange 17 = .ok (.invokespecial 110, 3) := by decide +kernel
theorem dX9_needRange_20 : decode cX9_needRange 20 = .ok (.athrow, 1) := by decide +kernel
theorem dX9_needRange_21 : decode cX9_needRange 21 = .ok (.return_, 1) := by decide +kernel
theorem dX9_putBytes_0 : decode cX9_putBytes 0 = .ok (.bipush 24, 2) := by decide +kernel
theorem dX9_putBytes_2 : decode cX9_putBytes 2 = .ok (.istore_n 2, 1) := by decide +kernel
theorem dX9_putBytes_3 : decode cX9_putBytes 3 = .ok (.iload_n 2, 1) := by decide +kernel
theorem dX9_putBytes_4 : decode cX9_putBytes 4 = .ok (.ifCond .lt 32, 3) := by decide +kernel
theorem dX9_putBytes_7 : decode cX9_putBytes 7 = .ok (.aload_n 0, 1) := by decide +kernel
theorem dX9_putBytes_8 : decode cX9_putBytes 8 = .ok (.getfield 9, 3) := by decide +kernel
theorem dX9_putBytes_11 : decode cX9_putBytes 11 = .ok (.aload_n 0, 1) := by decide +kernel
theorem dX9_putBytes_12 : decode cX9_putBytes 12 = .ok (.getfield 79, 3) := by decide +kernel
theorem dX9_putBytes_15 : decode cX9_putBytes 15 = .ok (.iload_n 1, 1) := by decide +kernel
theorem dX9_putBytes_16 : decode cX9_putBytes 16 = .ok (.iload_n 2, 1) := by decide +kernel
theorem dX9_putBytes_17 : decode cX9_putBytes 17 = .ok (.iushr, 1) := by decide +kernel
theorem dX9_putBytes_18 : decode cX9_putBytes 18 = .ok (.i2b, 1) := by decide +kernel
theorem dX9_putBytes_19 : decode cX9_putBytes 19 = .ok (.bastore, 1) := by decide +kernel
theorem dX9_putBytes_20 : decode cX9_putBytes 20 = .ok (.aload_n 0, 1) := by decide +kernel
theorem dX9_putBytes_21 : decode cX9_putBytes 21 = .ok (.dup, 1) := by decide +kernel
theorem dX9_putBytes_22 : decode cX9_putBytes 22 = .ok (.getfield 79, 3) := by decide +kernel
theorem dX9_putBytes_25 : decode cX9_putBytes 25 = .ok (.iconst 1, 1) := by decide +kernel
theorem dX9_putBytes_26 : decode cX9_putBytes 26 = .ok (.iadd, 1) := by decide +kernel
theorem dX9_putBytes_27 : decode cX9_putBytes 27 = .ok (.putfield 79, 3) := by decide +kernel
theorem dX9_putBytes_30 : decode cX9_putBytes 30 = .ok (.iinc 2 (-8), 3) := by decide +kernel
theorem dX9_putBytes_33 : decode cX9_putBytes 33 = .ok (.goto (-30), 3) := by decide +kernel
theorem dX9_putBytes_36 : decode cX9_putBytes 36 = .ok (.return_, 1) := by decide +kernel
theorem dX9_fillSeries_0 : decode cX9_fillSeries 0 = .ok (.aload_n 0, 1) := by decide +kernel
theorem dX9_fillSeries_1 : decode cX9_fillSeries 1 = .ok (.getfield 72, 3) := by decide +kernel
theorem dX9_fillSeries_4 : decode cX9_fillSeries 4 = .ok (.getfield 250, 3) := by decide +kernel
theorem dX9_fillSeries_7 : decode cX9_fillSeries 7 = .ok (.iload_n 1, 1) := by decide +kernel
theorem dX9_fillSeries_8 : decode cX9_fillSeries 8 = .ok (.iaload, 1) := by decide +kernel
theorem dX9_fillSeries_9 : decode cX9_fillSeries 9 = .ok (.istore_n 3, 1) := by decide +kernel
theorem dX9_fillSeries_10 : decode cX9_fillSeries 10 = .ok (.aload_n 0, 1) := by decide +kernel
theorem dX9_fillSeries_11 : decode cX9_fillSeries 11 = .ok (.getfield 72, 3) := by decide +kernel
theorem dX9_fillSeries_14 : decode cX9_fillSeries 14 = .ok (.getfield 253, 3) := by decide +kernel
theorem dX9_fillSeries_17 : decode cX9_fillSeries 17 = .ok (.iload_n 1, 1) := by decide +kernel
theorem dX9_fillSeries_18 : decode cX9_fillSeries 18 = .ok (.iaload, 1) := by decide +kernel
theorem dX9_fillSeries_19 : decode cX9_fillSeries 19 = .ok (.istore 4, 2) := by decide +kernel
theorem dX9_fillSeries_21 : decode cX9_fillSeries 21 = .ok (.iconst 0, 1) := by decide +kernel
theorem dX9_fillSeries_22 : decode cX9_fillSeries 22 = .ok (.istore 5, 2) := by decide +kernel
theorem dX9_fillSeries_24 : decode cX9_fillSeries 24 = .ok (.iload 5, 2) := by decide +kernel
theorem dX9_fillSeries_26 : decode cX9_fillSeries 26 = .ok (.iload_n 2, 1) := by decide +kernel
theorem dX9_fillSeries_27 : decode cX9_fillSeries 27 = .ok (.if_icmp .ge 40, 3) := by decide +kernel
theorem dX9_fillSeries_30 : decode cX9_fillSeries 30 = .ok (.aload_n 0, 1) := by decide +kernel
theorem dX9_fillSeries_31 : decode cX9_fillSeries 31 = .ok (.getfield 60, 3) := by decide +kernel
theorem dX9_fillSeries_34 : decode cX9_fillSeries 34 = .ok (.iload 5, 2) := by decide +kernel
theorem dX9_fillSeries_36 : decode cX9_fillSeries 36 = .ok (.aload_n 0, 1) := by decide +kernel
theorem dX9_fillSeries_37 : decode cX9_fillSeries 37 = .ok (.getfield 72, 3) := by decide +kernel
theorem dX9_fillSeries_40 : decode cX9_fillSeries 40 = .ok (.aload_n 0, 1) := by decide +kernel
theorem dX9_fillSeries_41 : decode cX9_fillSeries 41 = .ok (.getfield 20, 3) := by decide +kernel
theorem dX9_fillSeries_44 : decode cX9_fillSeries 44 = .ok (.iload_n 3, 1) := by decide +kernel
theorem dX9_fillSeries_45 : decode cX9_fillSeries 45 = .ok (.iload 4, 2) := by decide +kernel
theorem dX9_fillSeries_47 : decode cX9_fillSeries 47 = .ok (.aload_n 0, 1) := by decide +kernel
theorem dX9_fillSeries_48 : decode cX9_fillSeries 48 = .ok (.getfield 20, 3) := by decide +kernel
theorem dX9_fillSeries_51 : decode cX9_fillSeries 51 = .ok (.getfield 125, 3) := by decide +kernel
theorem dX9_fillSeries_54 : decode cX9_fillSeries 54 = .ok (.iload 5, 2) := by decide +kernel
theorem dX9_fillSeries_56 : decode cX9_fillSeries 56 = .ok (.iadd, 1) := by decide +kernel
theorem dX9_fillSeries_57 : decode cX9_fillSeries 57 = .ok (.invokevirtual 233, 3) := by decide +kernel
theorem dX9_fillSeries_60 : decode cX9_fillSeries 60 = .ok (.iastore, 1) := by decide +kernel
theorem dX9_fillSeries_61 : decode cX9_fillSeries 61 = .ok (.iinc 5 1, 3) := by decide +kernel
theorem dX9_fillSeries_64 : decode cX9_fillSeries 64 = .ok (.goto (-40), 3) := by decide +kernel
theorem dX9_fillSeries_67 : decode cX9_fillSeries 67 = .ok (.return_, 1) := by decide +kernel
theorem dX9_laggedSum_0 : decode cX9_laggedSum 0 = .ok (.lconst 0, 1) := by decide +kernel
theorem dX9_laggedSum_1 : decode cX9_laggedSum 1 = .ok (.lstore_n 3, 1) := by decide +kernel
theorem dX9_laggedSum_2 : decode cX9_laggedSum 2 = .ok (.iconst 0, 1) := by decide +kernel
theorem dX9_laggedSum_3 : decode cX9_laggedSum 3 = .ok (.istore 5, 2) := by decide +kernel
theorem dX9_laggedSum_5 : decode cX9_laggedSum 5 = .ok (.iload 5, 2) := by decide +kernel
theorem dX9_laggedSum_7 : decode cX9_laggedSum 7 = .ok (.iload_n 1, 1) := by decide +kernel
theorem dX9_laggedSum_8 : decode cX9_laggedSum 8 = .ok (.if_icmp .ge 31, 3) := by decide +kernel
theorem dX9_laggedSum_11 : decode cX9_laggedSum 11 = .ok (.lload_n 3, 1) := by decide +kernel
theorem dX9_laggedSum_12 : decode cX9_laggedSum 12 = .ok (.aload_n 0, 1) := by decide +kernel
theorem dX9_laggedSum_13 : decode cX9_laggedSum 13 = .ok (.getfield 60, 3) := by decide +kernel
theorem dX9_laggedSum_16 : decode cX9_laggedSum 16 = .ok (.iload 5, 2) := by decide +kernel
theorem dX9_laggedSum_18 : decode cX9_laggedSum 18 = .ok (.iaload, 1) := by decide +kernel
theorem dX9_laggedSum_19 : decode cX9_laggedSum 19 = .ok (.i2l, 1) := by decide +kernel
theorem dX9_laggedSum_20 : decode cX9_laggedSum 20 = .ok (.aload_n 0, 1) := by decide +kernel
theorem dX9_laggedSum_21 : decode cX9_laggedSum 21 = .ok (.getfield 60, 3) := by decide +kernel
theorem dX9_laggedSum_24 : decode cX9_laggedSum 24 = .ok (.iload 5, 2) := by decide +kernel
theorem dX9_laggedSum_26 : decode cX9_laggedSum 26 = .ok (.iload_n 2, 1) := by decide +kernel
theorem dX9_laggedSum_27 : decode cX9_laggedSum 27 = .ok (.iadd, 1) := by decide +kernel
theorem dX9_laggedSum_28 : decode cX9_laggedSum 28 = .ok (.iaload, 1) := by decide +kernel
theorem dX9_laggedSum_29 : decode cX9_laggedSum 29 = .ok (.i2l, 1) := by decide +kernel
theorem dX9_laggedSum_30 : decode cX9_laggedSum 30 = .ok (.lmul, 1) := by decide +kernel
theorem dX9_laggedSum_31 : decode cX9_laggedSum 31 = .ok (.ladd, 1) := by decide +kernel
theorem dX9_laggedSum_32 : decode cX9_laggedSum 32 = .ok (.lstore_n 3, 1) := by decide +kernel
theorem dX9_laggedSum_33 : decode cX9_laggedSum 33 = .ok (.iinc 5 1, 3) := by decide +kernel
theorem dX9_laggedSum_36 : decode cX9_laggedSum 36 = .ok (.goto (-31), 3) := by decide +kernel
theorem dX9_laggedSum_39 : decode cX9_laggedSum 39 = .ok (.lload_n 3, 1) := by decide +kernel
theorem dX9_laggedSum_40 : decode cX9_laggedSum 40 = .ok (.lreturn, 1) := by decide +kernel
theorem dX9_calmColumns_0 : decode cX9_calmColumns 0 = .ok (.iconst 0, 1) := by decide +kernel
theorem dX9_calmColumns_1 : decode cX9_calmColumns 1 = .ok (.istore 5, 2) := by decide +kernel
theorem dX9_calmColumns_3 : decode cX9_calmColumns 3 = .ok (.iconst 0, 1) := by decide +kernel
theorem dX9_calmColumns_4 : decode cX9_calmColumns 4 = .ok (.istore 6, 2) := by decide +kernel
theorem dX9_calmColumns_6 : decode cX9_calmColumns 6 = .ok (.iload 6, 2) := by decide +kernel
theorem dX9_calmColumns_8 : decode cX9_calmColumns 8 = .ok (.aload_n 0, 1) := by decide +kernel
theorem dX9_calmColumns_9 : decode cX9_calmColumns 9 = .ok (.getfield 72, 3) := by decide +kernel
theorem dX9_calmColumns_12 : decode cX9_calmColumns 12 = .ok (.getfield 128, 3) := by decide +kernel
theorem dX9_calmColumns_15 : decode cX9_calmColumns 15 = .ok (.if_icmp .ge 35, 3) := by decide +kernel
theorem dX9_calmColumns_18 : decode cX9_calmColumns 18 = .ok (.aload_n 0, 1) := by decide +kernel
theorem dX9_calmColumns_19 : decode cX9_calmColumns 19 = .ok (.getfield 72, 3) := by decide +kernel
theorem dX9_calmColumns_22 : decode cX9_calmColumns 22 = .ok (.aload_n 1, 1) := by decide +kernel
theorem dX9_calmColumns_23 : decode cX9_calmColumns 23 = .ok (.iload 6, 2) := by decide +kernel
theorem dX9_calmColumns_25 : decode cX9_calmColumns 25 = .ok (.iload_n 2, 1) := by decide +kernel
theorem dX9_calmColumns_26 : decode cX9_calmColumns 26 = .ok (.iload_n 3, 1) := by decide +kernel
theorem dX9_calmColumns_27 : decode cX9_calmColumns 27 = .ok (.iload 4, 2) := by decide +kernel
theorem dX9_calmColumns_29 : decode cX9_calmColumns 29 = .ok (.invokevirtual 269, 3) := by decide +kernel
theorem dX9_calmColumns_32 : decode cX9_calmColumns 32 = .ok (.ifCond .eq 12, 3) := by decide +kernel
theorem dX9_calmColumns_35 : decode cX9_calmColumns 35 = .ok (.iload 5, 2) := by decide +kernel
theorem dX9_calmColumns_37 : decode cX9_calmColumns 37 = .ok (.iconst 1, 1) := by decide +kernel
theorem dX9_calmColumns_38 : decode cX9_calmColumns 38 = .ok (.iload 6, 2) := by decide +kernel
theorem dX9_calmColumns_40 : decode cX9_calmColumns 40 = .ok (.ishl, 1) := by decide +kernel
theorem dX9_calmColumns_41 : decode cX9_calmColumns 41 = .ok (.ior, 1) := by decide +kernel
theorem dX9_calmColumns_42 : decode cX9_calmColumns 42 = .ok (.istore 5, 2) := by decide +kernel
theorem dX9_calmColumns_44 : decode cX9_calmColumns 44 = .ok (.iinc 6 1, 3) := by decide +kernel
theorem dX9_calmColumns_47 : decode cX9_calmColumns 47 = .ok (.goto (-41), 3) := by decide +kernel
theorem dX9_calmColumns_50 : decode cX9_calmColumns 50 = .ok (.iload 5, 2) := by decide +kernel
theorem dX9_calmColumns_52 : decode cX9_calmColumns 52 = .ok (.ireturn, 1) := by decide +kernel
theorem dX9_countCalm_0 : decode cX9_countCalm 0 = .ok (.iconst 0, 1) := by decide +kernel
theorem dX9_countCalm_1 : decode cX9_countCalm 1 = .ok (.istore 4, 2) := by decide +kernel
theorem dX9_countCalm_3 : decode cX9_countCalm 3 = .ok (.iconst 0, 1) := by decide +kernel
theorem dX9_countCalm_4 : decode cX9_countCalm 4 = .ok (.istore 5, 2) := by decide +kernel
theorem dX9_countCalm_6 : decode cX9_countCalm 6 = .ok (.iload 5, 2) := by decide +kernel
theorem dX9_countCalm_8 : decode cX9_countCalm 8 = .ok (.aload_n 0, 1) := by decide +kernel
theorem dX9_countCalm_9 : decode cX9_countCalm 9 = .ok (.getfield 72, 3) := by decide +kernel
theorem dX9_countCalm_12 : decode cX9_countCalm 12 = .ok (.getfield 131, 3) := by decide +kernel
theorem dX9_countCalm_15 : decode cX9_countCalm 15 = .ok (.if_icmp .ge 50, 3) := by decide +kernel
theorem dX9_countCalm_18 : decode cX9_countCalm 18 = .ok (.iconst 0, 1) := by decide +kernel
theorem dX9_countCalm_19 : decode cX9_countCalm 19 = .ok (.istore 6, 2) := by decide +kernel
theorem dX9_countCalm_21 : decode cX9_countCalm 21 = .ok (.iload 6, 2) := by decide +kernel
theorem dX9_countCalm_23 : decode cX9_countCalm 23 = .ok (.aload_n 0, 1) := by decide +kernel
theorem dX9_countCalm_24 : decode cX9_countCalm 24 = .ok (.getfield 72, 3) := by decide +kernel
theorem dX9_countCalm_27 : decode cX9_countCalm 27 = .ok (.getfield 128, 3) := by decide +kernel
theorem dX9_countCalm_30 : decode cX9_countCalm 30 = .ok (.if_icmp .ge 29, 3) := by decide +kernel
theorem dX9_countCalm_33 : decode cX9_countCalm 33 = .ok (.aload_n 0, 1) := by decide +kernel
theorem dX9_countCalm_34 : decode cX9_countCalm 34 = .ok (.getfield 72, 3) := by decide +kernel
theorem dX9_countCalm_37 : decode cX9_countCalm 37 = .ok (.aload_n 1, 1) := by decide +kernel
theorem dX9_countCalm_38 : decode cX9_countCalm 38 = .ok (.iload 6, 2) := by decide +kernel
theorem dX9_countCalm_40 : decode cX9_countCalm 40 = .ok (.iload 5, 2) := by decide +kernel
theorem dX9_countCalm_42 : decode cX9_countCalm 42 = .ok (.iload_n 2, 1) := by decide +kernel
theorem dX9_countCalm_43 : decode cX9_countCalm 43 = .ok (.iload_n 3, 1) := by decide +kernel
theorem dX9_countCalm_44 : decode cX9_countCalm 44 = .ok (.invokevirtual 269, 3) := by decide +kernel
theorem dX9_countCalm_47 : decode cX9_countCalm 47 = .ok (.ifCond .eq 6, 3) := by decide +kernel
theorem dX9_countCalm_50 : decode cX9_countCalm 50 = .ok (.iinc 4 1, 3) := by decide +kernel
theorem dX9_countCalm_53 : decode cX9_countCalm 53 = .ok (.iinc 6 1, 3) := by decide +kernel
theorem dX9_countCalm_56 : decode cX9_countCalm 56 = .ok (.goto (-35), 3) := by decide +kernel
theorem dX9_countCalm_59 : decode cX9_countCalm 59 = .ok (.iinc 5 1, 3) := by decide +kernel
theorem dX9_countCalm_62 : decode cX9_countCalm 62 = .ok (.goto (-56), 3) := by decide +kernel
theorem dX9_countCalm_65 : decode cX9_countCalm 65 = .ok (.iload 4, 2) := by decide +kernel
theorem dX9_countCalm_67 : decode cX9_countCalm 67 = .ok (.ireturn, 1) := by decide +kernel
theorem dX9_fillEnergies_0 : decode cX9_fillEnergies 0 = .ok (.iconst 0, 1) := by decide +kernel
theorem dX9_fillEnergies_1 : decode cX9_fillEnergies 1 = .ok (.istore_n 2, 1) := by decide +kernel
theorem dX9_fillEnergies_2 : decode cX9_fillEnergies 2 = .ok (.iload_n 2, 1) := by decide +kernel
theorem dX9_fillEnergies_3 : decode cX9_fillEnergies 3 = .ok (.aload_n 0, 1) := by decide +kernel
theorem dX9_fillEnergies_4 : decode cX9_fillEnergies 4 = .ok (.getfield 72, 3) := by decide +kernel
theorem dX9_fillEnergies_7 : decode cX9_fillEnergies 7 = .ok (.invokevirtual 292, 3) := by decide +kernel
theorem dX9_fillEnergies_10 : decode cX9_fillEnergies 10 = .ok (.if_icmp .ge 45, 3) := by decide +kernel
theorem dX9_fillEnergies_13 : decode cX9_fillEnergies 13 = .ok (.aload_n 0, 1) := by decide +kernel
theorem dX9_fillEnergies_14 : decode cX9_fillEnergies 14 = .ok (.getfield 56, 3) := by decide +kernel
theorem dX9_fillEnergies_17 : decode cX9_fillEnergies 17 = .ok (.iload_n 2, 1) := by decide +kernel
theorem dX9_fillEnergies_18 : decode cX9_fillEnergies 18 = .ok (.aload_n 0, 1) := by decide +kernel
theorem dX9_fillEnergies_19 : decode cX9_fillEnergies 19 = .ok (.getfield 72, 3) := by decide +kernel
theorem dX9_fillEnergies_22 : decode cX9_fillEnergies 22 = .ok (.aload_n 0, 1) := by decide +kernel
theorem dX9_fillEnergies_23 : decode cX9_fillEnergies 23 = .ok (.getfield 20, 3) := by decide +kernel
theorem dX9_fillEnergies_26 : decode cX9_fillEnergies 26 = .ok (.iload_n 2, 1) := by decide +kernel
theorem dX9_fillEnergies_27 : decode cX9_fillEnergies 27 = .ok (.aload_n 0, 1) := by decide +kernel
theorem dX9_fillEnergies_28 : decode cX9_fillEnergies 28 = .ok (.getfield 72, 3) := by decide +kernel
theorem dX9_fillEnergies_31 : decode cX9_fillEnergies 31 = .ok (.getfield 128, 3) := by decide +kernel
theorem dX9_fillEnergies_34 : decode cX9_fillEnergies 34 = .ok (.irem, 1) := by decide +kernel
theorem dX9_fillEnergies_35 : decode cX9_fillEnergies 35 = .ok (.iload_n 2, 1) := by decide +kernel
theorem dX9_fillEnergies_36 : decode cX9_fillEnergies 36 = .ok (.aload_n 0, 1) := by decide +kernel
theorem dX9_fillEnergies_37 : decode cX9_fillEnergies 37 = .ok (.getfield 72, 3) := by decide +kernel
theorem dX9_fillEnergies_40 : decode cX9_fillEnergies 40 = .ok (.getfield 128, 3) := by decide +kernel
theorem dX9_fillEnergies_43 : decode cX9_fillEnergies 43 = .ok (.idiv, 1) := by decide +kernel
theorem dX9_fillEnergies_44 : decode cX9_fillEnergies 44 = .ok (.iload_n 1, 1) := by decide +kernel
theorem dX9_fillEnergies_45 : decode cX9_fillEnergies 45 = .ok (.invokevirtual 285, 3) := by decide +kernel
theorem dX9_fillEnergies_48 : decode cX9_fillEnergies 48 = .ok (.lastore, 1) := by decide +kernel
theorem dX9_fillEnergies_49 : decode cX9_fillEnergies 49 = .ok (.iinc 2 1, 3) := by decide +kernel
theorem dX9_fillEnergies_52 : decode cX9_fillEnergies 52 = .ok (.goto (-50), 3) := by decide +kernel
theorem dX9_fillEnergies_55 : decode cX9_fillEnergies 55 = .ok (.return_, 1) := by decide +kernel
theorem dX9_greatestEnergy_0 : decode cX9_greatestEnergy 0 = .ok (.lconst 0, 1) := by decide +kernel
theorem dX9_greatestEnergy_1 : decode cX9_greatestEnergy 1 = .ok (.lstore_n 1, 1) := by decide +kernel
theorem dX9_greatestEnergy_2 : decode cX9_greatestEnergy 2 = .ok (.iconst 0, 1) := by decide +kernel
theorem dX9_greatestEnergy_3 : decode cX9_greatestEnergy 3 = .ok (.istore_n 3, 1) := by decide +kernel
theorem dX9_greatestEnergy_4 : decode cX9_greatestEnergy 4 = .ok (.iload_n 3, 1) := by decide +kernel
theorem dX9_greatestEnergy_5 : decode cX9_greatestEnergy 5 = .ok (.aload_n 0, 1) := by decide +kernel
theorem dX9_greatestEnergy_6 : decode cX9_greatestEnergy 6 = .ok (.getfield 72, 3) := by decide +kernel
theorem dX9_greatestEnergy_9 : decode cX9_greatestEnergy 9 = .ok (.invokevirtual 292, 3) := by decide +kernel
theorem dX9_greatestEnergy_12 : decode cX9_greatestEnergy 12 = .ok (.if_icmp .ge 20, 3) := by decide +kernel
theorem dX9_greatestEnergy_15 : decode cX9_greatestEnergy 15 = .ok (.lload_n 1, 1) := by decide +kernel
theorem dX9_greatestEnergy_16 : decode cX9_greatestEnergy 16 = .ok (.aload_n 0, 1) := by decide +kernel
theorem dX9_greatestEnergy_17 : decode cX9_greatestEnergy 17 = .ok (.getfield 56, 3) := by decide +kernel
theorem dX9_greatestEnergy_20 : decode cX9_greatestEnergy 20 = .ok (.iload_n 3, 1) := by decide +kernel
theorem dX9_greatestEnergy_21 : decode cX9_greatestEnergy 21 = .ok (.laload, 1) := by decide +kernel
theorem dX9_greatestEnergy_22 : decode cX9_greatestEnergy 22 = .ok (.invokestatic 318, 3) := by decide +kernel
theorem dX9_greatestEnergy_25 : decode cX9_greatestEnergy 25 = .ok (.lstore_n 1, 1) := by decide +kernel
theorem dX9_greatestEnergy_26 : decode cX9_greatestEnergy 26 = .ok (.iinc 3 1, 3) := by decide +kernel
theorem dX9_greatestEnergy_29 : decode cX9_greatestEnergy 29 = .ok (.goto (-25), 3) := by decide +kernel
theorem dX9_greatestEnergy_32 : decode cX9_greatestEnergy 32 = .ok (.lload_n 1, 1) := by decide +kernel
theorem dX9_greatestEnergy_33 : decode cX9_greatestEnergy 33 = .ok (.lreturn, 1) := by decide +kernel
theorem dX9_countBefore_0 : decode cX9_countBefore 0 = .ok (.iconst 0, 1) := by decide +kernel
theorem dX9_countBefore_1 : decode cX9_countBefore 1 = .ok (.istore_n 2, 1) := by decide +kernel
theorem dX9_countBefore_2 : decode cX9_countBefore 2 = .ok (.iconst 0, 1) := by decide +kernel
theorem dX9_countBefore_3 : decode cX9_countBefore 3 = .ok (.istore_n 3, 1) := by decide +kernel
theorem dX9_countBefore_4 : decode cX9_countBefore 4 = .ok (.iload_n 3, 1) := by decide +kernel
theorem dX9_countBefore_5 : decode cX9_countBefore 5 = .ok (.aload_n 0, 1) := by decide +kernel
theorem dX9_countBefore_6 : decode cX9_countBefore 6 = .ok (.getfield 72, 3) := by decide +kernel
theorem dX9_countBefore_9 : decode cX9_countBefore 9 = .ok (.invokevirtual 292, 3) := by decide +kernel
theorem dX9_countBefore_12 : decode cX9_countBefore 12 = .ok (.if_icmp .ge 61, 3) := by decide +kernel
theorem dX9_countBefore_15 : decode cX9_countBefore 15 = .ok (.aload_n 0, 1) := by decide +kernel
theorem dX9_countBefore_16 : decode cX9_countBefore 16 = .ok (.getfield 56, 3) := by decide +kernel
theorem dX9_countBefore_19 : decode cX9_countBefore 19 = .ok (.iload_n 3, 1) := by decide +kernel
theorem dX9_countBefore_20 : decode cX9_countBefore 20 = .ok (.laload, 1) := by decide +kernel
theorem dX9_countBefore_21 : decode cX9_countBefore 21 = .ok (.aload_n 0, 1) := by decide +kernel
theorem dX9_countBefore_22 : decode cX9_countBefore 22 = .ok (.getfield 56, 3) := by decide +kernel
theorem dX9_countBefore_25 : decode cX9_countBefore 25 = .ok (.iload_n 1, 1) := by decide +kernel
theorem dX9_countBefore_26 : decode cX9_countBefore 26 = .ok (.laload, 1) := by decide +kernel
theorem dX9_countBefore_27 : decode cX9_countBefore 27 = .ok (.lcmp, 1) := by decide +kernel
theorem dX9_countBefore_28 : decode cX9_countBefore 28 = .ok (.ifCond .ne 12, 3) := by decide +kernel
theorem dX9_countBefore_31 : decode cX9_countBefore 31 = .ok (.iload_n 3, 1) := by decide +kernel
theorem dX9_countBefore_32 : decode cX9_countBefore 32 = .ok (.iload_n 1, 1) := by decide +kernel
theorem dX9_countBefore_33 : decode cX9_countBefore 33 = .ok (.if_icmp .ge 7, 3) := by decide +kernel
theorem dX9_countBefore_36 : decode cX9_countBefore 36 = .ok (.iconst 1, 1) := by decide +kernel
theorem dX9_countBefore_37 : decode cX9_countBefore 37 = .ok (.goto 4, 3) := by decide +kernel
theorem dX9_countBefore_40 : decode cX9_countBefore 40 = .ok (.iconst 0, 1) := by decide +kernel
theorem dX9_countBefore_41 : decode cX9_countBefore 41 = .ok (.istore 4, 2) := by decide +kernel
theorem dX9_countBefore_43 : decode cX9_countBefore 43 = .ok (.aload_n 0, 1) := by decide +kernel
theorem dX9_countBefore_44 : decode cX9_countBefore 44 = .ok (.getfield 56, 3) := by decide +kernel
theorem dX9_countBefore_47 : decode cX9_countBefore 47 = .ok (.iload_n 3, 1) := by decide +kernel
theorem dX9_countBefore_48 : decode cX9_countBefore 48 = .ok (.laload, 1) := by decide +kernel
theorem dX9_countBefore_49 : decode cX9_countBefore 49 = .ok (.aload_n 0, 1) := by decide +kernel
theorem dX9_countBefore_50 : decode cX9_countBefore 50 = .ok (.getfield 56, 3) := by decide +kernel
theorem dX9_countBefore_53 : decode cX9_countBefore 53 = .ok (.iload_n 1, 1) := by decide +kernel
theorem dX9_countBefore_54 : decode cX9_countBefore 54 = .ok (.laload, 1) := by decide +kernel
theorem dX9_countBefore_55 : decode cX9_countBefore 55 = .ok (.lcmp, 1) := by decide +kernel
theorem dX9_countBefore_56 : decode cX9_countBefore 56 = .ok (.ifCond .gt 8, 3) := by decide +kernel
theorem dX9_countBefore_59 : decode cX9_countBefore 59 = .ok (.iload 4, 2) := by decide +kernel
theorem dX9_countBefore_61 : decode cX9_countBefore 61 = .ok (.ifCond .eq 6, 3) := by decide +kernel
theorem dX9_countBefore_64 : decode cX9_countBefore 64 = .ok (.iinc 2 1, 3) := by decide +kernel
theorem dX9_countBefore_67 : decode cX9_countBefore 67 = .ok (.iinc 3 1, 3) := by decide +kernel
theorem dX9_countBefore_70 : decode cX9_countBefore 70 = .ok (.goto (-66), 3) := by decide +kernel
theorem dX9_countBefore_73 : decode cX9_countBefore 73 = .ok (.iload_n 2, 1) := by decide +kernel
theorem dX9_countBefore_74 : decode cX9_countBefore 74 = .ok (.ireturn, 1) := by decide +kernel
theorem dX9_hasShare_0 : decode cX9_hasShare 0 = .ok (.lload_n 0, 1) := by decide +kernel
theorem dX9_hasShare_1 : decode cX9_hasShare 1 = .ok (.lconst 0, 1) := by decide +kernel
theorem dX9_hasShare_2 : decode cX9_hasShare 2 = .ok (.lcmp, 1) := by decide +kernel
theorem dX9_hasShare_3 : decode cX9_hasShare 3 = .ok (.ifCond .le 20, 3) := by decide +kernel
theorem dX9_hasShare_6 : decode cX9_hasShare 6 = .ok (.ldc2_w 396, 3) := by decide +kernel
theorem dX9_hasShare_9 : decode cX9_hasShare 9 = .ok (.lload_n 0, 1) := by decide +kernel
theorem dX9_hasShare_10 : decode cX9_hasShare 10 = .ok (.lmul, 1) := by decide +kernel
theorem dX9_hasShare_11 : decode cX9_hasShare 11 = .ok (.iload_n 2, 1) := by decide +kernel
theorem dX9_hasShare_12 : decode cX9_hasShare 12 = .ok (.i2l, 1) := by decide +kernel
theorem dX9_hasShare_13 : decode cX9_hasShare 13 = .ok (.lload_n 3, 1) := by decide +kernel
theorem dX9_hasShare_14 : decode cX9_hasShare 14 = .ok (.lmul, 1) := by decide +kernel
theorem dX9_hasShare_15 : decode cX9_hasShare 15 = .ok (.lcmp, 1) := by decide +kernel
theorem dX9_hasShare_16 : decode cX9_hasShare 16 = .ok (.ifCond .lt 7, 3) := by decide +kernel
theorem dX9_hasShare_19 : decode cX9_hasShare 19 = .ok (.iconst 1, 1) := by decide +kernel
theorem dX9_hasShare_20 : decode cX9_hasShare 20 = .ok (.goto 4, 3) := by decide +kernel
theorem dX9_hasShare_23 : decode cX9_hasShare 23 = .ok (.iconst 0, 1) := by decide +kernel
theorem dX9_hasShare_24 : decode cX9_hasShare 24 = .ok (.ireturn, 1) := by decide +kernel
theorem dX9_turnedEnergy_0 : decode cX9_turnedEnergy 0 = .ok (.aload_n 0, 1) := by decide +kernel
theorem dX9_turnedEnergy_1 : decode cX9_turnedEnergy 1 = .ok (.getfield 72, 3) := by decide +kernel
theorem dX9_turnedEnergy_4 : decode cX9_turnedEnergy 4 = .ok (.getfield 137, 3) := by decide +kernel
theorem dX9_turnedEnergy_7 : decode cX9_turnedEnergy 7 = .ok (.iconst (-1), 1) := by decide +kernel
theorem dX9_turnedEnergy_8 : decode cX9_turnedEnergy 8 = .ok (.if_icmp .ne 7, 3) := by decide +kernel
theorem dX9_turnedEnergy_11 : decode cX9_turnedEnergy 11 = .ok (.ldc2_w 346, 3) := by decide +kernel
theorem dX9_turnedEnergy_14 : decode cX9_turnedEnergy 14 = .ok (.lreturn, 1) := by decide +kernel
theorem dX9_turnedEnergy_15 : decode cX9_turnedEnergy 15 = .ok (.aload_n 0, 1) := by decide +kernel
theorem dX9_turnedEnergy_16 : decode cX9_turnedEnergy 16 = .ok (.getfield 24, 3) := by decide +kernel
theorem dX9_turnedEnergy_19 : decode cX9_turnedEnergy 19 = .ok (.aload_n 0, 1) := by decide +kernel
theorem dX9_turnedEnergy_20 : decode cX9_turnedEnergy 20 = .ok (.getfield 20, 3) := by decide +kernel
theorem dX9_turnedEnergy_23 : decode cX9_turnedEnergy 23 = .ok (.invokevirtual 111, 3) := by decide +kernel
theorem dX9_turnedEnergy_26 : decode cX9_turnedEnergy 26 = .ok (.aload_n 0, 1) := by decide +kernel
theorem dX9_turnedEnergy_27 : decode cX9_turnedEnergy 27 = .ok (.getfield 24, 3) := by decide +kernel
theorem dX9_turnedEnergy_30 : decode cX9_turnedEnergy 30 = .ok (.iload_n 3, 1) := by decide +kernel
theorem dX9_turnedEnergy_31 : decode cX9_turnedEnergy 31 = .ok (.invokevirtual 366, 3) := by decide +kernel
theorem dX9_turnedEnergy_34 : decode cX9_turnedEnergy 34 = .ok (.aload_n 0, 1) := by decide +kernel
theorem dX9_turnedEnergy_35 : decode cX9_turnedEnergy 35 = .ok (.getfield 72, 3) := by decide +kernel
theorem dX9_turnedEnergy_38 : decode cX9_turnedEnergy 38 = .ok (.aload_n 0, 1) := by decide +kernel
theorem dX9_turnedEnergy_39 : decode cX9_turnedEnergy 39 = .ok (.getfield 24, 3) := by decide +kernel
theorem dX9_turnedEnergy_42 : decode cX9_turnedEnergy 42 = .ok (.iload_n 1, 1) := by decide +kernel
theorem dX9_turnedEnergy_43 : decode cX9_turnedEnergy 43 = .ok (.iload_n 2, 1) := by decide +kernel
theorem dX9_turnedEnergy_44 : decode cX9_turnedEnergy 44 = .ok (.iload 4, 2) := by decide +kernel
theorem dX9_turnedEnergy_46 : decode cX9_turnedEnergy 46 = .ok (.invokevirtual 285, 3) := by decide +kernel
theorem dX9_turnedEnergy_49 : decode cX9_turnedEnergy 49 = .ok (.lreturn, 1) := by decide +kernel
theorem dJ6_numberOfLeadingZeros_0f7a4_0 : decode cJ6_numberOfLeadingZeros_0f7a4 0 = .ok (.iload_n 0, 1) := by decide +kernel
theorem dJ6_numberOfLeadingZeros_0f7a4_1 : decode cJ6_numberOfLeadingZeros_0f7a4 1 = .ok (.ifCond .gt 14, 3) := by decide +kernel
theorem dJ6_numberOfLeadingZeros_0f7a4_4 : decode cJ6_numberOfLeadingZeros_0f7a4 4 = .ok (.iload_n 0, 1) := by decide +kernel
theorem dJ6_numberOfLeadingZeros_0f7a4_5 : decode cJ6_numberOfLeadingZeros_0f7a4 5 = .ok (.ifCond .ne 8, 3) := by decide +kernel
theorem dJ6_numberOfLeadingZeros_0f7a4_8 : decode cJ6_numberOfLeadingZeros_0f7a4 8 = .ok (.bipush 32, 2) := by decide +kernel
theorem dJ6_numberOfLeadingZeros_0f7a4_10 : decode cJ6_numberOfLeadingZeros_0f7a4 10 = .ok (.goto 4, 3) := by decide +kernel
theorem dJ6_numberOfLeadingZeros_0f7a4_13 : decode cJ6_numberOfLeadingZeros_0f7a4 13 = .ok (.iconst 0, 1) := by decide +kernel
theorem dJ6_numberOfLeadingZeros_0f7a4_14 : decode cJ6_numberOfLeadingZeros_0f7a4 14 = .ok (.ireturn, 1) := by decide +kernel
theorem dJ6_numberOfLeadingZeros_0f7a4_15 : decode cJ6_numberOfLeadingZeros_0f7a4 15 = .ok (.bipush 31, 2) := by decide +kernel
theorem dJ6_numberOfLeadingZeros_0f7a4_17 : decode cJ6_numberOfLeadingZeros_0f7a4 17 = .ok (.istore_n 1, 1) := by decide +kernel
theorem dJ6_numberOfLeadingZeros_0f7a4_18 : decode cJ6_numberOfLeadingZeros_0f7a4 18 = .ok (.iload_n 0, 1) := by decide +kernel
theorem dJ6_numberOfLeadingZeros_0f7a4_19 : decode cJ6_numberOfLeadingZeros_0f7a4 19 = .ok (.ldc_w 264, 3) := by decide +kernel
theorem dJ6_numberOfLeadingZeros_0f7a4_22 : decode cJ6_numberOfLeadingZeros_0f7a4 22 = .ok (.if_icmp .lt 11, 3) := by decide +kernel
theorem dJ6_numberOfLeadingZeros_0f7a4_25 : decode cJ6_numberOfLeadingZeros_0f7a4 25 = .ok (.iinc 1 (-16), 3) := by decide +kernel
theorem dJ6_numberOfLeadingZeros_0f7a4_28 : decode cJ6_numberOfLeadingZeros_0f7a4 28 = .ok (.iload_n 0, 1) := by decide +kernel
theorem dJ6_numberOfLeadingZeros_0f7a4_29 : decode cJ6_numberOfLeadingZeros_0f7a4 29 = .ok (.bipush 16, 2) := by decide +kernel
theorem dJ6_numberOfLeadingZeros_0f7a4_31 : decode cJ6_numberOfLeadingZeros_0f7a4 31 = .ok (.iushr, 1) := by decide +kernel
theorem dJ6_numberOfLeadingZeros_0f7a4_32 : decode cJ6_numberOfLeadingZeros_0f7a4 32 = .ok (.istore_n 0, 1) := by decide +kernel
theorem dJ6_numberOfLeadingZeros_0f7a4_33 : decode cJ6_numberOfLeadingZeros_0f7a4 33 = .ok (.iload_n 0, 1) := by decide +kernel
theorem dJ6_numberOfLeadingZeros_0f7a4_34 : decode cJ6_numberOfLeadingZeros_0f7a4 34 = .ok (.sipush 256, 3) := by decide +kernel
theorem dJ6_numberOfLeadingZeros_0f7a4_37 : decode cJ6_numberOfLeadingZeros_0f7a4 37 = .ok (.if_icmp .lt 11, 3) := by decide +kernel
theorem dJ6_numberOfLeadingZeros_0f7a4_40 : decode cJ6_numberOfLeadingZeros_0f7a4 40 = .ok (.iinc 1 (-8), 3) := by decide +kernel
theorem dJ6_numberOfLeadingZeros_0f7a4_43 : decode cJ6_numberOfLeadingZeros_0f7a4 43 = .ok (.iload_n 0, 1) := by decide +kernel
theorem dJ6_numberOfLeadingZeros_0f7a4_44 : decode cJ6_numberOfLeadingZeros_0f7a4 44 = .ok (.bipush 8, 2) := by decide +kernel
theorem dJ6_numberOfLeadingZeros_0f7a4_46 : decode cJ6_numberOfLeadingZeros_0f7a4 46 = .ok (.iushr, 1) := by decide +kernel
theorem dJ6_numberOfLeadingZeros_0f7a4_47 : decode cJ6_numberOfLeadingZeros_0f7a4 47 = .ok (.istore_n 0, 1) := by decide +kernel
theorem dJ6_numberOfLeadingZeros_0f7a4_48 : decode cJ6_numberOfLeadingZeros_0f7a4 48 = .ok (.iload_n 0, 1) := by decide +kernel
theorem dJ6_numberOfLeadingZeros_0f7a4_49 : decode cJ6_numberOfLeadingZeros_0f7a4 49 = .ok (.bipush 16, 2) := by decide +kernel
theorem dJ6_numberOfLeadingZeros_0f7a4_51 : decode cJ6_numberOfLeadingZeros_0f7a4 51 = .ok (.if_icmp .lt 10, 3) := by decide +kernel
theorem dJ6_numberOfLeadingZeros_0f7a4_54 : decode cJ6_numberOfLeadingZeros_0f7a4 54 = .ok (.iinc 1 (-4), 3) := by decide +kernel
theorem dJ6_numberOfLeadingZeros_0f7a4_57 : decode cJ6_numberOfLeadingZeros_0f7a4 57 = .ok (.iload_n 0, 1) := by decide +kernel
theorem dJ6_numberOfLeadingZeros_0f7a4_58 : decode cJ6_numberOfLeadingZeros_0f7a4 58 = .ok (.iconst 4, 1) := by decide +kernel
theorem dJ6_numberOfLeadingZeros_0f7a4_59 : decode cJ6_numberOfLeadingZeros_0f7a4 59 = .ok (.iushr, 1) := by decide +kernel
theorem dJ6_numberOfLeadingZeros_0f7a4_60 : decode cJ6_numberOfLeadingZeros_0f7a4 60 = .ok (.istore_n 0, 1) := by decide +kernel
theorem dJ6_numberOfLeadingZeros_0f7a4_61 : decode cJ6_numberOfLeadingZeros_0f7a4 61 = .ok (.iload_n 0, 1) := by decide +kernel
theorem dJ6_numberOfLeadingZeros_0f7a4_62 : decode cJ6_numberOfLeadingZeros_0f7a4 62 = .ok (.iconst 4, 1) := by decide +kernel
theorem dJ6_numberOfLeadingZeros_0f7a4_63 : decode cJ6_numberOfLeadingZeros_0f7a4 63 = .ok (.if_icmp .lt 10, 3) := by decide +kernel
theorem dJ6_numberOfLeadingZeros_0f7a4_66 : decode cJ6_numberOfLeadingZeros_0f7a4 66 = .ok (.iinc 1 (-2), 3) := by decide +kernel
theorem dJ6_numberOfLeadingZeros_0f7a4_69 : decode cJ6_numberOfLeadingZeros_0f7a4 69 = .ok (.iload_n 0, 1) := by decide +kernel
theorem dJ6_numberOfLeadingZeros_0f7a4_70 : decode cJ6_numberOfLeadingZeros_0f7a4 70 = .ok (.iconst 2, 1) := by decide +kernel
theorem dJ6_numberOfLeadingZeros_0f7a4_71 : decode cJ6_numberOfLeadingZeros_0f7a4 71 = .ok (.iushr, 1) := by decide +kernel
theorem dJ6_numberOfLeadingZeros_0f7a4_72 : decode cJ6_numberOfLeadingZeros_0f7a4 72 = .ok (.istore_n 0, 1) := by decide +kernel
theorem dJ6_numberOfLeadingZeros_0f7a4_73 : decode cJ6_numberOfLeadingZeros_0f7a4 73 = .ok (.iload_n 1, 1) := by decide +kernel
theorem dJ6_numberOfLeadingZeros_0f7a4_74 : decode cJ6_numberOfLeadingZeros_0f7a4 74 = .ok (.iload_n 0, 1) := by decide +kernel
theorem dJ6_numberOfLeadingZeros_0f7a4_75 : decode cJ6_numberOfLeadingZeros_0f7a4 75 = .ok (.iconst 1, 1) := by decide +kernel
theorem dJ6_numberOfLeadingZeros_0f7a4_76 : decode cJ6_numberOfLeadingZeros_0f7a4 76 = .ok (.iushr, 1) := by decide +kernel
theorem dJ6_numberOfLeadingZeros_0f7a4_77 : decode cJ6_numberOfLeadingZeros_0f7a4 77 = .ok (.isub, 1) := by decide +kernel
theorem dJ6_numberOfLeadingZeros_0f7a4_78 : decode cJ6_numberOfLeadingZeros_0f7a4 78 = .ok (.ireturn, 1) := by decide +kernel
theorem dJ6_numberOfTrailingZeros_0f7a4_0 : decode cJ6_numberOfTrailingZeros_0f7a4 0 = .ok (.iload_n 0, 1) := by decide +kernel
theorem dJ6_numberOfTrailingZeros_0f7a4_1 : decode cJ6_numberOfTrailingZeros_0f7a4 1 = .ok (.iconst (-1), 1) := by decide +kernel
theorem dJ6_numberOfTrailingZeros_0f7a4_2 : decode cJ6_numberOfTrailingZeros_0f7a4 2 = .ok (.ixor, 1) := by decide +kernel
theorem dJ6_numberOfTrailingZeros_0f7a4_3 : decode cJ6_numberOfTrailingZeros_0f7a4 3 = .ok (.iload_n 0, 1) := by decide +kernel
theorem dJ6_numberOfTrailingZeros_0f7a4_4 : decode cJ6_numberOfTrailingZeros_0f7a4 4 = .ok (.iconst 1, 1) := by decide +kernel
theorem dJ6_numberOfTrailingZeros_0f7a4_5 : decode cJ6_numberOfTrailingZeros_0f7a4 5 = .ok (.isub, 1) := by decide +kernel
theorem dJ6_numberOfTrailingZeros_0f7a4_6 : decode cJ6_numberOfTrailingZeros_0f7a4 6 = .ok (.iand, 1) := by decide +kernel
theorem dJ6_numberOfTrailingZeros_0f7a4_7 : decode cJ6_numberOfTrailingZeros_0f7a4 7 = .ok (.istore_n 0, 1) := by decide +kernel
theorem dJ6_numberOfTrailingZeros_0f7a4_8 : decode cJ6_numberOfTrailingZeros_0f7a4 8 = .ok (.iload_n 0, 1) := by decide +kernel
theorem dJ6_numberOfTrailingZeros_0f7a4_9 : decode cJ6_numberOfTrailingZeros_0f7a4 9 = .ok (.ifCond .gt 8, 3) := by decide +kernel
theorem dJ6_numberOfTrailingZeros_0f7a4_12 : decode cJ6_numberOfTrailingZeros_0f7a4 12 = .ok (.iload_n 0, 1) := by decide +kernel
theorem dJ6_numberOfTrailingZeros_0f7a4_13 : decode cJ6_numberOfTrailingZeros_0f7a4 13 = .ok (.bipush 32, 2) := by decide +kernel
theorem dJ6_numberOfTrailingZeros_0f7a4_15 : decode cJ6_numberOfTrailingZeros_0f7a4 15 = .ok (.iand, 1) := by decide +kernel
theorem dJ6_numberOfTrailingZeros_0f7a4_16 : decode cJ6_numberOfTrailingZeros_0f7a4 16 = .ok (.ireturn, 1) := by decide +kernel
theorem dJ6_numberOfTrailingZeros_0f7a4_17 : decode cJ6_numberOfTrailingZeros_0f7a4 17 = .ok (.iconst 1, 1) := by decide +kernel
theorem dJ6_numberOfTrailingZeros_0f7a4_18 : decode cJ6_numberOfTrailingZeros_0f7a4 18 = .ok (.istore_n 1, 1) := by decide +kernel
theorem dJ6_numberOfTrailingZeros_0f7a4_19 : decode cJ6_numberOfTrailingZeros_0f7a4 19 = .ok (.iload_n 0, 1) := by decide +kernel
theorem dJ6_numberOfTrailingZeros_0f7a4_20 : decode cJ6_numberOfTrailingZeros_0f7a4 20 = .ok (.ldc_w 264, 3) := by decide +kernel
theorem dJ6_numberOfTrailingZeros_0f7a4_23 : decode cJ6_numberOfTrailingZeros_0f7a4 23 = .ok (.if_icmp .le 11, 3) := by decide +kernel
theorem dJ6_numberOfTrailingZeros_0f7a4_26 : decode cJ6_numberOfTrailingZeros_0f7a4 26 = .ok (.iinc 1 16, 3) := by decide +kernel
theorem dJ6_numberOfTrailingZeros_0f7a4_29 : decode cJ6_numberOfTrailingZeros_0f7a4 29 = .ok (.iload_n 0, 1) := by decide +kernel
theorem dJ6_numberOfTrailingZeros_0f7a4_30 : decode cJ6_numberOfTrailingZeros_0f7a4 30 = .ok (.bipush 16, 2) := by decide +kernel
theorem dJ6_numberOfTrailingZeros_0f7a4_32 : decode cJ6_numberOfTrailingZeros_0f7a4 32 = .ok (.iushr, 1) := by decide +kernel
theorem dJ6_numberOfTrailingZeros_0f7a4_33 : decode cJ6_numberOfTrailingZeros_0f7a4 33 = .ok (.istore_n 0, 1) := by decide +kernel
theorem dJ6_numberOfTrailingZeros_0f7a4_34 : decode cJ6_numberOfTrailingZeros_0f7a4 34 = .ok (.iload_n 0, 1) := by decide +kernel
theorem dJ6_numberOfTrailingZeros_0f7a4_35 : decode cJ6_numberOfTrailingZeros_0f7a4 35 = .ok (.sipush 256, 3) := by decide +kernel
theorem dJ6_numberOfTrailingZeros_0f7a4_38 : decode cJ6_numberOfTrailingZeros_0f7a4 38 = .ok (.if_icmp .le 11, 3) := by decide +kernel
theorem dJ6_numberOfTrailingZeros_0f7a4_41 : decode cJ6_numberOfTrailingZeros_0f7a4 41 = .ok (.iinc 1 8, 3) := by decide +kernel
theorem dJ6_numberOfTrailingZeros_0f7a4_44 : decode cJ6_numberOfTrailingZeros_0f7a4 44 = .ok (.iload_n 0, 1) := by decide +kernel
theorem dJ6_numberOfTrailingZeros_0f7a4_45 : decode cJ6_numberOfTrailingZeros_0f7a4 45 = .ok (.bipush 8, 2) := by decide +kernel
theorem dJ6_numberOfTrailingZeros_0f7a4_47 : decode cJ6_numberOfTrailingZeros_0f7a4 47 = .ok (.iushr, 1) := by decide +kernel
theorem dJ6_numberOfTrailingZeros_0f7a4_48 : decode cJ6_numberOfTrailingZeros_0f7a4 48 = .ok (.istore_n 0, 1) := by decide +kernel
theorem dJ6_numberOfTrailingZeros_0f7a4_49 : decode cJ6_numberOfTrailingZeros_0f7a4 49 = .ok (.iload_n 0, 1) := by decide +kernel
theorem dJ6_numberOfTrailingZeros_0f7a4_50 : decode cJ6_numberOfTrailingZeros_0f7a4 50 = .ok (.bipush 16, 2) := by decide +kernel
theorem dJ6_numberOfTrailingZeros_0f7a4_52 : decode cJ6_numberOfTrailingZeros_0f7a4 52 = .ok (.if_icmp .le 10, 3) := by decide +kernel
theorem dJ6_numberOfTrailingZeros_0f7a4_55 : decode cJ6_numberOfTrailingZeros_0f7a4 55 = .ok (.iinc 1 4, 3) := by decide +kernel
theorem dJ6_numberOfTrailingZeros_0f7a4_58 : decode cJ6_numberOfTrailingZeros_0f7a4 58 = .ok (.iload_n 0, 1) := by decide +kernel
theorem dJ6_numberOfTrailingZeros_0f7a4_59 : decode cJ6_numberOfTrailingZeros_0f7a4 59 = .ok (.iconst 4, 1) := by decide +kernel
theorem dJ6_numberOfTrailingZeros_0f7a4_60 : decode cJ6_numberOfTrailingZeros_0f7a4 60 = .ok (.iushr, 1) := by decide +kernel
theorem dJ6_numberOfTrailingZeros_0f7a4_61 : decode cJ6_numberOfTrailingZeros_0f7a4 61 = .ok (.istore_n 0, 1) := by decide +kernel
theorem dJ6_numberOfTrailingZeros_0f7a4_62 : decode cJ6_numberOfTrailingZeros_0f7a4 62 = .ok (.iload_n 0, 1) := by decide +kernel
theorem dJ6_numberOfTrailingZeros_0f7a4_63 : decode cJ6_numberOfTrailingZeros_0f7a4 63 = .ok (.iconst 4, 1) := by decide +kernel
theorem dJ6_numberOfTrailingZeros_0f7a4_64 : decode cJ6_numberOfTrailingZeros_0f7a4 64 = .ok (.if_icmp .le 10, 3) := by decide +kernel
theorem dJ6_numberOfTrailingZeros_0f7a4_67 : decode cJ6_numberOfTrailingZeros_0f7a4 67 = .ok (.iinc 1 2, 3) := by decide +kernel
theorem dJ6_numberOfTrailingZeros_0f7a4_70 : decode cJ6_numberOfTrailingZeros_0f7a4 70 = .ok (.iload_n 0, 1) := by decide +kernel
theorem dJ6_numberOfTrailingZeros_0f7a4_71 : decode cJ6_numberOfTrailingZeros_0f7a4 71 = .ok (.iconst 2, 1) := by decide +kernel
theorem dJ6_numberOfTrailingZeros_0f7a4_72 : decode cJ6_numberOfTrailingZeros_0f7a4 72 = .ok (.iushr, 1) := by decide +kernel
theorem dJ6_numberOfTrailingZeros_0f7a4_73 : decode cJ6_numberOfTrailingZeros_0f7a4 73 = .ok (.istore_n 0, 1) := by decide +kernel
theorem dJ6_numberOfTrailingZeros_0f7a4_74 : decode cJ6_numberOfTrailingZeros_0f7a4 74 = .ok (.iload_n 1, 1) := by decide +kernel
theorem dJ6_numberOfTrailingZeros_0f7a4_75 : decode cJ6_numberOfTrailingZeros_0f7a4 75 = .ok (.iload_n 0, 1) := by decide +kernel
theorem dJ6_numberOfTrailingZeros_0f7a4_76 : decode cJ6_numberOfTrailingZeros_0f7a4 76 = .ok (.iconst 1, 1) := by decide +kernel
theorem dJ6_numberOfTrailingZeros_0f7a4_77 : decode cJ6_numberOfTrailingZeros_0f7a4 77 = .ok (.iushr, 1) := by decide +kernel
theorem dJ6_numberOfTrailingZeros_0f7a4_78 : decode cJ6_numberOfTrailingZeros_0f7a4 78 = .ok (.iadd, 1) := by decide +kernel
theorem dJ6_numberOfTrailingZeros_0f7a4_79 : decode cJ6_numberOfTrailingZeros_0f7a4 79 = .ok (.ireturn, 1) := by decide +kernel
theorem dJ6_bitCount_0f7a4_0 : decode cJ6_bitCount_0f7a4 0 = .ok (.iload_n 0, 1) := by decide +kernel
theorem dJ6_bitCount_0f7a4_1 : decode cJ6_bitCount_0f7a4 1 = .ok (.iload_n 0, 1) := by decide +kernel
theorem dJ6_bitCount_0f7a4_2 : decode cJ6_bitCount_0f7a4 2 = .ok (.iconst 1, 1) := by decide +kernel
theorem dJ6_bitCount_0f7a4_3 : decode cJ6_bitCount_0f7a4 3 = .ok (.iushr, 1) := by decide +kernel
theorem dJ6_bitCount_0f7a4_4 : decode cJ6_bitCount_0f7a4 4 = .ok (.ldc_w 265, 3) := by decide +kernel
theorem dJ6_bitCount_0f7a4_7 : decode cJ6_bitCount_0f7a4 7 = .ok (.iand, 1) := by decide +kernel
theorem dJ6_bitCount_0f7a4_8 : decode cJ6_bitCount_0f7a4 8 = .ok (.isub, 1) := by decide +kernel
theorem dJ6_bitCount_0f7a4_9 : decode cJ6_bitCount_0f7a4 9 = .ok (.istore_n 0, 1) := by decide +kernel
theorem dJ6_bitCount_0f7a4_10 : decode cJ6_bitCount_0f7a4 10 = .ok (.iload_n 0, 1) := by decide +kernel
theorem dJ6_bitCount_0f7a4_11 : decode cJ6_bitCount_0f7a4 11 = .ok (.ldc_w 266, 3) := by decide +kernel
theorem dJ6_bitCount_0f7a4_14 : decode cJ6_bitCount_0f7a4 14 = .ok (.iand, 1) := by decide +kernel
theorem dJ6_bitCount_0f7a4_15 : decode cJ6_bitCount_0f7a4 15 = .ok (.iload_n 0, 1) := by decide +kernel
theorem dJ6_bitCount_0f7a4_16 : decode cJ6_bitCount_0f7a4 16 = .ok (.iconst 2, 1) := by decide +kernel
theorem dJ6_bitCount_0f7a4_17 : decode cJ6_bitCount_0f7a4 17 = .ok (.iushr, 1) := by decide +kernel
theorem dJ6_bitCount_0f7a4_18 : decode cJ6_bitCount_0f7a4 18 = .ok (.ldc_w 266, 3) := by decide +kernel
theorem dJ6_bitCount_0f7a4_21 : decode cJ6_bitCount_0f7a4 21 = .ok (.iand, 1) := by decide +kernel
theorem dJ6_bitCount_0f7a4_22 : decode cJ6_bitCount_0f7a4 22 = .ok (.iadd, 1) := by decide +kernel
theorem dJ6_bitCount_0f7a4_23 : decode cJ6_bitCount_0f7a4 23 = .ok (.istore_n 0, 1) := by decide +kernel
theorem dJ6_bitCount_0f7a4_24 : decode cJ6_bitCount_0f7a4 24 = .ok (.iload_n 0, 1) := by decide +kernel
theorem dJ6_bitCount_0f7a4_25 : decode cJ6_bitCount_0f7a4 25 = .ok (.iload_n 0, 1) := by decide +kernel
theorem dJ6_bitCount_0f7a4_26 : decode cJ6_bitCount_0f7a4 26 = .ok (.iconst 4, 1) := by decide +kernel
theorem dJ6_bitCount_0f7a4_27 : decode cJ6_bitCount_0f7a4 27 = .ok (.iushr, 1) := by decide +kernel
theorem dJ6_bitCount_0f7a4_28 : decode cJ6_bitCount_0f7a4 28 = .ok (.iadd, 1) := by decide +kernel
theorem dJ6_bitCount_0f7a4_29 : decode cJ6_bitCount_0f7a4 29 = .ok (.ldc_w 267, 3) := by decide +kernel
theorem dJ6_bitCount_0f7a4_32 : decode cJ6_bitCount_0f7a4 32 = .ok (.iand, 1) := by decide +kernel
theorem dJ6_bitCount_0f7a4_33 : decode cJ6_bitCount_0f7a4 33 = .ok (.istore_n 0, 1) := by decide +kernel
theorem dJ6_bitCount_0f7a4_34 : decode cJ6_bitCount_0f7a4 34 = .ok (.iload_n 0, 1) := by decide +kernel
theorem dJ6_bitCount_0f7a4_35 : decode cJ6_bitCount_0f7a4 35 = .ok (.iload_n 0, 1) := by decide +kernel
theorem dJ6_bitCount_0f7a4_36 : decode cJ6_bitCount_0f7a4 36 = .ok (.bipush 8, 2) := by decide +kernel
theorem dJ6_bitCount_0f7a4_38 : decode cJ6_bitCount_0f7a4 38 = .ok (.iushr, 1) := by decide +kernel
theorem dJ6_bitCount_0f7a4_39 : decode cJ6_bitCount_0f7a4 39 = .ok (.iadd, 1) := by decide +kernel
theorem dJ6_bitCount_0f7a4_40 : decode cJ6_bitCount_0f7a4 40 = .ok (.istore_n 0, 1) := by decide +kernel
theorem dJ6_bitCount_0f7a4_41 : decode cJ6_bitCount_0f7a4 41 = .ok (.iload_n 0, 1) := by decide +kernel
theorem dJ6_bitCount_0f7a4_42 : decode cJ6_bitCount_0f7a4 42 = .ok (.iload_n 0, 1) := by decide +kernel
theorem dJ6_bitCount_0f7a4_43 : decode cJ6_bitCount_0f7a4 43 = .ok (.bipush 16, 2) := by decide +kernel
theorem dJ6_bitCount_0f7a4_45 : decode cJ6_bitCount_0f7a4 45 = .ok (.iushr, 1) := by decide +kernel
theorem dJ6_bitCount_0f7a4_46 : decode cJ6_bitCount_0f7a4 46 = .ok (.iadd, 1) := by decide +kernel
theorem dJ6_bitCount_0f7a4_47 : decode cJ6_bitCount_0f7a4 47 = .ok (.istore_n 0, 1) := by decide +kernel
theorem dJ6_bitCount_0f7a4_48 : decode cJ6_bitCount_0f7a4 48 = .ok (.iload_n 0, 1) := by decide +kernel
theorem dJ6_bitCount_0f7a4_49 : decode cJ6_bitCount_0f7a4 49 = .ok (.bipush 63, 2) := by decide +kernel
theorem dJ6_bitCount_0f7a4_51 : decode cJ6_bitCount_0f7a4 51 = .ok (.iand, 1) := by decide +kernel
theorem dJ6_bitCount_0f7a4_52 : decode cJ6_bitCount_0f7a4 52 = .ok (.ireturn, 1) := by decide +kernel
theorem dJ13_numberOfLeadingZeros_95d88_0 : decode cJ13_numberOfLeadingZeros_95d88 0 = .ok (.lload_n 0, 1) := by decide +kernel
theorem dJ13_numberOfLeadingZeros_95d88_1 : decode cJ13_numberOfLeadingZeros_95d88 1 = .ok (.bipush 32, 2) := by decide +kernel
theorem dJ13_numberOfLeadingZeros_95d88_3 : decode cJ13_numberOfLeadingZeros_95d88 3 = .ok (.lushr, 1) := by decide +kernel
theorem dJ13_numberOfLeadingZeros_95d88_4 : decode cJ13_numberOfLeadingZeros_95d88 4 = .ok (.l2i, 1) := by decide +kernel
theorem dJ13_numberOfLeadingZeros_95d88_5 : decode cJ13_numberOfLeadingZeros_95d88 5 = .ok (.istore_n 2, 1) := by decide +kernel
theorem dJ13_numberOfLeadingZeros_95d88_6 : decode cJ13_numberOfLeadingZeros_95d88 6 = .ok (.iload_n 2, 1) := by decide +kernel
theorem dJ13_numberOfLeadingZeros_95d88_7 : decode cJ13_numberOfLeadingZeros_95d88 7 = .ok (.ifCond .ne 14, 3) := by decide +kernel
theorem dJ13_numberOfLeadingZeros_95d88_10 : decode cJ13_numberOfLeadingZeros_95d88 10 = .ok (.bipush 32, 2) := by decide +kernel
theorem dJ13_numberOfLeadingZeros_95d88_12 : decode cJ13_numberOfLeadingZeros_95d88 12 = .ok (.lload_n 0, 1) := by decide +kernel
theorem dJ13_numberOfLeadingZeros_95d88_13 : decode cJ13_numberOfLeadingZeros_95d88 13 = .ok (.l2i, 1) := by decide +kernel
theorem dJ13_numberOfLeadingZeros_95d88_14 : decode cJ13_numberOfLeadingZeros_95d88 14 = .ok (.invokestatic 308, 3) := by decide +kernel
theorem dJ13_numberOfLeadingZeros_95d88_17 : decode cJ13_numberOfLeadingZeros_95d88 17 = .ok (.iadd, 1) := by decide +kernel
theorem dJ13_numberOfLeadingZeros_95d88_18 : decode cJ13_numberOfLeadingZeros_95d88 18 = .ok (.goto 7, 3) := by decide +kernel
theorem dJ13_numberOfLeadingZeros_95d88_21 : decode cJ13_numberOfLeadingZeros_95d88 21 = .ok (.iload_n 2, 1) := by decide +kernel
theorem dJ13_numberOfLeadingZeros_95d88_22 : decode cJ13_numberOfLeadingZeros_95d88 22 = .ok (.invokestatic 308, 3) := by decide +kernel
theorem dJ13_numberOfLeadingZeros_95d88_25 : decode cJ13_numberOfLeadingZeros_95d88 25 = .ok (.ireturn, 1) := by decide +kernel
theorem dJ13_numberOfTrailingZeros_95d88_0 : decode cJ13_numberOfTrailingZeros_95d88 0 = .ok (.lload_n 0, 1) := by decide +kernel
theorem dJ13_numberOfTrailingZeros_95d88_1 : decode cJ13_numberOfTrailingZeros_95d88 1 = .ok (.l2i, 1) := by decide +kernel
theorem dJ13_numberOfTrailingZeros_95d88_2 : decode cJ13_numberOfTrailingZeros_95d88 2 = .ok (.istore_n 2, 1) := by decide +kernel
theorem dJ13_numberOfTrailingZeros_95d88_3 : decode cJ13_numberOfTrailingZeros_95d88 3 = .ok (.iload_n 2, 1) := by decide +kernel
theorem dJ13_numberOfTrailingZeros_95d88_4 : decode cJ13_numberOfTrailingZeros_95d88 4 = .ok (.ifCond .ne 17, 3) := by decide +kernel
theorem dJ13_numberOfTrailingZeros_95d88_7 : decode cJ13_numberOfTrailingZeros_95d88 7 = .ok (.bipush 32, 2) := by decide +kernel
theorem dJ13_numberOfTrailingZeros_95d88_9 : decode cJ13_numberOfTrailingZeros_95d88 9 = .ok (.lload_n 0, 1) := by decide +kernel
theorem dJ13_numberOfTrailingZeros_95d88_10 : decode cJ13_numberOfTrailingZeros_95d88 10 = .ok (.bipush 32, 2) := by decide +kernel
theorem dJ13_numberOfTrailingZeros_95d88_12 : decode cJ13_numberOfTrailingZeros_95d88 12 = .ok (.lushr, 1) := by decide +kernel
theorem dJ13_numberOfTrailingZeros_95d88_13 : decode cJ13_numberOfTrailingZeros_95d88 13 = .ok (.l2i, 1) := by decide +kernel
theorem dJ13_numberOfTrailingZeros_95d88_14 : decode cJ13_numberOfTrailingZeros_95d88 14 = .ok (.invokestatic 311, 3) := by decide +kernel
theorem dJ13_numberOfTrailingZeros_95d88_17 : decode cJ13_numberOfTrailingZeros_95d88 17 = .ok (.iadd, 1) := by decide +kernel
theorem dJ13_numberOfTrailingZeros_95d88_18 : decode cJ13_numberOfTrailingZeros_95d88 18 = .ok (.goto 7, 3) := by decide +kernel
theorem dJ13_numberOfTrailingZeros_95d88_21 : decode cJ13_numberOfTrailingZeros_95d88 21 = .ok (.iload_n 2, 1) := by decide +kernel
theorem dJ13_numberOfTrailingZeros_95d88_22 : decode cJ13_numberOfTrailingZeros_95d88 22 = .ok (.invokestatic 311, 3) := by decide +kernel
theorem dJ13_numberOfTrailingZeros_95d88_25 : decode cJ13_numberOfTrailingZeros_95d88 25 = .ok (.ireturn, 1) := by decide +kernel
theorem dJ9_floorMod_7cf53_0 : decode cJ9_floorMod_7cf53 0 = .ok (.iload_n 0, 1) := by decide +kernel
theorem dJ9_floorMod_7cf53_1 : decode cJ9_floorMod_7cf53 1 = .ok (.iload_n 1, 1) := by decide +kernel
theorem dJ9_floorMod_7cf53_2 : decode cJ9_floorMod_7cf53 2 = .ok (.irem, 1) := by decide +kernel
theorem dJ9_floorMod_7cf53_3 : decode cJ9_floorMod_7cf53 3 = .ok (.istore_n 2, 1) := by decide +kernel
theorem dJ9_floorMod_7cf53_4 : decode cJ9_floorMod_7cf53 4 = .ok (.iload_n 0, 1) := by decide +kernel
theorem dJ9_floorMod_7cf53_5 : decode cJ9_floorMod_7cf53 5 = .ok (.iload_n 1, 1) := by decide +kernel
theorem dJ9_floorMod_7cf53_6 : decode cJ9_floorMod_7cf53 6 = .ok (.ixor, 1) := by decide +kernel
theorem dJ9_floorMod_7cf53_7 : decode cJ9_floorMod_7cf53 7 = .ok (.ifCond .ge 11, 3) := by decide +kernel
theorem dJ9_floorMod_7cf53_10 : decode cJ9_floorMod_7cf53 10 = .ok (.iload_n 2, 1) := by decide +kernel
theorem dJ9_floorMod_7cf53_11 : decode cJ9_floorMod_7cf53 11 = .ok (.ifCond .eq 7, 3) := by decide +kernel
theorem dJ9_floorMod_7cf53_14 : decode cJ9_floorMod_7cf53 14 = .ok (.iload_n 2, 1) := by decide +kernel
theorem dJ9_floorMod_7cf53_15 : decode cJ9_floorMod_7cf53 15 = .ok (.iload_n 1, 1) := by decide +kernel
theorem dJ9_floorMod_7cf53_16 : decode cJ9_floorMod_7cf53 16 = .ok (.iadd, 1) := by decide +kernel
theorem dJ9_floorMod_7cf53_17 : decode cJ9_floorMod_7cf53 17 = .ok (.ireturn, 1) := by decide +kernel
theorem dJ9_floorMod_7cf53_18 : decode cJ9_floorMod_7cf53 18 = .ok (.iload_n 2, 1) := by decide +kernel
theorem dJ9_floorMod_7cf53_19 : decode cJ9_floorMod_7cf53 19 = .ok (.ireturn, 1) := by decide +kernel
theorem dJ9_abs_0f7a4_0 : decode cJ9_abs_0f7a4 0 = .ok (.iload_n 0, 1) := by decide +kernel
theorem dJ9_abs_0f7a4_1 : decode cJ9_abs_0f7a4 1 = .ok (.ifCond .ge 8, 3) := by decide +kernel
theorem dJ9_abs_0f7a4_4 : decode cJ9_abs_0f7a4 4 = .ok (.iload_n 0, 1) := by decide +kernel
theorem dJ9_abs_0f7a4_5 : decode cJ9_abs_0f7a4 5 = .ok (.ineg, 1) := by decide +kernel
theorem dJ9_abs_0f7a4_6 : decode cJ9_abs_0f7a4 6 = .ok (.goto 4, 3) := by decide +kernel
theorem dJ9_abs_0f7a4_9 : decode cJ9_abs_0f7a4 9 = .ok (.iload_n 0, 1) := by decide +kernel
theorem dJ9_abs_0f7a4_10 : decode cJ9_abs_0f7a4 10 = .ok (.ireturn, 1) := by decide +kernel
