theorem dX9_chanceOf_55 : decode cX9_chanceOf 55 = .ok (.lload_n 1, 1) := by decide +kernel
theorem dX9_chanceOf_56 : decode cX9_chanceOf 56 = .ok (.lrem, 1) := by decide +kernel
theorem dX9_chanceOf_57 : decode cX9_chanceOf 57 = .ok (.lstore_n 3, 1) := by decide +kernel
theorem dX9_chanceOf_58 : decode cX9_chanceOf 58 = .ok (.iinc 7 1, 3) := by decide +kernel
theorem dX9_chanceOf_61 : decode cX9_chanceOf 61 = .ok (.goto (-32), 3) := by decide +kernel
theorem dX9_chanceOf_64 : decode cX9_chanceOf 64 = .ok (.lload 5, 2) := by decide +kernel
theorem dX9_chanceOf_66 : decode cX9_chanceOf 66 = .ok (.l2i, 1) := by decide +kernel
theorem dX9_chanceOf_67 : decode cX9_chanceOf 67 = .ok (.ireturn, 1) := by decide +kernel
theorem dX9_slots_0 : decode cX9_slots 0 = .ok (.aload_n 0, 1) := by decide +kernel
theorem dX9_slots_1 : decode cX9_slots 1 = .ok (.iconst 0, 1) := by decide +kernel
theorem dX9_slots_2 : decode cX9_slots 2 = .ok (.invokevirtual 213, 3) := by decide +kernel
theorem dX9_slots_5 : decode cX9_slots 5 = .ok (.aload_n 0, 1) := by decide +kernel
theorem dX9_slots_6 : decode cX9_slots 6 = .ok (.invokevirtual 184, 3) := by decide +kernel
theorem dX9_slots_9 : decode cX9_slots 9 = .ok (.aload_n 0, 1) := by decide +kernel
theorem dX9_slots_10 : decode cX9_slots 10 = .ok (.invokevirtual 190, 3) := by decide +kernel
theorem dX9_slots_13 : decode cX9_slots 13 = .ok (.ireturn, 1) := by decide +kernel
theorem dX9_all_0 : decode cX9_all 0 = .ok (.aload_n 0, 1) := by decide +kernel
theorem dX9_all_1 : decode cX9_all 1 = .ok (.invokevirtual 221, 3) := by decide +kernel
theorem dX9_all_4 : decode cX9_all 4 = .ok (.ifCond .eq 11, 3) := by decide +kernel
theorem dX9_all_7 : decode cX9_all 7 = .ok (.bipush (-5), 2) := by decide +kernel
theorem dX9_all_9 : decode cX9_all 9 = .ok (.invokestatic 224, 3) := by decide +kernel
theorem dX9_all_12 : decode cX9_all 12 = .ok (.goto 12, 3) := by decide +kernel
theorem dX9_all_15 : decode cX9_all 15 = .ok (.aload_n 0, 1) := by decide +kernel
theorem dX9_all_16 : decode cX9_all 16 = .ok (.getfield 64, 3) := by decide +kernel
theorem dX9_all_19 : decode cX9_all 19 = .ok (.aload_n 0, 1) := by decide +kernel
theorem dX9_all_20 : decode cX9_all 20 = .ok (.invokevirtual 190, 3) := by decide +kernel
theorem dX9_all_23 : decode cX9_all 23 = .ok (.laload, 1) := by decide +kernel
theorem dX9_all_24 : decode cX9_all 24 = .ok (.lreturn, 1) := by decide +kernel
theorem dX9_ways_0 : decode cX9_ways 0 = .ok (.iload_n 1, 1) := by decide +kernel
theorem dX9_ways_1 : decode cX9_ways 1 = .ok (.i2l, 1) := by decide +kernel
theorem dX9_ways_2 : decode cX9_ways 2 = .ok (.lconst 0, 1) := by decide +kernel
theorem dX9_ways_3 : decode cX9_ways 3 = .ok (.ldc2_w 105, 3) := by decide +kernel
theorem dX9_ways_6 : decode cX9_ways 6 = .ok (.invokestatic 107, 3) := by decide +kernel
theorem dX9_ways_9 : decode cX9_ways 9 = .ok (.ifCond .ne 9, 3) := by decide +kernel
theorem dX9_ways_12 : decode cX9_ways 12 = .ok (.bipush (-2), 2) := by decide +kernel
theorem dX9_ways_14 : decode cX9_ways 14 = .ok (.invokestatic 224, 3) := by decide +kernel
theorem dX9_ways_17 : decode cX9_ways 17 = .ok (.lreturn, 1) := by decide +kernel
theorem dX9_ways_18 : decode cX9_ways 18 = .ok (.aload_n 0, 1) := by decide +kernel
theorem dX9_ways_19 : decode cX9_ways 19 = .ok (.invokevirtual 221, 3) := by decide +kernel
theorem dX9_ways_22 : decode cX9_ways 22 = .ok (.ifCond .eq 11, 3) := by decide +kernel
theorem dX9_ways_25 : decode cX9_ways 25 = .ok (.bipush (-5), 2) := by decide +kernel
theorem dX9_ways_27 : decode cX9_ways 27 = .ok (.invokestatic 224, 3) := by decide +kernel
theorem dX9_ways_30 : decode cX9_ways 30 = .ok (.goto 9, 3) := by decide +kernel
theorem dX9_ways_33 : decode cX9_ways 33 = .ok (.aload_n 0, 1) := by decide +kernel
theorem dX9_ways_34 : decode cX9_ways 34 = .ok (.getfield 55, 3) := by decide +kernel
theorem dX9_ways_37 : decode cX9_ways 37 = .ok (.iload_n 1, 1) := by decide +kernel
theorem dX9_ways_38 : decode cX9_ways 38 = .ok (.laload, 1) := by decide +kernel
theorem dX9_ways_39 : decode cX9_ways 39 = .ok (.lreturn, 1) := by decide +kernel
theorem dX9_chance_0 : decode cX9_chance 0 = .ok (.aload_n 0, 1) := by decide +kernel
theorem dX9_chance_1 : decode cX9_chance 1 = .ok (.invokevirtual 221, 3) := by decide +kernel
theorem dX9_chance_4 : decode cX9_chance 4 = .ok (.ifCond .eq 8, 3) := by decide +kernel
theorem dX9_chance_7 : decode cX9_chance 7 = .ok (.bipush (-5), 2) := by decide +kernel
theorem dX9_chance_9 : decode cX9_chance 9 = .ok (.goto 7, 3) := by decide +kernel
theorem dX9_chance_12 : decode cX9_chance 12 = .ok (.aload_n 0, 1) := by decide +kernel
theorem dX9_chance_13 : decode cX9_chance 13 = .ok (.invokevirtual 228, 3) := by decide +kernel
theorem dX9_chance_16 : decode cX9_chance 16 = .ok (.ireturn, 1) := by decide +kernel
theorem dX9_left_0 : decode cX9_left 0 = .ok (.iload_n 1, 1) := by decide +kernel
theorem dX9_left_1 : decode cX9_left 1 = .ok (.i2l, 1) := by decide +kernel
theorem dX9_left_2 : decode cX9_left 2 = .ok (.lconst 0, 1) := by decide +kernel
theorem dX9_left_3 : decode cX9_left 3 = .ok (.lconst 1, 1) := by decide +kernel
theorem dX9_left_4 : decode cX9_left 4 = .ok (.invokestatic 107, 3) := by decide +kernel
theorem dX9_left_7 : decode cX9_left 7 = .ok (.ifCond .eq 52, 3) := by decide +kernel
theorem dX9_left_10 : decode cX9_left 10 = .ok (.iload_n 2, 1) := by decide +kernel
theorem dX9_left_11 : decode cX9_left 11 = .ok (.i2l, 1) := by decide +kernel
theorem dX9_left_12 : decode cX9_left 12 = .ok (.lconst 0, 1) := by decide +kernel
theorem dX9_left_13 : decode cX9_left 13 = .ok (.ldc2_w 105, 3) := by decide +kernel
theorem dX9_left_16 : decode cX9_left 16 = .ok (.invokestatic 107, 3) := by decide +kernel
theorem dX9_left_19 : decode cX9_left 19 = .ok (.ifCond .eq 40, 3) := by decide +kernel
theorem dX9_left_22 : decode cX9_left 22 = .ok (.iload_n 3, 1) := by decide +kernel
theorem dX9_left_23 : decode cX9_left 23 = .ok (.i2l, 1) := by decide +kernel
theorem dX9_left_24 : decode cX9_left 24 = .ok (.lconst 0, 1) := by decide +kernel
theorem dX9_left_25 : decode cX9_left 25 = .ok (.ldc2_w 111, 3) := by decide +kernel
theorem dX9_left_28 : decode cX9_left 28 = .ok (.invokestatic 107, 3) := by decide +kernel
theorem dX9_left_31 : decode cX9_left 31 = .ok (.ifCond .eq 28, 3) := by decide +kernel
theorem dX9_left_34 : decode cX9_left 34 = .ok (.iload 4, 2) := by decide +kernel
theorem dX9_left_36 : decode cX9_left 36 = .ok (.i2l, 1) := by decide +kernel
theorem dX9_left_37 : decode cX9_left 37 = .ok (.lconst 0, 1) := by decide +kernel
theorem dX9_left_38 : decode cX9_left 38 = .ok (.lconst 1, 1) := by decide +kernel
theorem dX9_left_39 : decode cX9_left 39 = .ok (.invokestatic 107, 3) := by decide +kernel
theorem dX9_left_42 : decode cX9_left 42 = .ok (.ifCond .eq 17, 3) := by decide +kernel
theorem dX9_left_45 : decode cX9_left 45 = .ok (.aload_n 0, 1) := by decide +kernel
theorem dX9_left_46 : decode cX9_left 46 = .ok (.getfield 13, 3) := by decide +kernel
theorem dX9_left_49 : decode cX9_left 49 = .ok (.iconst 3, 1) := by decide +kernel
theorem dX9_left_50 : decode cX9_left 50 = .ok (.iload_n 1, 1) := by decide +kernel
theorem dX9_left_51 : decode cX9_left 51 = .ok (.imul, 1) := by decide +kernel
theorem dX9_left_52 : decode cX9_left 52 = .ok (.iload_n 2, 1) := by decide +kernel
theorem dX9_left_53 : decode cX9_left 53 = .ok (.iadd, 1) := by decide +kernel
theorem dX9_left_54 : decode cX9_left 54 = .ok (.iaload, 1) := by decide +kernel
theorem dX9_left_55 : decode cX9_left 55 = .ok (.iconst (-1), 1) := by decide +kernel
theorem dX9_left_56 : decode cX9_left 56 = .ok (.if_icmp .ne 9, 3) := by decide +kernel
theorem dX9_left_59 : decode cX9_left 59 = .ok (.bipush (-2), 2) := by decide +kernel
theorem dX9_left_61 : decode cX9_left 61 = .ok (.invokestatic 224, 3) := by decide +kernel
theorem dX9_left_64 : decode cX9_left 64 = .ok (.lreturn, 1) := by decide +kernel
theorem dX9_left_65 : decode cX9_left 65 = .ok (.aload_n 0, 1) := by decide +kernel
theorem dX9_left_66 : decode cX9_left 66 = .ok (.invokevirtual 221, 3) := by decide +kernel
theorem dX9_left_69 : decode cX9_left 69 = .ok (.ifCond .eq 11, 3) := by decide +kernel
theorem dX9_left_72 : decode cX9_left 72 = .ok (.bipush (-5), 2) := by decide +kernel
theorem dX9_left_74 : decode cX9_left 74 = .ok (.invokestatic 224, 3) := by decide +kernel
theorem dX9_left_77 : decode cX9_left 77 = .ok (.goto 23, 3) := by decide +kernel
theorem dX9_left_80 : decode cX9_left 80 = .ok (.aload_n 0, 1) := by decide +kernel
theorem dX9_left_81 : decode cX9_left 81 = .ok (.getfield 61, 3) := by decide +kernel
theorem dX9_left_84 : decode cX9_left 84 = .ok (.bipush 42, 2) := by decide +kernel
theorem dX9_left_86 : decode cX9_left 86 = .ok (.iconst 3, 1) := by decide +kernel
theorem dX9_left_87 : decode cX9_left 87 = .ok (.iload_n 1, 1) := by decide +kernel
theorem dX9_left_88 : decode cX9_left 88 = .ok (.imul, 1) := by decide +kernel
theorem dX9_left_89 : decode cX9_left 89 = .ok (.iload_n 2, 1) := by decide +kernel
theorem dX9_left_90 : decode cX9_left 90 = .ok (.iadd, 1) := by decide +kernel
theorem dX9_left_91 : decode cX9_left 91 = .ok (.imul, 1) := by decide +kernel
theorem dX9_left_92 : decode cX9_left 92 = .ok (.iconst 2, 1) := by decide +kernel
theorem dX9_left_93 : decode cX9_left 93 = .ok (.iload_n 3, 1) := by decide +kernel
theorem dX9_left_94 : decode cX9_left 94 = .ok (.imul, 1) := by decide +kernel
theorem dX9_left_95 : decode cX9_left 95 = .ok (.iadd, 1) := by decide +kernel
theorem dX9_left_96 : decode cX9_left 96 = .ok (.iload 4, 2) := by decide +kernel
theorem dX9_left_98 : decode cX9_left 98 = .ok (.iadd, 1) := by decide +kernel
theorem dX9_left_99 : decode cX9_left 99 = .ok (.laload, 1) := by decide +kernel
theorem dX9_left_100 : decode cX9_left 100 = .ok (.lreturn, 1) := by decide +kernel
theorem dX9_states_0 : decode cX9_states 0 = .ok (.aload_n 0, 1) := by decide +kernel
theorem dX9_states_1 : decode cX9_states 1 = .ok (.invokevirtual 221, 3) := by decide +kernel
theorem dX9_states_4 : decode cX9_states 4 = .ok (.ifCond .eq 8, 3) := by decide +kernel
theorem dX9_states_7 : decode cX9_states 7 = .ok (.bipush (-5), 2) := by decide +kernel
theorem dX9_states_9 : decode cX9_states 9 = .ok (.goto 7, 3) := by decide +kernel
theorem dX9_states_12 : decode cX9_states 12 = .ok (.aload_n 0, 1) := by decide +kernel
theorem dX9_states_13 : decode cX9_states 13 = .ok (.getfield 187, 3) := by decide +kernel
theorem dX9_states_16 : decode cX9_states 16 = .ok (.ireturn, 1) := by decide +kernel
theorem dX9_ends_0 : decode cX9_ends 0 = .ok (.iload_n 1, 1) := by decide +kernel
theorem dX9_ends_1 : decode cX9_ends 1 = .ok (.i2l, 1) := by decide +kernel
theorem dX9_ends_2 : decode cX9_ends 2 = .ok (.lconst 0, 1) := by decide +kernel
theorem dX9_ends_3 : decode cX9_ends 3 = .ok (.aload_n 0, 1) := by decide +kernel
theorem dX9_ends_4 : decode cX9_ends 4 = .ok (.getfield 16, 3) := by decide +kernel
theorem dX9_ends_7 : decode cX9_ends 7 = .ok (.i2l, 1) := by decide +kernel
theorem dX9_ends_8 : decode cX9_ends 8 = .ok (.invokestatic 107, 3) := by decide +kernel
theorem dX9_ends_11 : decode cX9_ends 11 = .ok (.ifCond .ne 9, 3) := by decide +kernel
theorem dX9_ends_14 : decode cX9_ends 14 = .ok (.bipush (-2), 2) := by decide +kernel
theorem dX9_ends_16 : decode cX9_ends 16 = .ok (.invokestatic 224, 3) := by decide +kernel
theorem dX9_ends_19 : decode cX9_ends 19 = .ok (.lreturn, 1) := by decide +kernel
theorem dX9_ends_20 : decode cX9_ends 20 = .ok (.aload_n 0, 1) := by decide +kernel
theorem dX9_ends_21 : decode cX9_ends 21 = .ok (.invokevirtual 221, 3) := by decide +kernel
theorem dX9_ends_24 : decode cX9_ends 24 = .ok (.ifCond .eq 11, 3) := by decide +kernel
theorem dX9_ends_27 : decode cX9_ends 27 = .ok (.bipush (-5), 2) := by decide +kernel
theorem dX9_ends_29 : decode cX9_ends 29 = .ok (.invokestatic 224, 3) := by decide +kernel
theorem dX9_ends_32 : decode cX9_ends 32 = .ok (.goto 9, 3) := by decide +kernel
theorem dX9_ends_35 : decode cX9_ends 35 = .ok (.aload_n 0, 1) := by decide +kernel
theorem dX9_ends_36 : decode cX9_ends 36 = .ok (.getfield 58, 3) := by decide +kernel
theorem dX9_ends_39 : decode cX9_ends 39 = .ok (.iload_n 1, 1) := by decide +kernel
theorem dX9_ends_40 : decode cX9_ends 40 = .ok (.laload, 1) := by decide +kernel
theorem dX9_ends_41 : decode cX9_ends 41 = .ok (.lreturn, 1) := by decide +kernel
theorem dX9_better_0 : decode cX9_better 0 = .ok (.aload_n 0, 1) := by decide +kernel
theorem dX9_better_1 : decode cX9_better 1 = .ok (.iload_n 1, 1) := by decide +kernel
theorem dX9_better_2 : decode cX9_better 2 = .ok (.invokevirtual 126, 3) := by decide +kernel
theorem dX9_better_5 : decode cX9_better 5 = .ok (.ifCond .eq 35, 3) := by decide +kernel
theorem dX9_better_8 : decode cX9_better 8 = .ok (.iload_n 2, 1) := by decide +kernel
theorem dX9_better_9 : decode cX9_better 9 = .ok (.i2l, 1) := by decide +kernel
theorem dX9_better_10 : decode cX9_better 10 = .ok (.lconst 1, 1) := by decide +kernel
theorem dX9_better_11 : decode cX9_better 11 = .ok (.ldc2_w 130, 3) := by decide +kernel
theorem dX9_better_14 : decode cX9_better 14 = .ok (.invokestatic 107, 3) := by decide +kernel
theorem dX9_better_17 : decode cX9_better 17 = .ok (.ifCond .eq 23, 3) := by decide +kernel
theorem dX9_better_20 : decode cX9_better 20 = .ok (.iload_n 2, 1) := by decide +kernel
theorem dX9_better_21 : decode cX9_better 21 = .ok (.aload_n 0, 1) := by decide +kernel
theorem dX9_better_22 : decode cX9_better 22 = .ok (.getfield 7, 3) := by decide +kernel
theorem dX9_better_25 : decode cX9_better 25 = .ok (.bipush 6, 2) := by decide +kernel
theorem dX9_better_27 : decode cX9_better 27 = .ok (.iload_n 1, 1) := by decide +kernel
theorem dX9_better_28 : decode cX9_better 28 = .ok (.imul, 1) := by decide +kernel
theorem dX9_better_29 : decode cX9_better 29 = .ok (.iload_n 2, 1) := by decide +kernel
theorem dX9_better_30 : decode cX9_better 30 = .ok (.iadd, 1) := by decide +kernel
theorem dX9_better_31 : decode cX9_better 31 = .ok (.iaload, 1) := by decide +kernel
theorem dX9_better_32 : decode cX9_better 32 = .ok (.iconst 1, 1) := by decide +kernel
theorem dX9_better_33 : decode cX9_better 33 = .ok (.iadd, 1) := by decide +kernel
theorem dX9_better_34 : decode cX9_better 34 = .ok (.invokestatic 122, 3) := by decide +kernel
theorem dX9_better_37 : decode cX9_better 37 = .ok (.ifCond .ne 6, 3) := by decide +kernel
theorem dX9_better_40 : decode cX9_better 40 = .ok (.ldc 231, 2) := by decide +kernel
theorem dX9_better_42 : decode cX9_better 42 = .ok (.ireturn, 1) := by decide +kernel
theorem dX9_better_43 : decode cX9_better 43 = .ok (.aload_n 0, 1) := by decide +kernel
theorem dX9_better_44 : decode cX9_better 44 = .ok (.invokevirtual 232, 3) := by decide +kernel
theorem dX9_better_47 : decode cX9_better 47 = .ok (.istore_n 3, 1) := by decide +kernel
theorem dX9_better_48 : decode cX9_better 48 = .ok (.aload_n 0, 1) := by decide +kernel
theorem dX9_better_49 : decode cX9_better 49 = .ok (.getfield 7, 3) := by decide +kernel
theorem dX9_better_52 : decode cX9_better 52 = .ok (.bipush 6, 2) := by decide +kernel
theorem dX9_better_54 : decode cX9_better 54 = .ok (.iload_n 1, 1) := by decide +kernel
theorem dX9_better_55 : decode cX9_better 55 = .ok (.imul, 1) := by decide +kernel
theorem dX9_better_56 : decode cX9_better 56 = .ok (.iload_n 2, 1) := by decide +kernel
theorem dX9_better_57 : decode cX9_better 57 = .ok (.iadd, 1) := by decide +kernel
theorem dX9_better_58 : decode cX9_better 58 = .ok (.dup2, 1) := by decide +kernel
theorem dX9_better_59 : decode cX9_better 59 = .ok (.iaload, 1) := by decide +kernel
theorem dX9_better_60 : decode cX9_better 60 = .ok (.iconst 1, 1) := by decide +kernel
theorem dX9_better_61 : decode cX9_better 61 = .ok (.iadd, 1) := by decide +kernel
theorem dX9_better_62 : decode cX9_better 62 = .ok (.iastore, 1) := by decide +kernel
theorem dX9_better_63 : decode cX9_better 63 = .ok (.aload_n 0, 1) := by decide +kernel
theorem dX9_better_64 : decode cX9_better 64 = .ok (.invokevirtual 232, 3) := by decide +kernel
theorem dX9_better_67 : decode cX9_better 67 = .ok (.istore 4, 2) := by decide +kernel
theorem dX9_better_69 : decode cX9_better 69 = .ok (.aload_n 0, 1) := by decide +kernel
theorem dX9_better_70 : decode cX9_better 70 = .ok (.getfield 7, 3) := by decide +kernel
theorem dX9_better_73 : decode cX9_better 73 = .ok (.bipush 6, 2) := by decide +kernel
theorem dX9_better_75 : decode cX9_better 75 = .ok (.iload_n 1, 1) := by decide +kernel
theorem dX9_better_76 : decode cX9_better 76 = .ok (.imul, 1) := by decide +kernel
theorem dX9_better_77 : decode cX9_better 77 = .ok (.iload_n 2, 1) := by decide +kernel
theorem dX9_better_78 : decode cX9_better 78 = .ok (.iadd, 1) := by decide +kernel
theorem dX9_better_79 : decode cX9_better 79 = .ok (.dup2, 1) := by decide +kernel
theorem dX9_better_80 : decode cX9_better 80 = .ok (.iaload, 1) := by decide +kernel
theorem dX9_better_81 : decode cX9_better 81 = .ok (.iconst 1, 1) := by decide +kernel
theorem dX9_better_82 : decode cX9_better 82 = .ok (.isub, 1) := by decide +kernel
theorem dX9_better_83 : decode cX9_better 83 = .ok (.iastore, 1) := by decide +kernel
theorem dX9_better_84 : decode cX9_better 84 = .ok (.iload_n 3, 1) := by decide +kernel
theorem dX9_better_85 : decode cX9_better 85 = .ok (.bipush (-5), 2) := by decide +kernel
theorem dX9_better_87 : decode cX9_better 87 = .ok (.if_icmp .eq 10, 3) := by decide +kernel
theorem dX9_better_90 : decode cX9_better 90 = .ok (.iload 4, 2) := by decide +kernel
theorem dX9_better_92 : decode cX9_better 92 = .ok (.bipush (-5), 2) := by decide +kernel
theorem dX9_better_94 : decode cX9_better 94 = .ok (.if_icmp .ne 8, 3) := by decide +kernel
theorem dX9_better_97 : decode cX9_better 97 = .ok (.ldc 235, 2) := by decide +kernel
theorem dX9_better_99 : decode cX9_better 99 = .ok (.goto 7, 3) := by decide +kernel
theorem dX9_better_102 : decode cX9_better 102 = .ok (.iload 4, 2) := by decide +kernel
theorem dX9_better_104 : decode cX9_better 104 = .ok (.iload_n 3, 1) := by decide +kernel
theorem dX9_better_105 : decode cX9_better 105 = .ok (.isub, 1) := by decide +kernel
theorem dX9_better_106 : decode cX9_better 106 = .ok (.ireturn, 1) := by decide +kernel
theorem dX9_without_0 : decode cX9_without 0 = .ok (.iload_n 1, 1) := by decide +kernel
theorem dX9_without_1 : decode cX9_without 1 = .ok (.i2l, 1) := by decide +kernel
theorem dX9_without_2 : decode cX9_without 2 = .ok (.lconst 0, 1) := by decide +kernel
theorem dX9_without_3 : decode cX9_without 3 = .ok (.ldc2_w 105, 3) := by decide +kernel
theorem dX9_without_6 : decode cX9_without 6 = .ok (.invokestatic 107, 3) := by decide +kernel
theorem dX9_without_9 : decode cX9_without 9 = .ok (.ifCond .eq 13, 3) := by decide +kernel
theorem dX9_without_12 : decode cX9_without 12 = .ok (.aload_n 0, 1) := by decide +kernel
theorem dX9_without_13 : decode cX9_without 13 = .ok (.getfield 13, 3) := by decide +kernel
theorem dX9_without_16 : decode cX9_without 16 = .ok (.iload_n 1, 1) := by decide +kernel
theorem dX9_without_17 : decode cX9_without 17 = .ok (.iaload, 1) := by decide +kernel
theorem dX9_without_18 : decode cX9_without 18 = .ok (.iconst (-1), 1) := by decide +kernel
theorem dX9_without_19 : decode cX9_without 19 = .ok (.if_icmp .ne 6, 3) := by decide +kernel
theorem dX9_without_22 : decode cX9_without 22 = .ok (.bipush (-2), 2) := by decide +kernel
theorem dX9_without_24 : decode cX9_without 24 = .ok (.ireturn, 1) := by decide +kernel
theorem dX9_without_25 : decode cX9_without 25 = .ok (.aload_n 0, 1) := by decide +kernel
theorem dX9_without_26 : decode cX9_without 26 = .ok (.iconst 0, 1) := by decide +kernel
theorem dX9_without_27 : decode cX9_without 27 = .ok (.invokevirtual 213, 3) := by decide +kernel
theorem dX9_without_30 : decode cX9_without 30 = .ok (.iload_n 1, 1) := by decide +kernel
theorem dX9_without_31 : decode cX9_without 31 = .ok (.istore_n 2, 1) := by decide +kernel
theorem dX9_without_32 : decode cX9_without 32 = .ok (.iload_n 2, 1) := by decide +kernel
theorem dX9_without_33 : decode cX9_without 33 = .ok (.iconst 2, 1) := by decide +kernel
theorem dX9_without_34 : decode cX9_without 34 = .ok (.if_icmp .ge 23, 3) := by decide +kernel
theorem dX9_without_37 : decode cX9_without 37 = .ok (.aload_n 0, 1) := by decide +kernel
theorem dX9_without_38 : decode cX9_without 38 = .ok (.getfield 23, 3) := by decide +kernel
theorem dX9_without_41 : decode cX9_without 41 = .ok (.iload_n 2, 1) := by decide +kernel
theorem dX9_without_42 : decode cX9_without 42 = .ok (.aload_n 0, 1) := by decide +kernel
theorem dX9_without_43 : decode cX9_without 43 = .ok (.getfield 23, 3) := by decide +kernel
theorem dX9_without_46 : decode cX9_without 46 = .ok (.iload_n 2, 1) := by decide +kernel
theorem dX9_without_47 : decode cX9_without 47 = .ok (.iconst 1, 1) := by decide +kernel
theorem dX9_without_48 : decode cX9_without 48 = .ok (.iadd, 1) := by decide +kernel
theorem dX9_without_49 : decode cX9_without 49 = .ok (.iaload, 1) := by decide +kernel
theorem dX9_without_50 : decode cX9_without 50 = .ok (.iastore, 1) := by decide +kernel
theorem dX9_without_51 : decode cX9_without 51 = .ok (.iinc 2 1, 3) := by decide +kernel
theorem dX9_without_54 : decode cX9_without 54 = .ok (.goto (-22), 3) := by decide +kernel
theorem dX9_without_57 : decode cX9_without 57 = .ok (.aload_n 0, 1) := by decide +kernel
theorem dX9_without_58 : decode cX9_without 58 = .ok (.getfield 23, 3) := by decide +kernel
theorem dX9_without_61 : decode cX9_without 61 = .ok (.iconst 2, 1) := by decide +kernel
theorem dX9_without_62 : decode cX9_without 62 = .ok (.iconst (-1), 1) := by decide +kernel
theorem dX9_without_63 : decode cX9_without 63 = .ok (.iastore, 1) := by decide +kernel
theorem dX9_without_64 : decode cX9_without 64 = .ok (.aload_n 0, 1) := by decide +kernel
theorem dX9_without_65 : decode cX9_without 65 = .ok (.invokevirtual 216, 3) := by decide +kernel
theorem dX9_without_68 : decode cX9_without 68 = .ok (.ifCond .eq 8, 3) := by decide +kernel
theorem dX9_without_71 : decode cX9_without 71 = .ok (.bipush (-5), 2) := by decide +kernel
theorem dX9_without_73 : decode cX9_without 73 = .ok (.goto 7, 3) := by decide +kernel
theorem dX9_without_76 : decode cX9_without 76 = .ok (.aload_n 0, 1) := by decide +kernel
theorem dX9_without_77 : decode cX9_without 77 = .ok (.invokevirtual 228, 3) := by decide +kernel
theorem dX9_without_80 : decode cX9_without 80 = .ok (.ireturn, 1) := by decide +kernel
theorem dX9_surprised_0 : decode cX9_surprised 0 = .ok (.iload_n 1, 1) := by decide +kernel
theorem dX9_surprised_1 : decode cX9_surprised 1 = .ok (.i2l, 1) := by decide +kernel
theorem dX9_surprised_2 : decode cX9_surprised 2 = .ok (.ldc2_w 132, 3) := by decide +kernel
theorem dX9_surprised_5 : decode cX9_surprised 5 = .ok (.lconst 1, 1) := by decide +kernel
theorem dX9_surprised_6 : decode cX9_surprised 6 = .ok (.invokestatic 107, 3) := by decide +kernel
theorem dX9_surprised_9 : decode cX9_surprised 9 = .ok (.ifCond .ne 6, 3) := by decide +kernel
theorem dX9_surprised_12 : decode cX9_surprised 12 = .ok (.bipush (-2), 2) := by decide +kernel
theorem dX9_surprised_14 : decode cX9_surprised 14 = .ok (.ireturn, 1) := by decide +kernel
theorem dX9_surprised_15 : decode cX9_surprised 15 = .ok (.aload_n 0, 1) := by decide +kernel
theorem dX9_surprised_16 : decode cX9_surprised 16 = .ok (.iconst 0, 1) := by decide +kernel
theorem dX9_surprised_17 : decode cX9_surprised 17 = .ok (.invokevirtual 213, 3) := by decide +kernel
theorem dX9_surprised_20 : decode cX9_surprised 20 = .ok (.aload_n 0, 1) := by decide +kernel
theorem dX9_surprised_21 : decode cX9_surprised 21 = .ok (.iload_n 1, 1) := by decide +kernel
theorem dX9_surprised_22 : decode cX9_surprised 22 = .ok (.putfield 145, 3) := by decide +kernel
theorem dX9_surprised_25 : decode cX9_surprised 25 = .ok (.aload_n 0, 1) := by decide +kernel
theorem dX9_surprised_26 : decode cX9_surprised 26 = .ok (.invokevirtual 216, 3) := by decide +kernel
theorem dX9_surprised_29 : decode cX9_surprised 29 = .ok (.ifCond .eq 8, 3) := by decide +kernel
theorem dX9_surprised_32 : decode cX9_surprised 32 = .ok (.bipush (-5), 2) := by decide +kernel
theorem dX9_surprised_34 : decode cX9_surprised 34 = .ok (.goto 7, 3) := by decide +kernel
theorem dX9_surprised_37 : decode cX9_surprised 37 = .ok (.aload_n 0, 1) := by decide +kernel
theorem dX9_surprised_38 : decode cX9_surprised 38 = .ok (.invokevirtual 228, 3) := by decide +kernel
theorem dX9_surprised_41 : decode cX9_surprised 41 = .ok (.ireturn, 1) := by decide +kernel
theorem dX9_fight_0 : decode cX9_fight 0 = .ok (.aload_n 0, 1) := by decide +kernel
theorem dX9_fight_1 : decode cX9_fight 1 = .ok (.iload_n 1, 1) := by decide +kernel
theorem dX9_fight_2 : decode cX9_fight 2 = .ok (.iload_n 2, 1) := by decide +kernel
theorem dX9_fight_3 : decode cX9_fight 3 = .ok (.iload_n 3, 1) := by decide +kernel
theorem dX9_fight_4 : decode cX9_fight 4 = .ok (.invokevirtual 134, 3) := by decide +kernel
theorem dX9_fight_7 : decode cX9_fight 7 = .ok (.ifCond .eq 8, 3) := by decide +kernel
theorem dX9_fight_10 : decode cX9_fight 10 = .ok (.iload_n 1, 1) := by decide +kernel
theorem dX9_fight_11 : decode cX9_fight 11 = .ok (.iconst (-1), 1) := by decide +kernel
theorem dX9_fight_12 : decode cX9_fight 12 = .ok (.if_icmp .ne 6, 3) := by decide +kernel
theorem dX9_fight_15 : decode cX9_fight 15 = .ok (.bipush (-2), 2) := by decide +kernel
theorem dX9_fight_17 : decode cX9_fight 17 = .ok (.ireturn, 1) := by decide +kernel
theorem dX9_fight_18 : decode cX9_fight 18 = .ok (.aload_n 0, 1) := by decide +kernel
theorem dX9_fight_19 : decode cX9_fight 19 = .ok (.getfield 236, 3) := by decide +kernel
theorem dX9_fight_22 : decode cX9_fight 22 = .ok (.bipush 6, 2) := by decide +kernel
theorem dX9_fight_24 : decode cX9_fight 24 = .ok (.if_icmp .ne 6, 3) := by decide +kernel
theorem dX9_fight_27 : decode cX9_fight 27 = .ok (.bipush (-4), 2) := by decide +kernel
theorem dX9_fight_29 : decode cX9_fight 29 = .ok (.ireturn, 1) := by decide +kernel
theorem dX9_fight_30 : decode cX9_fight 30 = .ok (.aload_n 0, 1) := by decide +kernel
theorem dX9_fight_31 : decode cX9_fight 31 = .ok (.getfield 67, 3) := by decide +kernel
theorem dX9_fight_34 : decode cX9_fight 34 = .ok (.iconst 3, 1) := by decide +kernel
theorem dX9_fight_35 : decode cX9_fight 35 = .ok (.aload_n 0, 1) := by decide +kernel
theorem dX9_fight_36 : decode cX9_fight 36 = .ok (.getfield 236, 3) := by decide +kernel
theorem dX9_fight_39 : decode cX9_fight 39 = .ok (.imul, 1) := by decide +kernel
theorem dX9_fight_40 : decode cX9_fight 40 = .ok (.iload_n 1, 1) := by decide +kernel
theorem dX9_fight_41 : decode cX9_fight 41 = .ok (.iastore, 1) := by decide +kernel
theorem dX9_fight_42 : decode cX9_fight 42 = .ok (.aload_n 0, 1) := by decide +kernel
theorem dX9_fight_43 : decode cX9_fight 43 = .ok (.getfield 67, 3) := by decide +kernel
theorem dX9_fight_46 : decode cX9_fight 46 = .ok (.iconst 3, 1) := by decide +kernel
theorem dX9_fight_47 : decode cX9_fight 47 = .ok (.aload_n 0, 1) := by decide +kernel
theorem dX9_fight_48 : decode cX9_fight 48 = .ok (.getfield 236, 3) := by decide +kernel
theorem dX9_fight_51 : decode cX9_fight 51 = .ok (.imul, 1) := by decide +kernel
theorem dX9_fight_52 : decode cX9_fight 52 = .ok (.iconst 1, 1) := by decide +kernel
theorem dX9_fight_53 : decode cX9_fight 53 = .ok (.iadd, 1) := by decide +kernel
theorem dX9_fight_54 : decode cX9_fight 54 = .ok (.iload_n 2, 1) := by decide +kernel
theorem dX9_fight_55 : decode cX9_fight 55 = .ok (.iastore, 1) := by decide +kernel
theorem dX9_fight_56 : decode cX9_fight 56 = .ok (.aload_n 0, 1) := by decide +kernel
theorem dX9_fight_57 : decode cX9_fight 57 = .ok (.getfield 67, 3) := by decide +kernel
theorem dX9_fight_60 : decode cX9_fight 60 = .ok (.iconst 3, 1) := by decide +kernel
theorem dX9_fight_61 : decode cX9_fight 61 = .ok (.aload_n 0, 1) := by decide +kernel
theorem dX9_fight_62 : decode cX9_fight 62 = .ok (.getfield 236, 3) := by decide +kernel
theorem dX9_fight_65 : decode cX9_fight 65 = .ok (.imul, 1) := by decide +kernel
theorem dX9_fight_66 : decode cX9_fight 66 = .ok (.iconst 2, 1) := by decide +kernel
theorem dX9_fight_67 : decode cX9_fight 67 = .ok (.iadd, 1) := by decide +kernel
theorem dX9_fight_68 : decode cX9_fight 68 = .ok (.iload_n 3, 1) := by decide +kernel
theorem dX9_fight_69 : decode cX9_fight 69 = .ok (.iastore, 1) := by decide +kernel
theorem dX9_fight_70 : decode cX9_fight 70 = .ok (.aload_n 0, 1) := by decide +kernel
theorem dX9_fight_71 : decode cX9_fight 71 = .ok (.dup, 1) := by decide +kernel
theorem dX9_fight_72 : decode cX9_fight 72 = .ok (.getfield 236, 3) := by decide +kernel
theorem dX9_fight_75 : decode cX9_fight 75 = .ok (.iconst 1, 1) := by decide +kernel
theorem dX9_fight_76 : decode cX9_fight 76 = .ok (.iadd, 1) := by decide +kernel
theorem dX9_fight_77 : decode cX9_fight 77 = .ok (.putfield 236, 3) := by decide +kernel
theorem dX9_fight_80 : decode cX9_fight 80 = .ok (.aload_n 0, 1) := by decide +kernel
theorem dX9_fight_81 : decode cX9_fight 81 = .ok (.getfield 236, 3) := by decide +kernel
theorem dX9_fight_84 : decode cX9_fight 84 = .ok (.ireturn, 1) := by decide +kernel
theorem dX9_rest_0 : decode cX9_rest 0 = .ok (.aload_n 0, 1) := by decide +kernel
theorem dX9_rest_1 : decode cX9_rest 1 = .ok (.getfield 236, 3) := by decide +kernel
theorem dX9_rest_4 : decode cX9_rest 4 = .ok (.istore_n 1, 1) := by decide +kernel
theorem dX9_rest_5 : decode cX9_rest 5 = .ok (.aload_n 0, 1) := by decide +kernel
theorem dX9_rest_6 : decode cX9_rest 6 = .ok (.iconst 0, 1) := by decide +kernel
theorem dX9_rest_7 : decode cX9_rest 7 = .ok (.putfield 236, 3) := by decide +kernel
theorem dX9_rest_10 : decode cX9_rest 10 = .ok (.iload_n 1, 1) := by decide +kernel
theorem dX9_rest_11 : decode cX9_rest 11 = .ok (.ireturn, 1) := by decide +kernel
theorem dX9_purse_0 : decode cX9_purse 0 = .ok (.iload_n 1, 1) := by decide +kernel
theorem dX9_purse_1 : decode cX9_purse 1 = .ok (.i2l, 1) := by decide +kernel
theorem dX9_purse_2 : decode cX9_purse 2 = .ok (.lconst 0, 1) := by decide +kernel
theorem dX9_purse_3 : decode cX9_purse 3 = .ok (.ldc2_w 113, 3) := by decide +kernel
theorem dX9_purse_6 : decode cX9_purse 6 = .ok (.invokestatic 107, 3) := by decide +kernel
theorem dX9_purse_9 : decode cX9_purse 9 = .ok (.ifCond .eq 15, 3) := by decide +kernel
theorem dX9_purse_12 : decode cX9_purse 12 = .ok (.iload_n 2, 1) := by decide +kernel
theorem dX9_purse_13 : decode cX9_purse 13 = .ok (.i2l, 1) := by decide +kernel
theorem dX9_purse_14 : decode cX9_purse 14 = .ok (.lconst 1, 1) := by decide +kernel
theorem dX9_purse_15 : decode cX9_purse 15 = .ok (.ldc2_w 115, 3) := by decide +kernel
theorem dX9_purse_18 : decode cX9_purse 18 = .ok (.invokestatic 107, 3) := by decide +kernel
theorem dX9_purse_21 : decode cX9_purse 21 = .ok (.ifCond .ne 6, 3) := by decide +kernel
theorem dX9_purse_24 : decode cX9_purse 24 = .ok (.bipush (-2), 2) := by decide +kernel
theorem dX9_purse_26 : decode cX9_purse 26 = .ok (.ireturn, 1) := by decide +kernel
theorem dX9_purse_27 : decode cX9_purse 27 = .ok (.aload_n 0, 1) := by decide +kernel
theorem dX9_purse_28 : decode cX9_purse 28 = .ok (.iload_n 1, 1) := by decide +kernel
theorem dX9_purse_29 : decode cX9_purse 29 = .ok (.putfield 70, 3) := by decide +kernel
theorem dX9_purse_32 : decode cX9_purse 32 = .ok (.aload_n 0, 1) := by decide +kernel
theorem dX9_purse_33 : decode cX9_purse 33 = .ok (.iload_n 2, 1) := by decide +kernel
theorem dX9_purse_34 : decode cX9_purse 34 = .ok (.putfield 73, 3) := by decide +kernel
theorem dX9_purse_37 : decode cX9_purse 37 = .ok (.iconst 1, 1) := by decide +kernel
theorem dX9_purse_38 : decode cX9_purse 38 = .ok (.ireturn, 1) := by decide +kernel
theorem dX9_oddsOf_0 : decode cX9_oddsOf 0 = .ok (.aload_n 0, 1) := by decide +kernel
theorem dX9_oddsOf_1 : decode cX9_oddsOf 1 = .ok (.iload_n 2, 1) := by decide +kernel
theorem dX9_oddsOf_2 : decode cX9_oddsOf 2 = .ok (.ifCond .eq 10, 3) := by decide +kernel
theorem dX9_oddsOf_5 : decode cX9_oddsOf 5 = .ok (.aload_n 0, 1) := by decide +kernel
theorem dX9_oddsOf_6 : decode cX9_oddsOf 6 = .ok (.getfield 73, 3) := by decide +kernel
theorem dX9_oddsOf_9 : decode cX9_oddsOf 9 = .ok (.goto 4, 3) := by decide +kernel
theorem dX9_oddsOf_12 : decode cX9_oddsOf 12 = .ok (.iconst 0, 1) := by decide +kernel
theorem dX9_oddsOf_13 : decode cX9_oddsOf 13 = .ok (.invokevirtual 213, 3) := by decide +kernel
theorem dX9_oddsOf_16 : decode cX9_oddsOf 16 = .ok (.iconst 0, 1) := by decide +kernel
theorem dX9_oddsOf_17 : decode cX9_oddsOf 17 = .ok (.istore_n 3, 1) := by decide +kernel
theorem dX9_oddsOf_18 : decode cX9_oddsOf 18 = .ok (.iload_n 3, 1) := by decide +kernel
theorem dX9_oddsOf_19 : decode cX9_oddsOf 19 = .ok (.iconst 3, 1) := by decide +kernel
theorem dX9_oddsOf_20 : decode cX9_oddsOf 20 = .ok (.if_icmp .ge 27, 3) := by decide +kernel
theorem dX9_oddsOf_23 : decode cX9_oddsOf 23 = .ok (.aload_n 0, 1) := by decide +kernel
theorem dX9_oddsOf_24 : decode cX9_oddsOf 24 = .ok (.getfield 23, 3) := by decide +kernel
theorem dX9_oddsOf_27 : decode cX9_oddsOf 27 = .ok (.iconst 3, 1) := by decide +kernel
theorem dX9_oddsOf_28 : decode cX9_oddsOf 28 = .ok (.iload_n 3, 1) := by decide +kernel
theorem dX9_oddsOf_29 : decode cX9_oddsOf 29 = .ok (.iadd, 1) := by decide +kernel
theorem dX9_oddsOf_30 : decode cX9_oddsOf 30 = .ok (.aload_n 0, 1) := by decide +kernel
theorem dX9_oddsOf_31 : decode cX9_oddsOf 31 = .ok (.getfield 67, 3) := by decide +kernel
theorem dX9_oddsOf_34 : decode cX9_oddsOf 34 = .ok (.iconst 3, 1) := by decide +kernel
theorem dX9_oddsOf_35 : decode cX9_oddsOf 35 = .ok (.iload_n 1, 1) := by decide +kernel
theorem dX9_oddsOf_36 : decode cX9_oddsOf 36 = .ok (.imul, 1) := by decide +kernel
theorem dX9_oddsOf_37 : decode cX9_oddsOf 37 = .ok (.iload_n 3, 1) := by decide +kernel
theorem dX9_oddsOf_38 : decode cX9_oddsOf 38 = .ok (.iadd, 1) := by decide +kernel
theorem dX9_oddsOf_39 : decode cX9_oddsOf 39 = .ok (.iaload, 1) := by decide +kernel
theorem dX9_oddsOf_40 : decode cX9_oddsOf 40 = .ok (.iastore, 1) := by decide +kernel
theorem dX9_oddsOf_41 : decode cX9_oddsOf 41 = .ok (.iinc 3 1, 3) := by decide +kernel
theorem dX9_oddsOf_44 : decode cX9_oddsOf 44 = .ok (.goto (-26), 3) := by decide +kernel
theorem dX9_oddsOf_47 : decode cX9_oddsOf 47 = .ok (.aload_n 0, 1) := by decide +kernel
theorem dX9_oddsOf_48 : decode cX9_oddsOf 48 = .ok (.invokevirtual 216, 3) := by decide +kernel
theorem dX9_oddsOf_51 : decode cX9_oddsOf 51 = .ok (.ifCond .eq 8, 3) := by decide +kernel
theorem dX9_oddsOf_54 : decode cX9_oddsOf 54 = .ok (.bipush (-5), 2) := by decide +kernel
theorem dX9_oddsOf_56 : decode cX9_oddsOf 56 = .ok (.goto 7, 3) := by decide +kernel
theorem dX9_oddsOf_59 : decode cX9_oddsOf 59 = .ok (.aload_n 0, 1) := by decide +kernel
theorem dX9_oddsOf_60 : decode cX9_oddsOf 60 = .ok (.invokevirtual 228, 3) := by decide +kernel
theorem dX9_oddsOf_63 : decode cX9_oddsOf 63 = .ok (.ireturn, 1) := by decide +kernel
theorem dX9_findUse_0 : decode cX9_findUse 0 = .ok (.aload_n 0, 1) := by decide +kernel
theorem dX9_findUse_1 : decode cX9_findUse 1 = .ok (.getfield 236, 3) := by decide +kernel
theorem dX9_findUse_4 : decode cX9_findUse 4 = .ok (.ifCond .eq 13, 3) := by decide +kernel
theorem dX9_findUse_7 : decode cX9_findUse 7 = .ok (.aload_n 0, 1) := by decide +kernel
theorem dX9_findUse_8 : decode cX9_findUse 8 = .ok (.getfield 13, 3) := by decide +kernel
theorem dX9_findUse_11 : decode cX9_findUse 11 = .ok (.iconst 0, 1) := by decide +kernel
theorem dX9_findUse_12 : decode cX9_findUse 12 = .ok (.iaload, 1) := by decide +kernel
theorem dX9_findUse_13 : decode cX9_findUse 13 = .ok (.iconst (-1), 1) := by decide +kernel
theorem dX9_findUse_14 : decode cX9_findUse 14 = .ok (.if_icmp .ne 6, 3) := by decide +kernel
theorem dX9_findUse_17 : decode cX9_findUse 17 = .ok (.bipush (-3), 2) := by decide +kernel
theorem dX9_findUse_19 : decode cX9_findUse 19 = .ok (.ireturn, 1) := by decide +kernel
theorem dX9_findUse_20 : decode cX9_findUse 20 = .ok (.iconst 0, 1) := by decide +kernel
theorem dX9_findUse_21 : decode cX9_findUse 21 = .ok (.istore_n 1, 1) := by decide +kernel
theorem dX9_findUse_22 : decode cX9_findUse 22 = .ok (.iconst 0, 1) := by decide +kernel
theorem dX9_findUse_23 : decode cX9_findUse 23 = .ok (.istore_n 2, 1) := by decide +kernel
theorem dX9_findUse_24 : decode cX9_findUse 24 = .ok (.iload_n 2, 1) := by decide +kernel
theorem dX9_findUse_25 : decode cX9_findUse 25 = .ok (.aload_n 0, 1) := by decide +kernel
theorem dX9_findUse_26 : decode cX9_findUse 26 = .ok (.getfield 236, 3) := by decide +kernel
theorem dX9_findUse_29 : decode cX9_findUse 29 = .ok (.if_icmp .ge 73, 3) := by decide +kernel
theorem dX9_findUse_32 : decode cX9_findUse 32 = .ok (.aload_n 0, 1) := by decide +kernel
theorem dX9_findUse_33 : decode cX9_findUse 33 = .ok (.getfield 76, 3) := by decide +kernel
theorem dX9_findUse_36 : decode cX9_findUse 36 = .ok (.iconst 2, 1) := by decide +kernel
theorem dX9_findUse_37 : decode cX9_findUse 37 = .ok (.iload_n 2, 1) := by decide +kernel
theorem dX9_findUse_38 : decode cX9_findUse 38 = .ok (.imul, 1) := by decide +kernel
theorem dX9_findUse_39 : decode cX9_findUse 39 = .ok (.aload_n 0, 1) := by decide +kernel
theorem dX9_findUse_40 : decode cX9_findUse 40 = .ok (.iload_n 2, 1) := by decide +kernel
theorem dX9_findUse_41 : decode cX9_findUse 41 = .ok (.iconst 0, 1) := by decide +kernel
theorem dX9_findUse_42 : decode cX9_findUse 42 = .ok (.invokevirtual 239, 3) := by decide +kernel
theorem dX9_findUse_45 : decode cX9_findUse 45 = .ok (.iastore, 1) := by decide +kernel
theorem dX9_findUse_46 : decode cX9_findUse 46 = .ok (.aload_n 0, 1) := by decide +kernel
theorem dX9_findUse_47 : decode cX9_findUse 47 = .ok (.getfield 76, 3) := by decide +kernel
theorem dX9_findUse_50 : decode cX9_findUse 50 = .ok (.iconst 2, 1) := by decide +kernel
theorem dX9_findUse_51 : decode cX9_findUse 51 = .ok (.iload_n 2, 1) := by decide +kernel
theorem dX9_findUse_52 : decode cX9_findUse 52 = .ok (.imul, 1) := by decide +kernel
theorem dX9_findUse_53 : decode cX9_findUse 53 = .ok (.iconst 1, 1) := by decide +kernel
theorem dX9_findUse_54 : decode cX9_findUse 54 = .ok (.iadd, 1) := by decide +kernel
theorem dX9_findUse_55 : decode cX9_findUse 55 = .ok (.aload_n 0, 1) := by decide +kernel
theorem dX9_findUse_56 : decode cX9_findUse 56 = .ok (.iload_n 2, 1) := by decide +kernel
theorem dX9_findUse_57 : decode cX9_findUse 57 = .ok (.iconst 1, 1) := by decide +kernel
theorem dX9_findUse_58 : decode cX9_findUse 58 = .ok (.invokevirtual 239, 3) := by decide +kernel
theorem dX9_findUse_61 : decode cX9_findUse 61 = .ok (.iastore, 1) := by decide +kernel
theorem dX9_findUse_62 : decode cX9_findUse 62 = .ok (.iload_n 1, 1) := by decide +kernel
theorem dX9_findUse_63 : decode cX9_findUse 63 = .ok (.ifCond .ne 27, 3) := by decide +kernel
theorem dX9_findUse_66 : decode cX9_findUse 66 = .ok (.aload_n 0, 1) := by decide +kernel
theorem dX9_findUse_67 : decode cX9_findUse 67 = .ok (.getfield 76, 3) := by decide +kernel
theorem dX9_findUse_70 : decode cX9_findUse 70 = .ok (.iconst 2, 1) := by decide +kernel
theorem dX9_findUse_71 : decode cX9_findUse 71 = .ok (.iload_n 2, 1) := by decide +kernel
theorem dX9_findUse_72 : decode cX9_findUse 72 = .ok (.imul, 1) := by decide +kernel
theorem dX9_findUse_73 : decode cX9_findUse 73 = .ok (.iaload, 1) := by decide +kernel
theorem dX9_findUse_74 : decode cX9_findUse 74 = .ok (.ifCond .lt 16, 3) := by decide +kernel
theorem dX9_findUse_77 : decode cX9_findUse 77 = .ok (.aload_n 0, 1) := by decide +kernel
theorem dX9_findUse_78 : decode cX9_findUse 78 = .ok (.getfield 76, 3) := by decide +kernel
theorem dX9_findUse_81 : decode cX9_findUse 81 = .ok (.iconst 2, 1) := by decide +kernel
theorem dX9_findUse_82 : decode cX9_findUse 82 = .ok (.iload_n 2, 1) := by decide +kernel
theorem dX9_findUse_83 : decode cX9_findUse 83 = .ok (.imul, 1) := by decide +kernel
theorem dX9_findUse_84 : decode cX9_findUse 84 = .ok (.iconst 1, 1) := by decide +kernel
theorem dX9_findUse_85 : decode cX9_findUse 85 = .ok (.iadd, 1) := by decide +kernel
theorem dX9_findUse_86 : decode cX9_findUse 86 = .ok (.iaload, 1) := by decide +kernel
theorem dX9_findUse_87 : decode cX9_findUse 87 = .ok (.ifCond .ge 7, 3) := by decide +kernel
theorem dX9_findUse_90 : decode cX9_findUse 90 = .ok (.iconst 1, 1) := by decide +kernel
theorem dX9_findUse_91 : decode cX9_findUse 91 = .ok (.goto 4, 3) := by decide +kernel
theorem dX9_findUse_94 : decode cX9_findUse 94 = .ok (.iconst 0, 1) := by decide +kernel
theorem dX9_findUse_95 : decode cX9_findUse 95 = .ok (.istore_n 1, 1) := by decide +kernel
theorem dX9_findUse_96 : decode cX9_findUse 96 = .ok (.iinc 2 1, 3) := by decide +kernel
theorem dX9_findUse_99 : decode cX9_findUse 99 = .ok (.goto (-75), 3) := by decide +kernel
theorem dX9_findUse_102 : decode cX9_findUse 102 = .ok (.iload_n 1, 1) := by decide +kernel
theorem dX9_findUse_103 : decode cX9_findUse 103 = .ok (.ifCond .eq 6, 3) := by decide +kernel
theorem dX9_findUse_106 : decode cX9_findUse 106 = .ok (.bipush (-5), 2) := by decide +kernel
theorem dX9_findUse_108 : decode cX9_findUse 108 = .ok (.ireturn, 1) := by decide +kernel
theorem dX9_findUse_109 : decode cX9_findUse 109 = .ok (.iconst (-1), 1) := by decide +kernel
theorem dX9_findUse_110 : decode cX9_findUse 110 = .ok (.istore_n 2, 1) := by decide +kernel
theorem dX9_findUse_111 : decode cX9_findUse 111 = .ok (.iconst 0, 1) := by decide +kernel
theorem dX9_findUse_112 : decode cX9_findUse 112 = .ok (.istore_n 3, 1) := by decide +kernel
theorem dX9_findUse_113 : decode cX9_findUse 113 = .ok (.iconst 0, 1) := by decide +kernel
theorem dX9_findUse_114 : decode cX9_findUse 114 = .ok (.istore 4, 2) := by decide +kernel
theorem dX9_findUse_116 : decode cX9_findUse 116 = .ok (.iload 4, 2) := by decide +kernel
theorem dX9_findUse_118 : decode cX9_findUse 118 = .ok (.iconst 1, 1) := by decide +kernel
theorem dX9_findUse_119 : decode cX9_findUse 119 = .ok (.aload_n 0, 1) := by decide +kernel
theorem dX9_findUse_120 : decode cX9_findUse 120 = .ok (.getfield 236, 3) := by decide +kernel
theorem dX9_findUse_123 : decode cX9_findUse 123 = .ok (.ishl, 1) := by decide +kernel
theorem dX9_findUse_124 : decode cX9_findUse 124 = .ok (.if_icmp .ge 106, 3) := by decide +kernel
theorem dX9_findUse_127 : decode cX9_findUse 127 = .ok (.iconst 0, 1) := by decide +kernel
theorem dX9_findUse_128 : decode cX9_findUse 128 = .ok (.istore 5, 2) := by decide +kernel
theorem dX9_findUse_130 : decode cX9_findUse 130 = .ok (.iconst 0, 1) := by decide +kernel
theorem dX9_findUse_131 : decode cX9_findUse 131 = .ok (.istore 6, 2) := by decide +kernel
theorem dX9_findUse_133 : decode cX9_findUse 133 = .ok (.iconst 0, 1) := by decide +kernel
theorem dX9_findUse_134 : decode cX9_findUse 134 = .ok (.istore 7, 2) := by decide +kernel
theorem dX9_findUse_136 : decode cX9_findUse 136 = .ok (.iload 7, 2) := by decide +kernel
theorem dX9_findUse_138 : decode cX9_findUse 138 = .ok (.aload_n 0, 1) := by decide +kernel
theorem dX9_findUse_139 : decode cX9_findUse 139 = .ok (.getfield 236, 3) := by decide +kernel
theorem dX9_findUse_142 : decode cX9_findUse 142 = .ok (.if_icmp .ge 43, 3) := by decide +kernel
theorem dX9_findUse_145 : decode cX9_findUse 145 = .ok (.iload 5, 2) := by decide +kernel
theorem dX9_findUse_147 : decode cX9_findUse 147 = .ok (.aload_n 0, 1) := by decide +kernel
theorem dX9_findUse_148 : decode cX9_findUse 148 = .ok (.getfield 76, 3) := by decide +kernel
theorem dX9_findUse_151 : decode cX9_findUse 151 = .ok (.iconst 2, 1) := by decide +kernel
theorem dX9_findUse_152 : decode cX9_findUse 152 = .ok (.iload 7, 2) := by decide +kernel
theorem dX9_findUse_154 : decode cX9_findUse 154 = .ok (.imul, 1) := by decide +kernel
theorem dX9_findUse_155 : decode cX9_findUse 155 = .ok (.iload 4, 2) := by decide +kernel
theorem dX9_findUse_157 : decode cX9_findUse 157 = .ok (.iload 7, 2) := by decide +kernel
theorem dX9_findUse_159 : decode cX9_findUse 159 = .ok (.ishr, 1) := by decide +kernel
theorem dX9_findUse_160 : decode cX9_findUse 160 = .ok (.iconst 1, 1) := by decide +kernel
theorem dX9_findUse_161 : decode cX9_findUse 161 = .ok (.iand, 1) := by decide +kernel
theorem dX9_findUse_162 : decode cX9_findUse 162 = .ok (.iadd, 1) := by decide +kernel
theorem dX9_findUse_163 : decode cX9_findUse 163 = .ok (.iaload, 1) := by decide +kernel
theorem dX9_findUse_164 : decode cX9_findUse 164 = .ok (.iadd, 1) := by decide +kernel
theorem dX9_findUse_165 : decode cX9_findUse 165 = .ok (.istore 5, 2) := by decide +kernel
theorem dX9_findUse_167 : decode cX9_findUse 167 = .ok (.iload 6, 2) := by decide +kernel
theorem dX9_findUse_169 : decode cX9_findUse 169 = .ok (.iload 4, 2) := by decide +kernel
theorem dX9_findUse_171 : decode cX9_findUse 171 = .ok (.iload 7, 2) := by decide +kernel
theorem dX9_findUse_173 : decode cX9_findUse 173 = .ok (.ishr, 1) := by decide +kernel
theorem dX9_findUse_174 : decode cX9_findUse 174 = .ok (.iconst 1, 1) := by decide +kernel
theorem dX9_findUse_175 : decode cX9_findUse 175 = .ok (.iand, 1) := by decide +kernel
theorem dX9_findUse_176 : decode cX9_findUse 176 = .ok (.iadd, 1) := by decide +kernel
theorem dX9_findUse_177 : decode cX9_findUse 177 = .ok (.istore 6, 2) := by decide +kernel
theorem dX9_findUse_179 : decode cX9_findUse 179 = .ok (.iinc 7 1, 3) := by decide +kernel
theorem dX9_findUse_182 : decode cX9_findUse 182 = .ok (.goto (-46), 3) := by decide +kernel
theorem dX9_findUse_185 : decode cX9_findUse 185 = .ok (.iload 6, 2) := by decide +kernel
theorem dX9_findUse_187 : decode cX9_findUse 187 = .ok (.aload_n 0, 1) := by decide +kernel
theorem dX9_findUse_188 : decode cX9_findUse 188 = .ok (.getfield 70, 3) := by decide +kernel
theorem dX9_findUse_191 : decode cX9_findUse 191 = .ok (.if_icmp .gt 33, 3) := by decide +kernel
theorem dX9_findUse_194 : decode cX9_findUse 194 = .ok (.iload 5, 2) := by decide +kernel
theorem dX9_findUse_196 : decode cX9_findUse 196 = .ok (.iload_n 2, 1) := by decide +kernel
theorem dX9_findUse_197 : decode cX9_findUse 197 = .ok (.if_icmp .gt 15, 3) := by decide +kernel
theorem dX9_findUse_200 : decode cX9_findUse 200 = .ok (.iload 5, 2) := by decide +kernel
theorem dX9_findUse_202 : decode cX9_findUse 202 = .ok (.iload_n 2, 1) := by decide +kernel
theorem dX9_findUse_203 : decode cX9_findUse 203 = .ok (.if_icmp .ne 21, 3) := by decide +kernel
theorem dX9_findUse_206 : decode cX9_findUse 206 = .ok (.iload 6, 2) := by decide +kernel
theorem dX9_findUse_208 : decode cX9_findUse 208 = .ok (.iload_n 3, 1) := by decide +kernel
theorem dX9_findUse_209 : decode cX9_findUse 209 = .ok (.if_icmp .ge 15, 3) := by decide +kernel
theorem dX9_findUse_212 : decode cX9_findUse 212 = .ok (.iload 5, 2) := by decide +kernel
theorem dX9_findUse_214 : decode cX9_findUse 214 = .ok (.istore_n 2, 1) := by decide +kernel
theorem dX9_findUse_215 : decode cX9_findUse 215 = .ok (.iload 6, 2) := by decide +kernel
theorem dX9_findUse_217 : decode cX9_findUse 217 = .ok (.istore_n 3, 1) := by decide +kernel
theorem dX9_findUse_218 : decode cX9_findUse 218 = .ok (.aload_n 0, 1) := by decide +kernel
theorem dX9_findUse_219 : decode cX9_findUse 219 = .ok (.iload 4, 2) := by decide +kernel
theorem dX9_findUse_221 : decode cX9_findUse 221 = .ok (.putfield 242, 3) := by decide +kernel
theorem dX9_findUse_224 : decode cX9_findUse 224 = .ok (.iinc 4 1, 3) := by decide +kernel
theorem dX9_findUse_227 : decode cX9_findUse 227 = .ok (.goto (-111), 3) := by decide +kernel
theorem dX9_findUse_230 : decode cX9_findUse 230 = .ok (.iload_n 2, 1) := by decide +kernel
theorem dX9_findUse_231 : decode cX9_findUse 231 = .ok (.ireturn, 1) := by decide +kernel
theorem dX9_day_0 : decode cX9_day 0 = .ok (.aload_n 0, 1) := by decide +kernel
theorem dX9_day_1 : decode cX9_day 1 = .ok (.invokevirtual 245, 3) := by decide +kernel
theorem dX9_day_4 : decode cX9_day 4 = .ok (.ireturn, 1) := by decide +kernel
theorem dX9_use_0 : decode cX9_use 0 = .ok (.aload_n 0, 1) := by decide +kernel
theorem dX9_use_1 : decode cX9_use 1 = .ok (.invokevirtual 245, 3) := by decide +kernel
theorem dX9_use_4 : decode cX9_use 4 = .ok (.istore_n 1, 1) := by decide +kernel
theorem dX9_use_5 : decode cX9_use 5 = .ok (.iload_n 1, 1) := by decide +kernel
theorem dX9_use_6 : decode cX9_use 6 = .ok (.ifCond .ge 7, 3) := by decide +kernel
theorem dX9_use_9 : decode cX9_use 9 = .ok (.iload_n 1, 1) := by decide +kernel
theorem dX9_use_10 : decode cX9_use 10 = .ok (.goto 7, 3) := by decide +kernel
theorem dX9_use_13 : decode cX9_use 13 = .ok (.aload_n 0, 1) := by decide +kernel
theorem dX9_use_14 : decode cX9_use 14 = .ok (.getfield 242, 3) := by decide +kernel
theorem dX9_use_17 : decode cX9_use 17 = .ok (.ireturn, 1) := by decide +kernel
theorem dX9_odds_0 : decode cX9_odds 0 = .ok (.iload_n 1, 1) := by decide +kernel
theorem dX9_odds_1 : decode cX9_odds 1 = .ok (.i2l, 1) := by decide +kernel
theorem dX9_odds_2 : decode cX9_odds 2 = .ok (.lconst 0, 1) := by decide +kernel
theorem dX9_odds_3 : decode cX9_odds 3 = .ok (.aload_n 0, 1) := by decide +kernel
theorem dX9_odds_4 : decode cX9_odds 4 = .ok (.getfield 236, 3) := by decide +kernel
theorem dX9_odds_7 : decode cX9_odds 7 = .ok (.iconst 1, 1) := by decide +kernel
theorem dX9_odds_8 : decode cX9_odds 8 = .ok (.isub, 1) := by decide +kernel
theorem dX9_odds_9 : decode cX9_odds 9 = .ok (.i2l, 1) := by decide +kernel
theorem dX9_odds_10 : decode cX9_odds 10 = .ok (.invokestatic 107, 3) := by decide +kernel
theorem dX9_odds_13 : decode cX9_odds 13 = .ok (.ifCond .eq 13, 3) := by decide +kernel
theorem dX9_odds_16 : decode cX9_odds 16 = .ok (.iload_n 2, 1) := by decide +kernel
theorem dX9_odds_17 : decode cX9_odds 17 = .ok (.i2l, 1) := by decide +kernel
theorem dX9_odds_18 : decode cX9_odds 18 = .ok (.lconst 0, 1) := by decide +kernel
theorem dX9_odds_19 : decode cX9_odds 19 = .ok (.lconst 1, 1) := by decide +kernel
theorem dX9_odds_20 : decode cX9_odds 20 = .ok (.invokestatic 107, 3) := by decide +kernel
theorem dX9_odds_23 : decode cX9_odds 23 = .ok (.ifCond .ne 6, 3) := by decide +kernel
theorem dX9_odds_26 : decode cX9_odds 26 = .ok (.bipush (-2), 2) := by decide +kernel
theorem dX9_odds_28 : decode cX9_odds 28 = .ok (.ireturn, 1) := by decide +kernel
theorem dX9_odds_29 : decode cX9_odds 29 = .ok (.aload_n 0, 1) := by decide +kernel
theorem dX9_odds_30 : decode cX9_odds 30 = .ok (.getfield 13, 3) := by decide +kernel
theorem dX9_odds_33 : decode cX9_odds 33 = .ok (.iconst 0, 1) := by decide +kernel
theorem dX9_odds_34 : decode cX9_odds 34 = .ok (.iaload, 1) := by decide +kernel
theorem dX9_odds_35 : decode cX9_odds 35 = .ok (.iconst (-1), 1) := by decide +kernel
theorem dX9_odds_36 : decode cX9_odds 36 = .ok (.if_icmp .ne 8, 3) := by decide +kernel
theorem dX9_odds_39 : decode cX9_odds 39 = .ok (.bipush (-3), 2) := by decide +kernel
theorem dX9_odds_41 : decode cX9_odds 41 = .ok (.goto 18, 3) := by decide +kernel
theorem dX9_odds_44 : decode cX9_odds 44 = .ok (.aload_n 0, 1) := by decide +kernel
theorem dX9_odds_45 : decode cX9_odds 45 = .ok (.iload_n 1, 1) := by decide +kernel
theorem dX9_odds_46 : decode cX9_odds 46 = .ok (.iload_n 2, 1) := by decide +kernel
theorem dX9_odds_47 : decode cX9_odds 47 = .ok (.iconst 1, 1) := by decide +kernel
theorem dX9_odds_48 : decode cX9_odds 48 = .ok (.if_icmp .ne 7, 3) := by decide +kernel
theorem dX9_odds_51 : decode cX9_odds 51 = .ok (.iconst 1, 1) := by decide +kernel
theorem dX9_odds_52 : decode cX9_odds 52 = .ok (.goto 4, 3) := by decide +kernel
theorem dX9_odds_55 : decode cX9_odds 55 = .ok (.iconst 0, 1) := by decide +kernel
theorem dX9_odds_56 : decode cX9_odds 56 = .ok (.invokevirtual 239, 3) := by decide +kernel
theorem dX9_odds_59 : decode cX9_odds 59 = .ok (.ireturn, 1) := by decide +kernel
theorem dX9_wish_0 : decode cX9_wish 0 = .ok (.iload_n 1, 1) := by decide +kernel
theorem dX9_wish_1 : decode cX9_wish 1 = .ok (.i2l, 1) := by decide +kernel
theorem dX9_wish_2 : decode cX9_wish 2 = .ok (.lconst 0, 1) := by decide +kernel
theorem dX9_wish_3 : decode cX9_wish 3 = .ok (.ldc2_w 248, 3) := by decide +kernel
theorem dX9_wish_6 : decode cX9_wish 6 = .ok (.invokestatic 107, 3) := by decide +kernel
theorem dX9_wish_9 : decode cX9_wish 9 = .ok (.ifCond .eq 16, 3) := by decide +kernel
theorem dX9_wish_12 : decode cX9_wish 12 = .ok (.iload_n 2, 1) := by decide +kernel
theorem dX9_wish_13 : decode cX9_wish 13 = .ok (.i2l, 1) := by decide +kernel
theorem dX9_wish_14 : decode cX9_wish 14 = .ok (.iload_n 1, 1) := by decide +kernel
theorem dX9_wish_15 : decode cX9_wish 15 = .ok (.i2l, 1) := by decide +kernel
theorem dX9_wish_16 : decode cX9_wish 16 = .ok (.ldc2_w 248, 3) := by decide +kernel
theorem dX9_wish_19 : decode cX9_wish 19 = .ok (.invokestatic 107, 3) := by decide +kernel
theorem dX9_wish_22 : decode cX9_wish 22 = .ok (.ifCond .ne 6, 3) := by decide +kernel
theorem dX9_wish_25 : decode cX9_wish 25 = .ok (.bipush (-2), 2) := by decide +kernel
theorem dX9_wish_27 : decode cX9_wish 27 = .ok (.ireturn, 1) := by decide +kernel
theorem dX9_wish_28 : decode cX9_wish 28 = .ok (.aload_n 0, 1) := by decide +kernel
theorem dX9_wish_29 : decode cX9_wish 29 = .ok (.getfield 13, 3) := by decide +kernel
theorem dX9_wish_32 : decode cX9_wish 32 = .ok (.iconst 0, 1) := by decide +kernel
theorem dX9_wish_33 : decode cX9_wish 33 = .ok (.iaload, 1) := by decide +kernel
theorem dX9_wish_34 : decode cX9_wish 34 = .ok (.iconst (-1), 1) := by decide +kernel
theorem dX9_wish_35 : decode cX9_wish 35 = .ok (.if_icmp .ne 6, 3) := by decide +kernel
theorem dX9_wish_38 : decode cX9_wish 38 = .ok (.bipush (-3), 2) := by decide +kernel
theorem dX9_wish_40 : decode cX9_wish 40 = .ok (.ireturn, 1) := by decide +kernel
theorem dX9_wish_41 : decode cX9_wish 41 = .ok (.aload_n 0, 1) := by decide +kernel
theorem dX9_wish_42 : decode cX9_wish 42 = .ok (.iconst 0, 1) := by decide +kernel
theorem dX9_wish_43 : decode cX9_wish 43 = .ok (.putfield 250, 3) := by decide +kernel
theorem dX9_wish_46 : decode cX9_wish 46 = .ok (.iconst 0, 1) := by decide +kernel
theorem dX9_wish_47 : decode cX9_wish 47 = .ok (.istore_n 3, 1) := by decide +kernel
theorem dX9_wish_48 : decode cX9_wish 48 = .ok (.iload_n 3, 1) := by decide +kernel
theorem dX9_wish_49 : decode cX9_wish 49 = .ok (.bipush 6, 2) := by decide +kernel
theorem dX9_wish_51 : decode cX9_wish 51 = .ok (.if_icmp .ge 155, 3) := by decide +kernel
theorem dX9_wish_54 : decode cX9_wish 54 = .ok (.iload_n 3, 1) := by decide +kernel
theorem dX9_wish_55 : decode cX9_wish 55 = .ok (.aload_n 0, 1) := by decide +kernel
theorem dX9_wish_56 : decode cX9_wish 56 = .ok (.getfield 119, 3) := by decide +kernel
theorem dX9_wish_59 : decode cX9_wish 59 = .ok (.if_icmp .ge 147, 3) := by decide +kernel
theorem dX9_wish_62 : decode cX9_wish 62 = .ok (.iload_n 3, 1) := by decide +kernel
theorem dX9_wish_63 : decode cX9_wish 63 = .ok (.iconst 1, 1) := by decide +kernel
theorem dX9_wish_64 : decode cX9_wish 64 = .ok (.isub, 1) := by decide +kernel
theorem dX9_wish_65 : decode cX9_wish 65 = .ok (.istore 4, 2) := by decide +kernel
theorem dX9_wish_67 : decode cX9_wish 67 = .ok (.iload 4, 2) := by decide +kernel
theorem dX9_wish_69 : decode cX9_wish 69 = .ok (.bipush 6, 2) := by decide +kernel
theorem dX9_wish_71 : decode cX9_wish 71 = .ok (.if_icmp .ge 129, 3) := by decide +kernel
theorem dX9_wish_74 : decode cX9_wish 74 = .ok (.iload 4, 2) := by decide +kernel
theorem dX9_wish_76 : decode cX9_wish 76 = .ok (.aload_n 0, 1) := by decide +kernel
theorem dX9_wish_77 : decode cX9_wish 77 = .ok (.getfield 119, 3) := by decide +kernel
theorem dX9_wish_80 : decode cX9_wish 80 = .ok (.if_icmp .ge 120, 3) := by decide +kernel
theorem dX9_wish_83 : decode cX9_wish 83 = .ok (.aload_n 0, 1) := by decide +kernel
theorem dX9_wish_84 : decode cX9_wish 84 = .ok (.iconst 0, 1) := by decide +kernel
theorem dX9_wish_85 : decode cX9_wish 85 = .ok (.invokevirtual 213, 3) := by decide +kernel
theorem dX9_wish_88 : decode cX9_wish 88 = .ok (.aload_n 0, 1) := by decide +kernel
theorem dX9_wish_89 : decode cX9_wish 89 = .ok (.getfield 23, 3) := by decide +kernel
theorem dX9_wish_92 : decode cX9_wish 92 = .ok (.iconst 3, 1) := by decide +kernel
theorem dX9_wish_93 : decode cX9_wish 93 = .ok (.iload_n 3, 1) := by decide +kernel
theorem dX9_wish_94 : decode cX9_wish 94 = .ok (.iastore, 1) := by decide +kernel
theorem dX9_wish_95 : decode cX9_wish 95 = .ok (.aload_n 0, 1) := by decide +kernel
theorem dX9_wish_96 : decode cX9_wish 96 = .ok (.getfield 23, 3) := by decide +kernel
theorem dX9_wish_99 : decode cX9_wish 99 = .ok (.iconst 4, 1) := by decide +kernel
theorem dX9_wish_100 : decode cX9_wish 100 = .ok (.iload 4, 2) := by decide +kernel
theorem dX9_wish_102 : decode cX9_wish 102 = .ok (.iload_n 3, 1) := by decide +kernel
theorem dX9_wish_103 : decode cX9_wish 103 = .ok (.if_icmp .ge 7, 3) := by decide +kernel
theorem dX9_wish_106 : decode cX9_wish 106 = .ok (.iconst (-1), 1) := by decide +kernel
theorem dX9_wish_107 : decode cX9_wish 107 = .ok (.goto 5, 3) := by decide +kernel
theorem dX9_wish_110 : decode cX9_wish 110 = .ok (.iload 4, 2) := by decide +kernel
theorem dX9_wish_112 : decode cX9_wish 112 = .ok (.iastore, 1) := by decide +kernel
theorem dX9_wish_113 : decode cX9_wish 113 = .ok (.aload_n 0, 1) := by decide +kernel
theorem dX9_wish_114 : decode cX9_wish 114 = .ok (.getfield 23, 3) := by decide +kernel
theorem dX9_wish_117 : decode cX9_wish 117 = .ok (.iconst 5, 1) := by decide +kernel
theorem dX9_wish_118 : decode cX9_wish 118 = .ok (.iconst (-1), 1) := by decide +kernel
theorem dX9_wish_119 : decode cX9_wish 119 = .ok (.iastore, 1) := by decide +kernel
theorem dX9_wish_120 : decode cX9_wish 120 = .ok (.aload_n 0, 1) := by decide +kernel
theorem dX9_wish_121 : decode cX9_wish 121 = .ok (.invokevirtual 216, 3) := by decide +kernel
theorem dX9_wish_124 : decode cX9_wish 124 = .ok (.ifCond .eq 8, 3) := by decide +kernel
theorem dX9_wish_127 : decode cX9_wish 127 = .ok (.bipush (-5), 2) := by decide +kernel
theorem dX9_wish_129 : decode cX9_wish 129 = .ok (.goto 7, 3) := by decide +kernel
theorem dX9_wish_132 : decode cX9_wish 132 = .ok (.aload_n 0, 1) := by decide +kernel
theorem dX9_wish_133 : decode cX9_wish 133 = .ok (.invokevirtual 228, 3) := by decide +kernel
theorem dX9_wish_136 : decode cX9_wish 136 = .ok (.istore 5, 2) := by decide +kernel
theorem dX9_wish_138 : decode cX9_wish 138 = .ok (.iload 5, 2) := by decide +kernel
theorem dX9_wish_140 : decode cX9_wish 140 = .ok (.i2l, 1) := by decide +kernel
theorem dX9_wish_141 : decode cX9_wish 141 = .ok (.iload_n 1, 1) := by decide +kernel
theorem dX9_wish_142 : decode cX9_wish 142 = .ok (.i2l, 1) := by decide +kernel
theorem dX9_wish_143 : decode cX9_wish 143 = .ok (.iload_n 2, 1) := by decide +kernel
theorem dX9_wish_144 : decode cX9_wish 144 = .ok (.i2l, 1) := by decide +kernel
theorem dX9_wish_145 : decode cX9_wish 145 = .ok (.invokestatic 107, 3) := by decide +kernel
theorem dX9_wish_148 : decode cX9_wish 148 = .ok (.ifCond .eq 46, 3) := by decide +kernel
theorem dX9_wish_151 : decode cX9_wish 151 = .ok (.aload_n 0, 1) := by decide +kernel
theorem dX9_wish_152 : decode cX9_wish 152 = .ok (.getfield 79, 3) := by decide +kernel
theorem dX9_wish_155 : decode cX9_wish 155 = .ok (.aload_n 0, 1) := by decide +kernel
theorem dX9_wish_156 : decode cX9_wish 156 = .ok (.getfield 250, 3) := by decide +kernel
theorem dX9_wish_159 : decode cX9_wish 159 = .ok (.iload 4, 2) := by decide +kernel
theorem dX9_wish_161 : decode cX9_wish 161 = .ok (.iload_n 3, 1) := by decide +kernel
theorem dX9_wish_162 : decode cX9_wish 162 = .ok (.if_icmp .ge 14, 3) := by decide +kernel
theorem dX9_wish_165 : decode cX9_wish 165 = .ok (.sipush 256, 3) := by decide +kernel
theorem dX9_wish_168 : decode cX9_wish 168 = .ok (.bipush 16, 2) := by decide +kernel
theorem dX9_wish_170 : decode cX9_wish 170 = .ok (.iload_n 3, 1) := by decide +kernel
theorem dX9_wish_171 : decode cX9_wish 171 = .ok (.imul, 1) := by decide +kernel
theorem dX9_wish_172 : decode cX9_wish 172 = .ok (.iadd, 1) := by decide +kernel
theorem dX9_wish_173 : decode cX9_wish 173 = .ok (.goto 10, 3) := by decide +kernel
theorem dX9_wish_176 : decode cX9_wish 176 = .ok (.bipush 16, 2) := by decide +kernel
theorem dX9_wish_178 : decode cX9_wish 178 = .ok (.iload_n 3, 1) := by decide +kernel
theorem dX9_wish_179 : decode cX9_wish 179 = .ok (.imul, 1) := by decide +kernel
theorem dX9_wish_180 : decode cX9_wish 180 = .ok (.iload 4, 2) := by decide +kernel
theorem dX9_wish_182 : decode cX9_wish 182 = .ok (.iadd, 1) := by decide +kernel
theorem dX9_wish_183 : decode cX9_wish 183 = .ok (.iastore, 1) := by decide +kernel
theorem dX9_wish_184 : decode cX9_wish 184 = .ok (.aload_n 0, 1) := by decide +kernel
theorem dX9_wish_185 : decode cX9_wish 185 = .ok (.dup, 1) := by decide +kernel
theorem dX9_wish_186 : decode cX9_wish 186 = .ok (.getfield 250, 3) := by decide +kernel
theorem dX9_wish_189 : decode cX9_wish 189 = .ok (.iconst 1, 1) := by decide +kernel
theorem dX9_wish_190 : decode cX9_wish 190 = .ok (.iadd, 1) := by decide +kernel
theorem dX9_wish_191 : decode cX9_wish 191 = .ok (.putfield 250, 3) := by decide +kernel
theorem dX9_wish_194 : decode cX9_wish 194 = .ok (.iinc 4 1, 3) := by decide +kernel
theorem dX9_wish_197 : decode cX9_wish 197 = .ok (.goto (-130), 3) := by decide +kernel
theorem dX9_wish_200 : decode cX9_wish 200 = .ok (.iinc 3 1, 3) := by decide +kernel
theorem dX9_wish_203 : decode cX9_wish 203 = .ok (.goto (-155), 3) := by decide +kernel
theorem dX9_wish_206 : decode cX9_wish 206 = .ok (.aload_n 0, 1) := by decide +kernel
theorem dX9_wish_207 : decode cX9_wish 207 = .ok (.getfield 250, 3) := by decide +kernel
theorem dX9_wish_210 : decode cX9_wish 210 = .ok (.ireturn, 1) := by decide +kernel
theorem dX9_band_0 : decode cX9_band 0 = .ok (.iload_n 1, 1) := by decide +kernel
theorem dX9_band_1 : decode cX9_band 1 = .ok (.i2l, 1) := by decide +kernel
theorem dX9_band_2 : decode cX9_band 2 = .ok (.lconst 0, 1) := by decide +kernel
theorem dX9_band_3 : decode cX9_band 3 = .ok (.aload_n 0, 1) := by decide +kernel
theorem dX9_band_4 : decode cX9_band 4 = .ok (.getfield 250, 3) := by decide +kernel
theorem dX9_band_7 : decode cX9_band 7 = .ok (.iconst 1, 1) := by decide +kernel
theorem dX9_band_8 : decode cX9_band 8 = .ok (.isub, 1) := by decide +kernel
theorem dX9_band_9 : decode cX9_band 9 = .ok (.i2l, 1) := by decide +kernel
theorem dX9_band_10 : decode cX9_band 10 = .ok (.invokestatic 107, 3) := by decide +kernel
theorem dX9_band_13 : decode cX9_band 13 = .ok (.ifCond .eq 12, 3) := by decide +kernel
theorem dX9_band_16 : decode cX9_band 16 = .ok (.aload_n 0, 1) := by decide +kernel
theorem dX9_band_17 : decode cX9_band 17 = .ok (.getfield 79, 3) := by decide +kernel
theorem dX9_band_20 : decode cX9_band 20 = .ok (.iload_n 1, 1) := by decide +kernel
theorem dX9_band_21 : decode cX9_band 21 = .ok (.iaload, 1) := by decide +kernel
theorem dX9_band_22 : decode cX9_band 22 = .ok (.goto 5, 3) := by decide +kernel
theorem dX9_band_25 : decode cX9_band 25 = .ok (.bipush (-2), 2) := by decide +kernel
theorem dX9_band_27 : decode cX9_band 27 = .ok (.ireturn, 1) := by decide +kernel
theorem dX9_play_0 : decode cX9_play 0 = .ok (.iload_n 1, 1) := by decide +kernel
theorem dX9_play_1 : decode cX9_play 1 = .ok (.invokestatic 253, 3) := by decide +kernel
theorem dX9_play_4 : decode cX9_play 4 = .ok (.ifCond .ne 6, 3) := by decide +kernel
theorem dX9_play_7 : decode cX9_play 7 = .ok (.bipush (-2), 2) := by decide +kernel
theorem dX9_play_9 : decode cX9_play 9 = .ok (.ireturn, 1) := by decide +kernel
theorem dX9_play_10 : decode cX9_play 10 = .ok (.aload_n 0, 1) := by decide +kernel
theorem dX9_play_11 : decode cX9_play 11 = .ok (.getfield 91, 3) := by decide +kernel
theorem dX9_play_14 : decode cX9_play 14 = .ok (.iload_n 1, 1) := by decide +kernel
theorem dX9_play_15 : decode cX9_play 15 = .ok (.iaload, 1) := by decide +kernel
theorem dX9_play_16 : decode cX9_play 16 = .ok (.ifCond .ge 9, 3) := by decide +kernel
theorem dX9_play_19 : decode cX9_play 19 = .ok (.aload_n 0, 1) := by decide +kernel
theorem dX9_play_20 : decode cX9_play 20 = .ok (.iconst 1, 1) := by decide +kernel
theorem dX9_play_21 : decode cX9_play 21 = .ok (.invokevirtual 256, 3) := by decide +kernel
theorem dX9_play_24 : decode cX9_play 24 = .ok (.ireturn, 1) := by decide +kernel
theorem dX9_play_25 : decode cX9_play 25 = .ok (.aload_n 0, 1) := by decide +kernel
theorem dX9_play_26 : decode cX9_play 26 = .ok (.iconst 0, 1) := by decide +kernel
theorem dX9_play_27 : decode cX9_play 27 = .ok (.invokevirtual 213, 3) := by decide +kernel
theorem dX9_play_30 : decode cX9_play 30 = .ok (.aload_n 0, 1) := by decide +kernel
theorem dX9_play_31 : decode cX9_play 31 = .ok (.invokevirtual 184, 3) := by decide +kernel
theorem dX9_play_34 : decode cX9_play 34 = .ok (.iconst 0, 1) := by decide +kernel
theorem dX9_play_35 : decode cX9_play 35 = .ok (.istore_n 2, 1) := by decide +kernel
theorem dX9_play_36 : decode cX9_play 36 = .ok (.aload_n 0, 1) := by decide +kernel
theorem dX9_play_37 : decode cX9_play 37 = .ok (.invokevirtual 172, 3) := by decide +kernel
theorem dX9_play_40 : decode cX9_play 40 = .ok (.istore_n 3, 1) := by decide +kernel
theorem dX9_play_41 : decode cX9_play 41 = .ok (.iload_n 3, 1) := by decide +kernel
theorem dX9_play_42 : decode cX9_play 42 = .ok (.iconst 2, 1) := by decide +kernel
theorem dX9_play_43 : decode cX9_play 43 = .ok (.if_icmp .ge 7, 3) := by decide +kernel
theorem dX9_play_46 : decode cX9_play 46 = .ok (.iconst 0, 1) := by decide +kernel
theorem dX9_play_47 : decode cX9_play 47 = .ok (.goto 7, 3) := by decide +kernel
theorem dX9_play_50 : decode cX9_play 50 = .ok (.aload_n 0, 1) := by decide +kernel
theorem dX9_play_51 : decode cX9_play 51 = .ok (.getfield 16, 3) := by decide +kernel
theorem dX9_play_54 : decode cX9_play 54 = .ok (.istore 4, 2) := by decide +kernel
theorem dX9_play_56 : decode cX9_play 56 = .ok (.aload_n 0, 1) := by decide +kernel
theorem dX9_play_57 : decode cX9_play 57 = .ok (.invokevirtual 190, 3) := by decide +kernel
theorem dX9_play_60 : decode cX9_play 60 = .ok (.istore 5, 2) := by decide +kernel
theorem dX9_play_62 : decode cX9_play 62 = .ok (.iconst 0, 1) := by decide +kernel
theorem dX9_play_63 : decode cX9_play 63 = .ok (.istore 6, 2) := by decide +kernel
theorem dX9_play_65 : decode cX9_play 65 = .ok (.iload 6, 2) := by decide +kernel
theorem dX9_play_67 : decode cX9_play 67 = .ok (.iload 5, 2) := by decide +kernel
theorem dX9_play_69 : decode cX9_play 69 = .ok (.if_icmp .ge 158, 3) := by decide +kernel
theorem dX9_play_72 : decode cX9_play 72 = .ok (.iload_n 3, 1) := by decide +kernel
theorem dX9_play_73 : decode cX9_play 73 = .ok (.iconst 2, 1) := by decide +kernel
theorem dX9_play_74 : decode cX9_play 74 = .ok (.if_icmp .ne 153, 3) := by decide +kernel
theorem dX9_play_77 : decode cX9_play 77 = .ok (.aload_n 0, 1) := by decide +kernel
theorem dX9_play_78 : decode cX9_play 78 = .ok (.getfield 29, 3) := by decide +kernel
theorem dX9_play_81 : decode cX9_play 81 = .ok (.iload 6, 2) := by decide +kernel
theorem dX9_play_83 : decode cX9_play 83 = .ok (.aload_n 0, 1) := by decide +kernel
theorem dX9_play_84 : decode cX9_play 84 = .ok (.getfield 148, 3) := by decide +kernel
theorem dX9_play_87 : decode cX9_play 87 = .ok (.irem, 1) := by decide +kernel
theorem dX9_play_88 : decode cX9_play 88 = .ok (.iaload, 1) := by decide +kernel
theorem dX9_play_89 : decode cX9_play 89 = .ok (.istore 7, 2) := by decide +kernel
theorem dX9_play_91 : decode cX9_play 91 = .ok (.aload_n 0, 1) := by decide +kernel
theorem dX9_play_92 : decode cX9_play 92 = .ok (.iload 7, 2) := by decide +kernel
theorem dX9_play_94 : decode cX9_play 94 = .ok (.iload 6, 2) := by decide +kernel
theorem dX9_play_96 : decode cX9_play 96 = .ok (.aload_n 0, 1) := by decide +kernel
theorem dX9_play_97 : decode cX9_play 97 = .ok (.getfield 148, 3) := by decide +kernel
theorem dX9_play_100 : decode cX9_play 100 = .ok (.idiv, 1) := by decide +kernel
theorem dX9_play_101 : decode cX9_play 101 = .ok (.invokevirtual 199, 3) := by decide +kernel
theorem dX9_play_104 : decode cX9_play 104 = .ok (.ifCond .eq 117, 3) := by decide +kernel
theorem dX9_play_107 : decode cX9_play 107 = .ok (.aload_n 0, 1) := by decide +kernel
theorem dX9_play_108 : decode cX9_play 108 = .ok (.iload 7, 2) := by decide +kernel
theorem dX9_play_110 : decode cX9_play 110 = .ok (.invokevirtual 202, 3) := by decide +kernel
theorem dX9_play_113 : decode cX9_play 113 = .ok (.ifCond .eq 14, 3) := by decide +kernel
theorem dX9_play_116 : decode cX9_play 116 = .ok (.aload_n 0, 1) := by decide +kernel
theorem dX9_play_117 : decode cX9_play 117 = .ok (.getfield 35, 3) := by decide +kernel
theorem dX9_play_120 : decode cX9_play 120 = .ok (.iload 7, 2) := by decide +kernel
theorem dX9_play_122 : decode cX9_play 122 = .ok (.iconst 0, 1) := by decide +kernel
theorem dX9_play_123 : decode cX9_play 123 = .ok (.bastore, 1) := by decide +kernel
theorem dX9_play_124 : decode cX9_play 124 = .ok (.goto 69, 3) := by decide +kernel
theorem dX9_play_127 : decode cX9_play 127 = .ok (.iload_n 2, 1) := by decide +kernel
theorem dX9_play_128 : decode cX9_play 128 = .ok (.aload_n 0, 1) := by decide +kernel
theorem dX9_play_129 : decode cX9_play 129 = .ok (.getfield 94, 3) := by decide +kernel
theorem dX9_play_132 : decode cX9_play 132 = .ok (.iload_n 1, 1) := by decide +kernel
theorem dX9_play_133 : decode cX9_play 133 = .ok (.iaload, 1) := by decide +kernel
theorem dX9_play_134 : decode cX9_play 134 = .ok (.if_icmp .ne 9, 3) := by decide +kernel
theorem dX9_play_137 : decode cX9_play 137 = .ok (.aload_n 0, 1) := by decide +kernel
theorem dX9_play_138 : decode cX9_play 138 = .ok (.iconst 2, 1) := by decide +kernel
theorem dX9_play_139 : decode cX9_play 139 = .ok (.invokevirtual 256, 3) := by decide +kernel
theorem dX9_play_142 : decode cX9_play 142 = .ok (.ireturn, 1) := by decide +kernel
theorem dX9_play_143 : decode cX9_play 143 = .ok (.aload_n 0, 1) := by decide +kernel
theorem dX9_play_144 : decode cX9_play 144 = .ok (.getfield 97, 3) := by decide +kernel
theorem dX9_play_147 : decode cX9_play 147 = .ok (.bipush 60, 2) := by decide +kernel
theorem dX9_play_149 : decode cX9_play 149 = .ok (.iload_n 1, 1) := by decide +kernel
theorem dX9_play_150 : decode cX9_play 150 = .ok (.imul, 1) := by decide +kernel
theorem dX9_play_151 : decode cX9_play 151 = .ok (.iload_n 2, 1) := by decide +kernel
theorem dX9_play_152 : decode cX9_play 152 = .ok (.iadd, 1) := by decide +kernel
theorem dX9_play_153 : decode cX9_play 153 = .ok (.iaload, 1) := by decide +kernel
theorem dX9_play_154 : decode cX9_play 154 = .ok (.istore 8, 2) := by decide +kernel
theorem dX9_play_156 : decode cX9_play 156 = .ok (.iinc 2 1, 3) := by decide +kernel
theorem dX9_play_159 : decode cX9_play 159 = .ok (.iload 8, 2) := by decide +kernel
theorem dX9_play_161 : decode cX9_play 161 = .ok (.i2l, 1) := by decide +kernel
theorem dX9_play_162 : decode cX9_play 162 = .ok (.lconst 1, 1) := by decide +kernel
theorem dX9_play_163 : decode cX9_play 163 = .ok (.aload_n 0, 1) := by decide +kernel
theorem dX9_play_164 : decode cX9_play 164 = .ok (.getfield 7, 3) := by decide +kernel
theorem dX9_play_167 : decode cX9_play 167 = .ok (.bipush 6, 2) := by decide +kernel
theorem dX9_play_169 : decode cX9_play 169 = .ok (.aload_n 0, 1) := by decide +kernel
theorem dX9_play_170 : decode cX9_play 170 = .ok (.getfield 23, 3) := by decide +kernel
theorem dX9_play_173 : decode cX9_play 173 = .ok (.iload 7, 2) := by decide +kernel
theorem dX9_play_175 : decode cX9_play 175 = .ok (.iaload, 1) := by decide +kernel
theorem dX9_play_176 : decode cX9_play 176 = .ok (.imul, 1) := by decide +kernel
theorem dX9_play_177 : decode cX9_play 177 = .ok (.iconst 2, 1) := by decide +kernel
theorem dX9_play_178 : decode cX9_play 178 = .ok (.iadd, 1) := by decide +kernel
theorem dX9_play_179 : decode cX9_play 179 = .ok (.iaload, 1) := by decide +kernel
theorem dX9_play_180 : decode cX9_play 180 = .ok (.i2l, 1) := by decide +kernel
theorem dX9_play_181 : decode cX9_play 181 = .ok (.invokestatic 107, 3) := by decide +kernel
theorem dX9_play_184 : decode cX9_play 184 = .ok (.ifCond .eq 9, 3) := by decide +kernel
theorem dX9_play_187 : decode cX9_play 187 = .ok (.aload_n 0, 1) := by decide +kernel
theorem dX9_play_188 : decode cX9_play 188 = .ok (.iload 7, 2) := by decide +kernel
theorem dX9_play_190 : decode cX9_play 190 = .ok (.invokevirtual 209, 3) := by decide +kernel
theorem dX9_play_193 : decode cX9_play 193 = .ok (.aload_n 0, 1) := by decide +kernel
theorem dX9_play_194 : decode cX9_play 194 = .ok (.invokevirtual 172, 3) := by decide +kernel
theorem dX9_play_197 : decode cX9_play 197 = .ok (.istore_n 3, 1) := by decide +kernel
theorem dX9_play_198 : decode cX9_play 198 = .ok (.iload_n 3, 1) := by decide +kernel
theorem dX9_play_199 : decode cX9_play 199 = .ok (.iconst 2, 1) := by decide +kernel
theorem dX9_play_200 : decode cX9_play 200 = .ok (.if_icmp .ge 15, 3) := by decide +kernel
theorem dX9_play_203 : decode cX9_play 203 = .ok (.iload 6, 2) := by decide +kernel
theorem dX9_play_205 : decode cX9_play 205 = .ok (.aload_n 0, 1) := by decide +kernel
theorem dX9_play_206 : decode cX9_play 206 = .ok (.getfield 148, 3) := by decide +kernel
theorem dX9_play_209 : decode cX9_play 209 = .ok (.idiv, 1) := by decide +kernel
theorem dX9_play_210 : decode cX9_play 210 = .ok (.iconst 1, 1) := by decide +kernel
theorem dX9_play_211 : decode cX9_play 211 = .ok (.iadd, 1) := by decide +kernel
theorem dX9_play_212 : decode cX9_play 212 = .ok (.goto 7, 3) := by decide +kernel
theorem dX9_play_215 : decode cX9_play 215 = .ok (.aload_n 0, 1) := by decide +kernel
theorem dX9_play_216 : decode cX9_play 216 = .ok (.getfield 16, 3) := by decide +kernel
theorem dX9_play_219 : decode cX9_play 219 = .ok (.istore 4, 2) := by decide +kernel
theorem dX9_play_221 : decode cX9_play 221 = .ok (.iinc 6 1, 3) := by decide +kernel
theorem dX9_play_224 : decode cX9_play 224 = .ok (.goto (-159), 3) := by decide +kernel
theorem dX9_play_227 : decode cX9_play 227 = .ok (.aload_n 0, 1) := by decide +kernel
theorem dX9_play_228 : decode cX9_play 228 = .ok (.getfield 82, 3) := by decide +kernel
theorem dX9_play_231 : decode cX9_play 231 = .ok (.iconst 0, 1) := by decide +kernel
theorem dX9_play_232 : decode cX9_play 232 = .ok (.iload_n 3, 1) := by decide +kernel
theorem dX9_play_233 : decode cX9_play 233 = .ok (.iastore, 1) := by decide +kernel
theorem dX9_play_234 : decode cX9_play 234 = .ok (.aload_n 0, 1) := by decide +kernel
theorem dX9_play_235 : decode cX9_play 235 = .ok (.getfield 82, 3) := by decide +kernel
theorem dX9_play_238 : decode cX9_play 238 = .ok (.iconst 1, 1) := by decide +kernel
theorem dX9_play_239 : decode cX9_play 239 = .ok (.iload_n 2, 1) := by decide +kernel
theorem dX9_play_240 : decode cX9_play 240 = .ok (.iastore, 1) := by decide +kernel
theorem dX9_play_241 : decode cX9_play 241 = .ok (.aload_n 0, 1) := by decide +kernel
theorem dX9_play_242 : decode cX9_play 242 = .ok (.getfield 82, 3) := by decide +kernel
theorem dX9_play_245 : decode cX9_play 245 = .ok (.iconst 2, 1) := by decide +kernel
theorem dX9_play_246 : decode cX9_play 246 = .ok (.iload 4, 2) := by decide +kernel
theorem dX9_play_248 : decode cX9_play 248 = .ok (.iastore, 1) := by decide +kernel
theorem dX9_play_249 : decode cX9_play 249 = .ok (.iconst 0, 1) := by decide +kernel
theorem dX9_play_250 : decode cX9_play 250 = .ok (.istore 6, 2) := by decide +kernel
theorem dX9_play_252 : decode cX9_play 252 = .ok (.iload 6, 2) := by decide +kernel
theorem dX9_play_254 : decode cX9_play 254 = .ok (.bipush 6, 2) := by decide +kernel
theorem dX9_play_256 : decode cX9_play 256 = .ok (.if_icmp .ge 37, 3) := by decide +kernel
theorem dX9_play_259 : decode cX9_play 259 = .ok (.aload_n 0, 1) := by decide +kernel
theorem dX9_play_260 : decode cX9_play 260 = .ok (.getfield 85, 3) := by decide +kernel
theorem dX9_play_263 : decode cX9_play 263 = .ok (.iload 6, 2) := by decide +kernel
theorem dX9_play_265 : decode cX9_play 265 = .ok (.aload_n 0, 1) := by decide +kernel
theorem dX9_play_266 : decode cX9_play 266 = .ok (.getfield 23, 3) := by decide +kernel
theorem dX9_play_269 : decode cX9_play 269 = .ok (.iload 6, 2) := by decide +kernel
theorem dX9_play_271 : decode cX9_play 271 = .ok (.iaload, 1) := by decide +kernel
theorem dX9_play_272 : decode cX9_play 272 = .ok (.iastore, 1) := by decide +kernel
theorem dX9_play_273 : decode cX9_play 273 = .ok (.aload_n 0, 1) := by decide +kernel
theorem dX9_play_274 : decode cX9_play 274 = .ok (.getfield 88, 3) := by decide +kernel
theorem dX9_play_277 : decode cX9_play 277 = .ok (.iload 6, 2) := by decide +kernel
theorem dX9_play_279 : decode cX9_play 279 = .ok (.aload_n 0, 1) := by decide +kernel
theorem dX9_play_280 : decode cX9_play 280 = .ok (.getfield 32, 3) := by decide +kernel
theorem dX9_play_283 : decode cX9_play 283 = .ok (.iload 6, 2) := by decide +kernel
theorem dX9_play_285 : decode cX9_play 285 = .ok (.iaload, 1) := by decide +kernel
theorem dX9_play_286 : decode cX9_play 286 = .ok (.iastore, 1) := by decide +kernel
theorem dX9_play_287 : decode cX9_play 287 = .ok (.iinc 6 1, 3) := by decide +kernel
theorem dX9_play_290 : decode cX9_play 290 = .ok (.goto (-38), 3) := by decide +kernel
theorem dX9_play_293 : decode cX9_play 293 = .ok (.iload_n 3, 1) := by decide +kernel
theorem dX9_play_294 : decode cX9_play 294 = .ok (.ireturn, 1) := by decide +kernel
theorem dX9_played_0 : decode cX9_played 0 = .ok (.iload_n 1, 1) := by decide +kernel
theorem dX9_played_1 : decode cX9_played 1 = .ok (.i2l, 1) := by decide +kernel
theorem dX9_played_2 : decode cX9_played 2 = .ok (.lconst 0, 1) := by decide +kernel
theorem dX9_played_3 : decode cX9_played 3 = .ok (.ldc2_w 105, 3) := by decide +kernel
theorem dX9_played_6 : decode cX9_played 6 = .ok (.invokestatic 107, 3) := by decide +kernel
theorem dX9_played_9 : decode cX9_played 9 = .ok (.ifCond .eq 10, 3) := by decide +kernel
theorem dX9_played_12 : decode cX9_played 12 = .ok (.aload_n 0, 1) := by decide +kernel
theorem dX9_played_13 : decode cX9_played 13 = .ok (.getfield 82, 3) := by decide +kernel
theorem dX9_played_16 : decode cX9_played 16 = .ok (.iload_n 1, 1) := by decide +kernel
theorem dX9_played_17 : decode cX9_played 17 = .ok (.iaload, 1) := by decide +kernel
theorem dX9_played_18 : decode cX9_played 18 = .ok (.ireturn, 1) := by decide +kernel
theorem dX9_played_19 : decode cX9_played 19 = .ok (.iload_n 1, 1) := by decide +kernel
theorem dX9_played_20 : decode cX9_played 20 = .ok (.i2l, 1) := by decide +kernel
theorem dX9_played_21 : decode cX9_played 21 = .ok (.ldc2_w 219, 3) := by decide +kernel
theorem dX9_played_24 : decode cX9_played 24 = .ok (.ldc2_w 260, 3) := by decide +kernel
theorem dX9_played_27 : decode cX9_played 27 = .ok (.invokestatic 107, 3) := by decide +kernel
theorem dX9_played_30 : decode cX9_played 30 = .ok (.ifCond .eq 28, 3) := by decide +kernel
theorem dX9_played_33 : decode cX9_played 33 = .ok (.aload_n 0, 1) := by decide +kernel
theorem dX9_played_34 : decode cX9_played 34 = .ok (.getfield 85, 3) := by decide +kernel
theorem dX9_played_37 : decode cX9_played 37 = .ok (.iload_n 1, 1) := by decide +kernel
theorem dX9_played_38 : decode cX9_played 38 = .ok (.bipush 10, 2) := by decide +kernel
theorem dX9_played_40 : decode cX9_played 40 = .ok (.isub, 1) := by decide +kernel
theorem dX9_played_41 : decode cX9_played 41 = .ok (.iaload, 1) := by decide +kernel
theorem dX9_played_42 : decode cX9_played 42 = .ok (.iconst (-1), 1) := by decide +kernel
theorem dX9_played_43 : decode cX9_played 43 = .ok (.if_icmp .eq 15, 3) := by decide +kernel
theorem dX9_played_46 : decode cX9_played 46 = .ok (.aload_n 0, 1) := by decide +kernel
theorem dX9_played_47 : decode cX9_played 47 = .ok (.getfield 88, 3) := by decide +kernel
theorem dX9_played_50 : decode cX9_played 50 = .ok (.iload_n 1, 1) := by decide +kernel
theorem dX9_played_51 : decode cX9_played 51 = .ok (.bipush 10, 2) := by decide +kernel
theorem dX9_played_53 : decode cX9_played 53 = .ok (.isub, 1) := by decide +kernel
theorem dX9_played_54 : decode cX9_played 54 = .ok (.iaload, 1) := by decide +kernel
theorem dX9_played_55 : decode cX9_played 55 = .ok (.goto 5, 3) := by decide +kernel
theorem dX9_played_58 : decode cX9_played 58 = .ok (.bipush (-2), 2) := by decide +kernel
theorem dX9_played_60 : decode cX9_played 60 = .ok (.ireturn, 1) := by decide +kernel
theorem dX9_met_0 : decode cX9_met 0 = .ok (.aload_n 0, 1) := by decide +kernel
theorem dX9_met_1 : decode cX9_met 1 = .ok (.iload_n 1, 1) := by decide +kernel
theorem dX9_met_2 : decode cX9_met 2 = .ok (.putfield 262, 3) := by decide +kernel
theorem dX9_met_5 : decode cX9_met 5 = .ok (.bipush (-10), 2) := by decide +kernel
theorem dX9_met_7 : decode cX9_met 7 = .ok (.iload_n 1, 1) := by decide +kernel
theorem dX9_met_8 : decode cX9_met 8 = .ok (.isub, 1) := by decide +kernel
theorem dX9_met_9 : decode cX9_met 9 = .ok (.ireturn, 1) := by decide +kernel
theorem dX9_isSheet_0 : decode cX9_isSheet 0 = .ok (.iload_n 0, 1) := by decide +kernel
theorem dX9_isSheet_1 : decode cX9_isSheet 1 = .ok (.i2l, 1) := by decide +kernel
theorem dX9_isSheet_2 : decode cX9_isSheet 2 = .ok (.lconst 0, 1) := by decide +kernel
theorem dX9_isSheet_3 : decode cX9_isSheet 3 = .ok (.ldc2_w 265, 3) := by decide +kernel
theorem dX9_isSheet_6 : decode cX9_isSheet 6 = .ok (.invokestatic 107, 3) := by decide +kernel
theorem dX9_isSheet_9 : decode cX9_isSheet 9 = .ok (.ireturn, 1) := by decide +kernel
theorem dX9_sheet_0 : decode cX9_sheet 0 = .ok (.iload_n 1, 1) := by decide +kernel
theorem dX9_sheet_1 : decode cX9_sheet 1 = .ok (.invokestatic 253, 3) := by decide +kernel
theorem dX9_sheet_4 : decode cX9_sheet 4 = .ok (.ifCond .eq 21, 3) := by decide +kernel
theorem dX9_sheet_7 : decode cX9_sheet 7 = .ok (.iload_n 2, 1) := by decide +kernel
theorem dX9_sheet_8 : decode cX9_sheet 8 = .ok (.i2l, 1) := by decide +kernel
theorem dX9_sheet_9 : decode cX9_sheet 9 = .ok (.lconst 0, 1) := by decide +kernel
theorem dX9_sheet_10 : decode cX9_sheet 10 = .ok (.ldc2_w 105, 3) := by decide +kernel
theorem dX9_sheet_13 : decode cX9_sheet 13 = .ok (.invokestatic 107, 3) := by decide +kernel
theorem dX9_sheet_16 : decode cX9_sheet 16 = .ok (.ifCond .eq 9, 3) := by decide +kernel
theorem dX9_sheet_19 : decode cX9_sheet 19 = .ok (.iload_n 3, 1) := by decide +kernel
theorem dX9_sheet_20 : decode cX9_sheet 20 = .ok (.bipush 60, 2) := by decide +kernel
theorem dX9_sheet_22 : decode cX9_sheet 22 = .ok (.if_icmp .le 6, 3) := by decide +kernel
theorem dX9_sheet_25 : decode cX9_sheet 25 = .ok (.bipush (-2), 2) := by decide +kernel
theorem dX9_sheet_27 : decode cX9_sheet 27 = .ok (.ireturn, 1) := by decide +kernel
theorem dX9_sheet_28 : decode cX9_sheet 28 = .ok (.iload_n 3, 1) := by decide +kernel
theorem dX9_sheet_29 : decode cX9_sheet 29 = .ok (.ifCond .ge 9, 3) := by decide +kernel
theorem dX9_sheet_32 : decode cX9_sheet 32 = .ok (.aload_n 0, 1) := by decide +kernel
theorem dX9_sheet_33 : decode cX9_sheet 33 = .ok (.iconst 5, 1) := by decide +kernel
theorem dX9_sheet_34 : decode cX9_sheet 34 = .ok (.invokevirtual 256, 3) := by decide +kernel
theorem dX9_sheet_37 : decode cX9_sheet 37 = .ok (.ireturn, 1) := by decide +kernel
theorem dX9_sheet_38 : decode cX9_sheet 38 = .ok (.aload_n 0, 1) := by decide +kernel
theorem dX9_sheet_39 : decode cX9_sheet 39 = .ok (.getfield 91, 3) := by decide +kernel
theorem dX9_sheet_42 : decode cX9_sheet 42 = .ok (.iload_n 1, 1) := by decide +kernel
theorem dX9_sheet_43 : decode cX9_sheet 43 = .ok (.iload_n 2, 1) := by decide +kernel
theorem dX9_sheet_44 : decode cX9_sheet 44 = .ok (.iastore, 1) := by decide +kernel
theorem dX9_sheet_45 : decode cX9_sheet 45 = .ok (.aload_n 0, 1) := by decide +kernel
theorem dX9_sheet_46 : decode cX9_sheet 46 = .ok (.getfield 94, 3) := by decide +kernel
theorem dX9_sheet_49 : decode cX9_sheet 49 = .ok (.iload_n 1, 1) := by decide +kernel
theorem dX9_sheet_50 : decode cX9_sheet 50 = .ok (.iload_n 3, 1) := by decide +kernel
theorem dX9_sheet_51 : decode cX9_sheet 51 = .ok (.iastore, 1) := by decide +kernel
theorem dX9_sheet_52 : decode cX9_sheet 52 = .ok (.iconst 0, 1) := by decide +kernel
theorem dX9_sheet_53 : decode cX9_sheet 53 = .ok (.istore 4, 2) := by decide +kernel
theorem dX9_sheet_55 : decode cX9_sheet 55 = .ok (.iload 4, 2) := by decide +kernel
theorem dX9_sheet_57 : decode cX9_sheet 57 = .ok (.iload_n 3, 1) := by decide +kernel
theorem dX9_sheet_58 : decode cX9_sheet 58 = .ok (.if_icmp .ge 22, 3) := by decide +kernel
theorem dX9_sheet_61 : decode cX9_sheet 61 = .ok (.aload_n 0, 1) := by decide +kernel
theorem dX9_sheet_62 : decode cX9_sheet 62 = .ok (.getfield 97, 3) := by decide +kernel
theorem dX9_sheet_65 : decode cX9_sheet 65 = .ok (.bipush 60, 2) := by decide +kernel
theorem dX9_sheet_67 : decode cX9_sheet 67 = .ok (.iload_n 1, 1) := by decide +kernel
theorem dX9_sheet_68 : decode cX9_sheet 68 = .ok (.imul, 1) := by decide +kernel
theorem dX9_sheet_69 : decode cX9_sheet 69 = .ok (.iload 4, 2) := by decide +kernel
theorem dX9_sheet_71 : decode cX9_sheet 71 = .ok (.iadd, 1) := by decide +kernel
theorem dX9_sheet_72 : decode cX9_sheet 72 = .ok (.iconst 0, 1) := by decide +kernel
theorem dX9_sheet_73 : decode cX9_sheet 73 = .ok (.iastore, 1) := by decide +kernel
theorem dX9_sheet_74 : decode cX9_sheet 74 = .ok (.iinc 4 1, 3) := by decide +kernel
theorem dX9_sheet_77 : decode cX9_sheet 77 = .ok (.goto (-22), 3) := by decide +kernel
theorem dX9_sheet_80 : decode cX9_sheet 80 = .ok (.iload_n 3, 1) := by decide +kernel
theorem dX9_sheet_81 : decode cX9_sheet 81 = .ok (.ireturn, 1) := by decide +kernel
theorem dX9_lose_0 : decode cX9_lose 0 = .ok (.iload_n 1, 1) := by decide +kernel
theorem dX9_lose_1 : decode cX9_lose 1 = .ok (.invokestatic 253, 3) := by decide +kernel
theorem dX9_lose_4 : decode cX9_lose 4 = .ok (.ifCond .ne 6, 3) := by decide +kernel
theorem dX9_lose_7 : decode cX9_lose 7 = .ok (.bipush (-2), 2) := by decide +kernel
theorem dX9_lose_9 : decode cX9_lose 9 = .ok (.ireturn, 1) := by decide +kernel
theorem dX9_lose_10 : decode cX9_lose 10 = .ok (.aload_n 0, 1) := by decide +kernel
theorem dX9_lose_11 : decode cX9_lose 11 = .ok (.getfield 91, 3) := by decide +kernel
theorem dX9_lose_14 : decode cX9_lose 14 = .ok (.iload_n 1, 1) := by decide +kernel
theorem dX9_lose_15 : decode cX9_lose 15 = .ok (.iaload, 1) := by decide +kernel
theorem dX9_lose_16 : decode cX9_lose 16 = .ok (.ifCond .ge 9, 3) := by decide +kernel
theorem dX9_lose_19 : decode cX9_lose 19 = .ok (.aload_n 0, 1) := by decide +kernel
theorem dX9_lose_20 : decode cX9_lose 20 = .ok (.iconst 1, 1) := by decide +kernel
theorem dX9_lose_21 : decode cX9_lose 21 = .ok (.invokevirtual 256, 3) := by decide +kernel
theorem dX9_lose_24 : decode cX9_lose 24 = .ok (.ireturn, 1) := by decide +kernel
theorem dX9_lose_25 : decode cX9_lose 25 = .ok (.aload_n 0, 1) := by decide +kernel
theorem dX9_lose_26 : decode cX9_lose 26 = .ok (.getfield 91, 3) := by decide +kernel
theorem dX9_lose_29 : decode cX9_lose 29 = .ok (.iload_n 1, 1) := by decide +kernel
theorem dX9_lose_30 : decode cX9_lose 30 = .ok (.iconst (-1), 1) := by decide +kernel
theorem dX9_lose_31 : decode cX9_lose 31 = .ok (.iastore, 1) := by decide +kernel
theorem dX9_lose_32 : decode cX9_lose 32 = .ok (.aload_n 0, 1) := by decide +kernel
theorem dX9_lose_33 : decode cX9_lose 33 = .ok (.getfield 94, 3) := by decide +kernel
theorem dX9_lose_36 : decode cX9_lose 36 = .ok (.iload_n 1, 1) := by decide +kernel
theorem dX9_lose_37 : decode cX9_lose 37 = .ok (.iaload, 1) := by decide +kernel
theorem dX9_lose_38 : decode cX9_lose 38 = .ok (.ireturn, 1) := by decide +kernel
theorem dX9_lacks_0 : decode cX9_lacks 0 = .ok (.aload_n 0, 1) := by decide +kernel
theorem dX9_lacks_1 : decode cX9_lacks 1 = .ok (.getfield 91, 3) := by decide +kernel
theorem dX9_lacks_4 : decode cX9_lacks 4 = .ok (.iload_n 1, 1) := by decide +kernel
theorem dX9_lacks_5 : decode cX9_lacks 5 = .ok (.iaload, 1) := by decide +kernel
theorem dX9_lacks_6 : decode cX9_lacks 6 = .ok (.ifCond .ge 9, 3) := by decide +kernel
theorem dX9_lacks_9 : decode cX9_lacks 9 = .ok (.aload_n 0, 1) := by decide +kernel
theorem dX9_lacks_10 : decode cX9_lacks 10 = .ok (.iconst 1, 1) := by decide +kernel
theorem dX9_lacks_11 : decode cX9_lacks 11 = .ok (.invokevirtual 256, 3) := by decide +kernel
theorem dX9_lacks_14 : decode cX9_lacks 14 = .ok (.ireturn, 1) := by decide +kernel
theorem dX9_lacks_15 : decode cX9_lacks 15 = .ok (.aload_n 0, 1) := by decide +kernel
theorem dX9_lacks_16 : decode cX9_lacks 16 = .ok (.getfield 91, 3) := by decide +kernel
theorem dX9_lacks_19 : decode cX9_lacks 19 = .ok (.iload_n 1, 1) := by decide +kernel
theorem dX9_lacks_20 : decode cX9_lacks 20 = .ok (.iaload, 1) := by decide +kernel
theorem dX9_lacks_21 : decode cX9_lacks 21 = .ok (.iload_n 2, 1) := by decide +kernel
theorem dX9_lacks_22 : decode cX9_lacks 22 = .ok (.if_icmp .eq 9, 3) := by decide +kernel
theorem dX9_lacks_25 : decode cX9_lacks 25 = .ok (.aload_n 0, 1) := by decide +kernel
theorem dX9_lacks_26 : decode cX9_lacks 26 = .ok (.iconst 3, 1) := by decide +kernel
theorem dX9_lacks_27 : decode cX9_lacks 27 = .ok (.invokevirtual 256, 3) := by decide +kernel
theorem dX9_lacks_30 : decode cX9_lacks 30 = .ok (.ireturn, 1) := by decide +kernel
theorem dX9_lacks_31 : decode cX9_lacks 31 = .ok (.iload_n 3, 1) := by decide +kernel
theorem dX9_lacks_32 : decode cX9_lacks 32 = .ok (.i2l, 1) := by decide +kernel
theorem dX9_lacks_33 : decode cX9_lacks 33 = .ok (.lconst 0, 1) := by decide +kernel
theorem dX9_lacks_34 : decode cX9_lacks 34 = .ok (.aload_n 0, 1) := by decide +kernel
theorem dX9_lacks_35 : decode cX9_lacks 35 = .ok (.getfield 94, 3) := by decide +kernel
theorem dX9_lacks_38 : decode cX9_lacks 38 = .ok (.iload_n 1, 1) := by decide +kernel
theorem dX9_lacks_39 : decode cX9_lacks 39 = .ok (.iaload, 1) := by decide +kernel
theorem dX9_lacks_40 : decode cX9_lacks 40 = .ok (.iconst 1, 1) := by decide +kernel
theorem dX9_lacks_41 : decode cX9_lacks 41 = .ok (.isub, 1) := by decide +kernel
theorem dX9_lacks_42 : decode cX9_lacks 42 = .ok (.i2l, 1) := by decide +kernel
theorem dX9_lacks_43 : decode cX9_lacks 43 = .ok (.invokestatic 107, 3) := by decide +kernel
theorem dX9_lacks_46 : decode cX9_lacks 46 = .ok (.ifCond .eq 7, 3) := by decide +kernel
theorem dX9_lacks_49 : decode cX9_lacks 49 = .ok (.iconst 0, 1) := by decide +kernel
theorem dX9_lacks_50 : decode cX9_lacks 50 = .ok (.goto 8, 3) := by decide +kernel
theorem dX9_lacks_53 : decode cX9_lacks 53 = .ok (.aload_n 0, 1) := by decide +kernel
theorem dX9_lacks_54 : decode cX9_lacks 54 = .ok (.iconst 2, 1) := by decide +kernel
theorem dX9_lacks_55 : decode cX9_lacks 55 = .ok (.invokevirtual 256, 3) := by decide +kernel
theorem dX9_lacks_58 : decode cX9_lacks 58 = .ok (.ireturn, 1) := by decide +kernel
theorem dX9_put_0 : decode cX9_put 0 = .ok (.iload_n 1, 1) := by decide +kernel
theorem dX9_put_1 : decode cX9_put 1 = .ok (.invokestatic 253, 3) := by decide +kernel
theorem dX9_put_4 : decode cX9_put 4 = .ok (.ifCond .eq 15, 3) := by decide +kernel
theorem dX9_put_7 : decode cX9_put 7 = .ok (.iload_n 2, 1) := by decide +kernel
theorem dX9_put_8 : decode cX9_put 8 = .ok (.i2l, 1) := by decide +kernel
theorem dX9_put_9 : decode cX9_put 9 = .ok (.lconst 0, 1) := by decide +kernel
theorem dX9_put_10 : decode cX9_put 10 = .ok (.ldc2_w 105, 3) := by decide +kernel
theorem dX9_put_13 : decode cX9_put 13 = .ok (.invokestatic 107, 3) := by decide +kernel
theorem dX9_put_16 : decode cX9_put 16 = .ok (.ifCond .ne 6, 3) := by decide +kernel
theorem dX9_put_19 : decode cX9_put 19 = .ok (.bipush (-2), 2) := by decide +kernel
theorem dX9_put_21 : decode cX9_put 21 = .ok (.ireturn, 1) := by decide +kernel
theorem dX9_put_22 : decode cX9_put 22 = .ok (.aload_n 0, 1) := by decide +kernel
theorem dX9_put_23 : decode cX9_put 23 = .ok (.iload_n 1, 1) := by decide +kernel
theorem dX9_put_24 : decode cX9_put 24 = .ok (.iload_n 2, 1) := by decide +kernel
theorem dX9_put_25 : decode cX9_put 25 = .ok (.iload_n 3, 1) := by decide +kernel
theorem dX9_put_26 : decode cX9_put 26 = .ok (.invokevirtual 267, 3) := by decide +kernel
theorem dX9_put_29 : decode cX9_put 29 = .ok (.istore 5, 2) := by decide +kernel
theorem dX9_put_31 : decode cX9_put 31 = .ok (.iload 5, 2) := by decide +kernel
theorem dX9_put_33 : decode cX9_put 33 = .ok (.ifCond .eq 6, 3) := by decide +kernel
theorem dX9_put_36 : decode cX9_put 36 = .ok (.iload 5, 2) := by decide +kernel
theorem dX9_put_38 : decode cX9_put 38 = .ok (.ireturn, 1) := by decide +kernel
theorem dX9_put_39 : decode cX9_put 39 = .ok (.aload_n 0, 1) := by decide +kernel
theorem dX9_put_40 : decode cX9_put 40 = .ok (.getfield 97, 3) := by decide +kernel
theorem dX9_put_43 : decode cX9_put 43 = .ok (.bipush 60, 2) := by decide +kernel
theorem dX9_put_45 : decode cX9_put 45 = .ok (.iload_n 1, 1) := by decide +kernel
theorem dX9_put_46 : decode cX9_put 46 = .ok (.imul, 1) := by decide +kernel
theorem dX9_put_47 : decode cX9_put 47 = .ok (.iload_n 3, 1) := by decide +kernel
theorem dX9_put_48 : decode cX9_put 48 = .ok (.iadd, 1) := by decide +kernel
theorem dX9_put_49 : decode cX9_put 49 = .ok (.iload_n 2, 1) := by decide +kernel
theorem dX9_put_50 : decode cX9_put 50 = .ok (.ifCond .ne 9, 3) := by decide +kernel
theorem dX9_put_53 : decode cX9_put 53 = .ok (.iload 4, 2) := by decide +kernel
theorem dX9_put_55 : decode cX9_put 55 = .ok (.i2b, 1) := by decide +kernel
theorem dX9_put_56 : decode cX9_put 56 = .ok (.goto 16, 3) := by decide +kernel
theorem dX9_put_59 : decode cX9_put 59 = .ok (.iload_n 2, 1) := by decide +kernel
theorem dX9_put_60 : decode cX9_put 60 = .ok (.iconst 1, 1) := by decide +kernel
theorem dX9_put_61 : decode cX9_put 61 = .ok (.if_icmp .ne 9, 3) := by decide +kernel
theorem dX9_put_64 : decode cX9_put 64 = .ok (.iload 4, 2) := by decide +kernel
theorem dX9_put_66 : decode cX9_put 66 = .ok (.i2s, 1) := by decide +kernel
theorem dX9_put_67 : decode cX9_put 67 = .ok (.goto 5, 3) := by decide +kernel
theorem dX9_put_70 : decode cX9_put 70 = .ok (.iload 4, 2) := by decide +kernel
theorem dX9_put_72 : decode cX9_put 72 = .ok (.iastore, 1) := by decide +kernel
theorem dX9_put_73 : decode cX9_put 73 = .ok (.iconst 1, 1) := by decide +kernel
theorem dX9_put_74 : decode cX9_put 74 = .ok (.ireturn, 1) := by decide +kernel
theorem dX9_get_0 : decode cX9_get 0 = .ok (.iload_n 1, 1) := by decide +kernel
theorem dX9_get_1 : decode cX9_get 1 = .ok (.invokestatic 253, 3) := by decide +kernel
theorem dX9_get_4 : decode cX9_get 4 = .ok (.ifCond .eq 25, 3) := by decide +kernel
theorem dX9_get_7 : decode cX9_get 7 = .ok (.iload_n 2, 1) := by decide +kernel
theorem dX9_get_8 : decode cX9_get 8 = .ok (.i2l, 1) := by decide +kernel
theorem dX9_get_9 : decode cX9_get 9 = .ok (.lconst 0, 1) := by decide +kernel
theorem dX9_get_10 : decode cX9_get 10 = .ok (.ldc2_w 105, 3) := by decide +kernel
theorem dX9_get_13 : decode cX9_get 13 = .ok (.invokestatic 107, 3) := by decide +kernel
theorem dX9_get_16 : decode cX9_get 16 = .ok (.ifCond .eq 13, 3) := by decide +kernel
theorem dX9_get_19 : decode cX9_get 19 = .ok (.aload_n 0, 1) := by decide +kernel
theorem dX9_get_20 : decode cX9_get 20 = .ok (.iload_n 1, 1) := by decide +kernel
theorem dX9_get_21 : decode cX9_get 21 = .ok (.iload_n 2, 1) := by decide +kernel
theorem dX9_get_22 : decode cX9_get 22 = .ok (.iload_n 3, 1) := by decide +kernel
theorem dX9_get_23 : decode cX9_get 23 = .ok (.invokevirtual 267, 3) := by decide +kernel
theorem dX9_get_26 : decode cX9_get 26 = .ok (.ifCond .eq 6, 3) := by decide +kernel
theorem dX9_get_29 : decode cX9_get 29 = .ok (.ldc 231, 2) := by decide +kernel
theorem dX9_get_31 : decode cX9_get 31 = .ok (.ireturn, 1) := by decide +kernel
theorem dX9_get_32 : decode cX9_get 32 = .ok (.aload_n 0, 1) := by decide +kernel
theorem dX9_get_33 : decode cX9_get 33 = .ok (.getfield 97, 3) := by decide +kernel
theorem dX9_get_36 : decode cX9_get 36 = .ok (.bipush 60, 2) := by decide +kernel
theorem dX9_get_38 : decode cX9_get 38 = .ok (.iload_n 1, 1) := by decide +kernel
theorem dX9_get_39 : decode cX9_get 39 = .ok (.imul, 1) := by decide +kernel
theorem dX9_get_40 : decode cX9_get 40 = .ok (.iload_n 3, 1) := by decide +kernel
theorem dX9_get_41 : decode cX9_get 41 = .ok (.iadd, 1) := by decide +kernel
theorem dX9_get_42 : decode cX9_get 42 = .ok (.iaload, 1) := by decide +kernel
theorem dX9_get_43 : decode cX9_get 43 = .ok (.ireturn, 1) := by decide +kernel
theorem dX9_copy_0 : decode cX9_copy 0 = .ok (.iload_n 1, 1) := by decide +kernel
theorem dX9_copy_1 : decode cX9_copy 1 = .ok (.invokestatic 253, 3) := by decide +kernel
theorem dX9_copy_4 : decode cX9_copy 4 = .ok (.ifCond .eq 10, 3) := by decide +kernel
theorem dX9_copy_7 : decode cX9_copy 7 = .ok (.iload_n 3, 1) := by decide +kernel
theorem dX9_copy_8 : decode cX9_copy 8 = .ok (.invokestatic 253, 3) := by decide +kernel
theorem dX9_copy_11 : decode cX9_copy 11 = .ok (.ifCond .ne 6, 3) := by decide +kernel
theorem dX9_copy_14 : decode cX9_copy 14 = .ok (.bipush (-2), 2) := by decide +kernel
theorem dX9_copy_16 : decode cX9_copy 16 = .ok (.ireturn, 1) := by decide +kernel
theorem dX9_copy_17 : decode cX9_copy 17 = .ok (.aload_n 0, 1) := by decide +kernel
theorem dX9_copy_18 : decode cX9_copy 18 = .ok (.getfield 91, 3) := by decide +kernel
theorem dX9_copy_21 : decode cX9_copy 21 = .ok (.iload_n 1, 1) := by decide +kernel
theorem dX9_copy_22 : decode cX9_copy 22 = .ok (.iaload, 1) := by decide +kernel
theorem dX9_copy_23 : decode cX9_copy 23 = .ok (.ifCond .lt 12, 3) := by decide +kernel
theorem dX9_copy_26 : decode cX9_copy 26 = .ok (.aload_n 0, 1) := by decide +kernel
theorem dX9_copy_27 : decode cX9_copy 27 = .ok (.getfield 91, 3) := by decide +kernel
theorem dX9_copy_30 : decode cX9_copy 30 = .ok (.iload_n 3, 1) := by decide +kernel
theorem dX9_copy_31 : decode cX9_copy 31 = .ok (.iaload, 1) := by decide +kernel
theorem dX9_copy_32 : decode cX9_copy 32 = .ok (.ifCond .ge 9, 3) := by decide +kernel
theorem dX9_copy_35 : decode cX9_copy 35 = .ok (.aload_n 0, 1) := by decide +kernel
theorem dX9_copy_36 : decode cX9_copy 36 = .ok (.iconst 1, 1) := by decide +kernel
theorem dX9_copy_37 : decode cX9_copy 37 = .ok (.invokevirtual 256, 3) := by decide +kernel
theorem dX9_copy_40 : decode cX9_copy 40 = .ok (.ireturn, 1) := by decide +kernel
theorem dX9_copy_41 : decode cX9_copy 41 = .ok (.aload_n 0, 1) := by decide +kernel
theorem dX9_copy_42 : decode cX9_copy 42 = .ok (.getfield 91, 3) := by decide +kernel
theorem dX9_copy_45 : decode cX9_copy 45 = .ok (.iload_n 1, 1) := by decide +kernel
theorem dX9_copy_46 : decode cX9_copy 46 = .ok (.iaload, 1) := by decide +kernel
theorem dX9_copy_47 : decode cX9_copy 47 = .ok (.aload_n 0, 1) := by decide +kernel
theorem dX9_copy_48 : decode cX9_copy 48 = .ok (.getfield 91, 3) := by decide +kernel
theorem dX9_copy_51 : decode cX9_copy 51 = .ok (.iload_n 3, 1) := by decide +kernel
theorem dX9_copy_52 : decode cX9_copy 52 = .ok (.iaload, 1) := by decide +kernel
theorem dX9_copy_53 : decode cX9_copy 53 = .ok (.if_icmp .eq 9, 3) := by decide +kernel
theorem dX9_copy_56 : decode cX9_copy 56 = .ok (.aload_n 0, 1) := by decide +kernel
theorem dX9_copy_57 : decode cX9_copy 57 = .ok (.iconst 4, 1) := by decide +kernel
theorem dX9_copy_58 : decode cX9_copy 58 = .ok (.invokevirtual 256, 3) := by decide +kernel
theorem dX9_copy_61 : decode cX9_copy 61 = .ok (.ireturn, 1) := by decide +kernel
theorem dX9_copy_62 : decode cX9_copy 62 = .ok (.iload_n 2, 1) := by decide +kernel
theorem dX9_copy_63 : decode cX9_copy 63 = .ok (.ifCond .lt 48, 3) := by decide +kernel
theorem dX9_copy_66 : decode cX9_copy 66 = .ok (.iload 4, 2) := by decide +kernel
theorem dX9_copy_68 : decode cX9_copy 68 = .ok (.ifCond .lt 43, 3) := by decide +kernel
theorem dX9_copy_71 : decode cX9_copy 71 = .ok (.iload 5, 2) := by decide +kernel
theorem dX9_copy_73 : decode cX9_copy 73 = .ok (.ifCond .lt 38, 3) := by decide +kernel
theorem dX9_copy_76 : decode cX9_copy 76 = .ok (.iload_n 2, 1) := by decide +kernel
theorem dX9_copy_77 : decode cX9_copy 77 = .ok (.i2l, 1) := by decide +kernel
theorem dX9_copy_78 : decode cX9_copy 78 = .ok (.iload 5, 2) := by decide +kernel
theorem dX9_copy_80 : decode cX9_copy 80 = .ok (.i2l, 1) := by decide +kernel
theorem dX9_copy_81 : decode cX9_copy 81 = .ok (.ladd, 1) := by decide +kernel
theorem dX9_copy_82 : decode cX9_copy 82 = .ok (.aload_n 0, 1) := by decide +kernel
theorem dX9_copy_83 : decode cX9_copy 83 = .ok (.getfield 94, 3) := by decide +kernel
theorem dX9_copy_86 : decode cX9_copy 86 = .ok (.iload_n 1, 1) := by decide +kernel
theorem dX9_copy_87 : decode cX9_copy 87 = .ok (.iaload, 1) := by decide +kernel
theorem dX9_copy_88 : decode cX9_copy 88 = .ok (.i2l, 1) := by decide +kernel
theorem dX9_copy_89 : decode cX9_copy 89 = .ok (.lcmp, 1) := by decide +kernel
theorem dX9_copy_90 : decode cX9_copy 90 = .ok (.ifCond .gt 21, 3) := by decide +kernel
theorem dX9_copy_93 : decode cX9_copy 93 = .ok (.iload 4, 2) := by decide +kernel
theorem dX9_copy_95 : decode cX9_copy 95 = .ok (.i2l, 1) := by decide +kernel
theorem dX9_copy_96 : decode cX9_copy 96 = .ok (.iload 5, 2) := by decide +kernel
theorem dX9_copy_98 : decode cX9_copy 98 = .ok (.i2l, 1) := by decide +kernel
theorem dX9_copy_99 : decode cX9_copy 99 = .ok (.ladd, 1) := by decide +kernel
theorem dX9_copy_100 : decode cX9_copy 100 = .ok (.aload_n 0, 1) := by decide +kernel
theorem dX9_copy_101 : decode cX9_copy 101 = .ok (.getfield 94, 3) := by decide +kernel
theorem dX9_copy_104 : decode cX9_copy 104 = .ok (.iload_n 3, 1) := by decide +kernel
theorem dX9_copy_105 : decode cX9_copy 105 = .ok (.iaload, 1) := by decide +kernel
theorem dX9_copy_106 : decode cX9_copy 106 = .ok (.i2l, 1) := by decide +kernel
theorem dX9_copy_107 : decode cX9_copy 107 = .ok (.lcmp, 1) := by decide +kernel
theorem dX9_copy_108 : decode cX9_copy 108 = .ok (.ifCond .le 9, 3) := by decide +kernel
theorem dX9_copy_111 : decode cX9_copy 111 = .ok (.aload_n 0, 1) := by decide +kernel
theorem dX9_copy_112 : decode cX9_copy 112 = .ok (.iconst 2, 1) := by decide +kernel
theorem dX9_copy_113 : decode cX9_copy 113 = .ok (.invokevirtual 256, 3) := by decide +kernel
theorem dX9_copy_116 : decode cX9_copy 116 = .ok (.ireturn, 1) := by decide +kernel
theorem dX9_copy_117 : decode cX9_copy 117 = .ok (.iconst 0, 1) := by decide +kernel
theorem dX9_copy_118 : decode cX9_copy 118 = .ok (.istore 6, 2) := by decide +kernel
theorem dX9_copy_120 : decode cX9_copy 120 = .ok (.iload 6, 2) := by decide +kernel
theorem dX9_copy_122 : decode cX9_copy 122 = .ok (.iload 5, 2) := by decide +kernel
theorem dX9_copy_124 : decode cX9_copy 124 = .ok (.if_icmp .ge 30, 3) := by decide +kernel
theorem dX9_copy_127 : decode cX9_copy 127 = .ok (.aload_n 0, 1) := by decide +kernel
theorem dX9_copy_128 : decode cX9_copy 128 = .ok (.getfield 100, 3) := by decide +kernel
theorem dX9_copy_131 : decode cX9_copy 131 = .ok (.iload 6, 2) := by decide +kernel
theorem dX9_copy_133 : decode cX9_copy 133 = .ok (.aload_n 0, 1) := by decide +kernel
theorem dX9_copy_134 : decode cX9_copy 134 = .ok (.getfield 97, 3) := by decide +kernel
theorem dX9_copy_137 : decode cX9_copy 137 = .ok (.bipush 60, 2) := by decide +kernel
theorem dX9_copy_139 : decode cX9_copy 139 = .ok (.iload_n 1, 1) := by decide +kernel
theorem dX9_copy_140 : decode cX9_copy 140 = .ok (.imul, 1) := by decide +kernel
theorem dX9_copy_141 : decode cX9_copy 141 = .ok (.iload_n 2, 1) := by decide +kernel
theorem dX9_copy_142 : decode cX9_copy 142 = .ok (.iadd, 1) := by decide +kernel
theorem dX9_copy_143 : decode cX9_copy 143 = .ok (.iload 6, 2) := by decide +kernel
theorem dX9_copy_145 : decode cX9_copy 145 = .ok (.iadd, 1) := by decide +kernel
theorem dX9_copy_146 : decode cX9_copy 146 = .ok (.iaload, 1) := by decide +kernel
theorem dX9_copy_147 : decode cX9_copy 147 = .ok (.iastore, 1) := by decide +kernel
theorem dX9_copy_148 : decode cX9_copy 148 = .ok (.iinc 6 1, 3) := by decide +kernel
theorem dX9_copy_151 : decode cX9_copy 151 = .ok (.goto (-31), 3) := by decide +kernel
theorem dX9_copy_154 : decode cX9_copy 154 = .ok (.iconst 0, 1) := by decide +kernel
theorem dX9_copy_155 : decode cX9_copy 155 = .ok (.istore 6, 2) := by decide +kernel
theorem dX9_copy_157 : decode cX9_copy 157 = .ok (.iload 6, 2) := by decide +kernel
theorem dX9_copy_159 : decode cX9_copy 159 = .ok (.iload 5, 2) := by decide +kernel
theorem dX9_copy_161 : decode cX9_copy 161 = .ok (.if_icmp .ge 31, 3) := by decide +kernel
theorem dX9_copy_164 : decode cX9_copy 164 = .ok (.aload_n 0, 1) := by decide +kernel
theorem dX9_copy_165 : decode cX9_copy 165 = .ok (.getfield 97, 3) := by decide +kernel
theorem dX9_copy_168 : decode cX9_copy 168 = .ok (.bipush 60, 2) := by decide +kernel
theorem dX9_copy_170 : decode cX9_copy 170 = .ok (.iload_n 3, 1) := by decide +kernel
theorem dX9_copy_171 : decode cX9_copy 171 = .ok (.imul, 1) := by decide +kernel
theorem dX9_copy_172 : decode cX9_copy 172 = .ok (.iload 4, 2) := by decide +kernel
theorem dX9_copy_174 : decode cX9_copy 174 = .ok (.iadd, 1) := by decide +kernel
theorem dX9_copy_175 : decode cX9_copy 175 = .ok (.iload 6, 2) := by decide +kernel
theorem dX9_copy_177 : decode cX9_copy 177 = .ok (.iadd, 1) := by decide +kernel
theorem dX9_copy_178 : decode cX9_copy 178 = .ok (.aload_n 0, 1) := by decide +kernel
theorem dX9_copy_179 : decode cX9_copy 179 = .ok (.getfield 100, 3) := by decide +kernel
theorem dX9_copy_182 : decode cX9_copy 182 = .ok (.iload 6, 2) := by decide +kernel
theorem dX9_copy_184 : decode cX9_copy 184 = .ok (.iaload, 1) := by decide +kernel
theorem dX9_copy_185 : decode cX9_copy 185 = .ok (.iastore, 1) := by decide +kernel
theorem dX9_copy_186 : decode cX9_copy 186 = .ok (.iinc 6 1, 3) := by decide +kernel
theorem dX9_copy_189 : decode cX9_copy 189 = .ok (.goto (-32), 3) := by decide +kernel
theorem dX9_copy_192 : decode cX9_copy 192 = .ok (.iconst 1, 1) := by decide +kernel
theorem dX9_copy_193 : decode cX9_copy 193 = .ok (.ireturn, 1) := by decide +kernel
theorem dX9_shake_0 : decode cX9_shake 0 = .ok (.iload_n 1, 1) := by decide +kernel
theorem dX9_shake_1 : decode cX9_shake 1 = .ok (.invokestatic 253, 3) := by decide +kernel
theorem dX9_shake_4 : decode cX9_shake 4 = .ok (.ifCond .ne 6, 3) := by decide +kernel
theorem dX9_shake_7 : decode cX9_shake 7 = .ok (.bipush (-2), 2) := by decide +kernel
theorem dX9_shake_9 : decode cX9_shake 9 = .ok (.ireturn, 1) := by decide +kernel
theorem dX9_shake_10 : decode cX9_shake 10 = .ok (.aload_n 0, 1) := by decide +kernel
theorem dX9_shake_11 : decode cX9_shake 11 = .ok (.getfield 91, 3) := by decide +kernel
theorem dX9_shake_14 : decode cX9_shake 14 = .ok (.iload_n 1, 1) := by decide +kernel
theorem dX9_shake_15 : decode cX9_shake 15 = .ok (.iaload, 1) := by decide +kernel
theorem dX9_shake_16 : decode cX9_shake 16 = .ok (.ifCond .ge 9, 3) := by decide +kernel
theorem dX9_shake_19 : decode cX9_shake 19 = .ok (.aload_n 0, 1) := by decide +kernel
theorem dX9_shake_20 : decode cX9_shake 20 = .ok (.iconst 1, 1) := by decide +kernel
theorem dX9_shake_21 : decode cX9_shake 21 = .ok (.invokevirtual 256, 3) := by decide +kernel
theorem dX9_shake_24 : decode cX9_shake 24 = .ok (.ireturn, 1) := by decide +kernel
theorem dX9_shake_25 : decode cX9_shake 25 = .ok (.iload_n 2, 1) := by decide +kernel
theorem dX9_shake_26 : decode cX9_shake 26 = .ok (.istore_n 3, 1) := by decide +kernel
theorem dX9_shake_27 : decode cX9_shake 27 = .ok (.iconst 0, 1) := by decide +kernel
theorem dX9_shake_28 : decode cX9_shake 28 = .ok (.istore 4, 2) := by decide +kernel
theorem dX9_shake_30 : decode cX9_shake 30 = .ok (.iload 4, 2) := by decide +kernel
theorem dX9_shake_32 : decode cX9_shake 32 = .ok (.aload_n 0, 1) := by decide +kernel
theorem dX9_shake_33 : decode cX9_shake 33 = .ok (.getfield 94, 3) := by decide +kernel
theorem dX9_shake_36 : decode cX9_shake 36 = .ok (.iload_n 1, 1) := by decide +kernel
theorem dX9_shake_37 : decode cX9_shake 37 = .ok (.iaload, 1) := by decide +kernel
theorem dX9_shake_38 : decode cX9_shake 38 = .ok (.if_icmp .ge 40, 3) := by decide +kernel
theorem dX9_shake_41 : decode cX9_shake 41 = .ok (.ldc_w 270, 3) := by decide +kernel
theorem dX9_shake_44 : decode cX9_shake 44 = .ok (.iload_n 3, 1) := by decide +kernel
theorem dX9_shake_45 : decode cX9_shake 45 = .ok (.imul, 1) := by decide +kernel
theorem dX9_shake_46 : decode cX9_shake 46 = .ok (.sipush 12345, 3) := by decide +kernel
theorem dX9_shake_49 : decode cX9_shake 49 = .ok (.iadd, 1) := by decide +kernel
theorem dX9_shake_50 : decode cX9_shake 50 = .ok (.istore_n 3, 1) := by decide +kernel
theorem dX9_shake_51 : decode cX9_shake 51 = .ok (.aload_n 0, 1) := by decide +kernel
theorem dX9_shake_52 : decode cX9_shake 52 = .ok (.getfield 97, 3) := by decide +kernel
theorem dX9_shake_55 : decode cX9_shake 55 = .ok (.bipush 60, 2) := by decide +kernel
theorem dX9_shake_57 : decode cX9_shake 57 = .ok (.iload_n 1, 1) := by decide +kernel
theorem dX9_shake_58 : decode cX9_shake 58 = .ok (.imul, 1) := by decide +kernel
theorem dX9_shake_59 : decode cX9_shake 59 = .ok (.iload 4, 2) := by decide +kernel
theorem dX9_shake_61 : decode cX9_shake 61 = .ok (.iadd, 1) := by decide +kernel
theorem dX9_shake_62 : decode cX9_shake 62 = .ok (.iconst 1, 1) := by decide +kernel
theorem dX9_shake_63 : decode cX9_shake 63 = .ok (.iload_n 3, 1) := by decide +kernel
theorem dX9_shake_64 : decode cX9_shake 64 = .ok (.bipush 16, 2) := by decide +kernel
theorem dX9_shake_66 : decode cX9_shake 66 = .ok (.iushr, 1) := by decide +kernel
theorem dX9_shake_67 : decode cX9_shake 67 = .ok (.bipush 6, 2) := by decide +kernel
theorem dX9_shake_69 : decode cX9_shake 69 = .ok (.irem, 1) := by decide +kernel
theorem dX9_shake_70 : decode cX9_shake 70 = .ok (.iadd, 1) := by decide +kernel
theorem dX9_shake_71 : decode cX9_shake 71 = .ok (.iastore, 1) := by decide +kernel
theorem dX9_shake_72 : decode cX9_shake 72 = .ok (.iinc 4 1, 3) := by decide +kernel
theorem dX9_shake_75 : decode cX9_shake 75 = .ok (.goto (-45), 3) := by decide +kernel
theorem dX9_shake_78 : decode cX9_shake 78 = .ok (.aload_n 0, 1) := by decide +kernel
theorem dX9_shake_79 : decode cX9_shake 79 = .ok (.getfield 94, 3) := by decide +kernel
theorem dX9_shake_82 : decode cX9_shake 82 = .ok (.iload_n 1, 1) := by decide +kernel
theorem dX9_shake_83 : decode cX9_shake 83 = .ok (.iaload, 1) := by decide +kernel
theorem dX9_shake_84 : decode cX9_shake 84 = .ok (.ireturn, 1) := by decide +kernel
theorem dX9_count_0 : decode cX9_count 0 = .ok (.iload_n 1, 1) := by decide +kernel
theorem dX9_count_1 : decode cX9_count 1 = .ok (.tableswitch 139 0 9 #[55, 60, 82, 104, 109, 114, 119, 124, 129, 134], 55) := by decide +kernel
theorem dX9_count_56 : decode cX9_count 56 = .ok (.aload_n 0, 1) := by decide +kernel
theorem dX9_count_57 : decode cX9_count 57 = .ok (.getfield 119, 3) := by decide +kernel
theorem dX9_count_60 : decode cX9_count 60 = .ok (.ireturn, 1) := by decide +kernel
theorem dX9_count_61 : decode cX9_count 61 = .ok (.aload_n 0, 1) := by decide +kernel
theorem dX9_count_62 : decode cX9_count 62 = .ok (.getfield 13, 3) := by decide +kernel
theorem dX9_count_65 : decode cX9_count 65 = .ok (.iconst 0, 1) := by decide +kernel
theorem dX9_count_66 : decode cX9_count 66 = .ok (.iaload, 1) := by decide +kernel
theorem dX9_count_67 : decode cX9_count 67 = .ok (.aload_n 0, 1) := by decide +kernel
theorem dX9_count_68 : decode cX9_count 68 = .ok (.getfield 13, 3) := by decide +kernel
theorem dX9_count_71 : decode cX9_count 71 = .ok (.iconst 1, 1) := by decide +kernel
theorem dX9_count_72 : decode cX9_count 72 = .ok (.iaload, 1) := by decide +kernel
theorem dX9_count_73 : decode cX9_count 73 = .ok (.aload_n 0, 1) := by decide +kernel
theorem dX9_count_74 : decode cX9_count 74 = .ok (.getfield 13, 3) := by decide +kernel
theorem dX9_count_77 : decode cX9_count 77 = .ok (.iconst 2, 1) := by decide +kernel
theorem dX9_count_78 : decode cX9_count 78 = .ok (.iaload, 1) := by decide +kernel
theorem dX9_count_79 : decode cX9_count 79 = .ok (.invokestatic 138, 3) := by decide +kernel
theorem dX9_count_82 : decode cX9_count 82 = .ok (.ireturn, 1) := by decide +kernel
theorem dX9_count_83 : decode cX9_count 83 = .ok (.aload_n 0, 1) := by decide +kernel
theorem dX9_count_84 : decode cX9_count 84 = .ok (.getfield 13, 3) := by decide +kernel
theorem dX9_count_87 : decode cX9_count 87 = .ok (.iconst 3, 1) := by decide +kernel
theorem dX9_count_88 : decode cX9_count 88 = .ok (.iaload, 1) := by decide +kernel
theorem dX9_count_89 : decode cX9_count 89 = .ok (.aload_n 0, 1) := by decide +kernel
theorem dX9_count_90 : decode cX9_count 90 = .ok (.getfield 13, 3) := by decide +kernel
theorem dX9_count_93 : decode cX9_count 93 = .ok (.iconst 4, 1) := by decide +kernel
theorem dX9_count_94 : decode cX9_count 94 = .ok (.iaload, 1) := by decide +kernel
theorem dX9_count_95 : decode cX9_count 95 = .ok (.aload_n 0, 1) := by decide +kernel
theorem dX9_count_96 : decode cX9_count 96 = .ok (.getfield 13, 3) := by decide +kernel
theorem dX9_count_99 : decode cX9_count 99 = .ok (.iconst 5, 1) := by decide +kernel
theorem dX9_count_100 : decode cX9_count 100 = .ok (.iaload, 1) := by decide +kernel
theorem dX9_count_101 : decode cX9_count 101 = .ok (.invokestatic 138, 3) := by decide +kernel
theorem dX9_count_104 : decode cX9_count 104 = .ok (.ireturn, 1) := by decide +kernel
theorem dX9_count_105 : decode cX9_count 105 = .ok (.aload_n 0, 1) := by decide +kernel
theorem dX9_count_106 : decode cX9_count 106 = .ok (.getfield 16, 3) := by decide +kernel
theorem dX9_count_109 : decode cX9_count 109 = .ok (.ireturn, 1) := by decide +kernel
theorem dX9_count_110 : decode cX9_count 110 = .ok (.aload_n 0, 1) := by decide +kernel
theorem dX9_count_111 : decode cX9_count 111 = .ok (.getfield 142, 3) := by decide +kernel
theorem dX9_count_114 : decode cX9_count 114 = .ok (.ireturn, 1) := by decide +kernel
theorem dX9_count_115 : decode cX9_count 115 = .ok (.aload_n 0, 1) := by decide +kernel
theorem dX9_count_116 : decode cX9_count 116 = .ok (.getfield 236, 3) := by decide +kernel
theorem dX9_count_119 : decode cX9_count 119 = .ok (.ireturn, 1) := by decide +kernel
theorem dX9_count_120 : decode cX9_count 120 = .ok (.aload_n 0, 1) := by decide +kernel
theorem dX9_count_121 : decode cX9_count 121 = .ok (.getfield 262, 3) := by decide +kernel
theorem dX9_count_124 : decode cX9_count 124 = .ok (.ireturn, 1) := by decide +kernel
theorem dX9_count_125 : decode cX9_count 125 = .ok (.aload_n 0, 1) := by decide +kernel
theorem dX9_count_126 : decode cX9_count 126 = .ok (.getfield 20, 3) := by decide +kernel
theorem dX9_count_129 : decode cX9_count 129 = .ok (.ireturn, 1) := by decide +kernel
theorem dX9_count_130 : decode cX9_count 130 = .ok (.aload_n 0, 1) := by decide +kernel
theorem dX9_count_131 : decode cX9_count 131 = .ok (.getfield 70, 3) := by decide +kernel
theorem dX9_count_134 : decode cX9_count 134 = .ok (.ireturn, 1) := by decide +kernel
theorem dX9_count_135 : decode cX9_count 135 = .ok (.aload_n 0, 1) := by decide +kernel
theorem dX9_count_136 : decode cX9_count 136 = .ok (.getfield 73, 3) := by decide +kernel
theorem dX9_count_139 : decode cX9_count 139 = .ok (.ireturn, 1) := by decide +kernel
theorem dX9_count_140 : decode cX9_count 140 = .ok (.bipush (-2), 2) := by decide +kernel
theorem dX9_count_142 : decode cX9_count 142 = .ok (.ireturn, 1) := by decide +kernel
theorem dX9_digest_0 : decode cX9_digest 0 = .ok (.ldc2_w 271, 3) := by decide +kernel
theorem dX9_digest_3 : decode cX9_digest 3 = .ok (.lstore_n 1, 1) := by decide +kernel
theorem dX9_digest_4 : decode cX9_digest 4 = .ok (.iconst 0, 1) := by decide +kernel
theorem dX9_digest_5 : decode cX9_digest 5 = .ok (.istore_n 3, 1) := by decide +kernel
theorem dX9_digest_6 : decode cX9_digest 6 = .ok (.iload_n 3, 1) := by decide +kernel
theorem dX9_digest_7 : decode cX9_digest 7 = .ok (.bipush 10, 2) := by decide +kernel
theorem dX9_digest_9 : decode cX9_digest 9 = .ok (.if_icmp .ge 32, 3) := by decide +kernel
theorem dX9_digest_12 : decode cX9_digest 12 = .ok (.iload_n 3, 1) := by decide +kernel
theorem dX9_digest_13 : decode cX9_digest 13 = .ok (.bipush 6, 2) := by decide +kernel
theorem dX9_digest_15 : decode cX9_digest 15 = .ok (.if_icmp .ne 7, 3) := by decide +kernel
theorem dX9_digest_18 : decode cX9_digest 18 = .ok (.lload_n 1, 1) := by decide +kernel
theorem dX9_digest_19 : decode cX9_digest 19 = .ok (.goto 15, 3) := by decide +kernel
theorem dX9_digest_22 : decode cX9_digest 22 = .ok (.ldc2_w 159, 3) := by decide +kernel
theorem dX9_digest_25 : decode cX9_digest 25 = .ok (.lload_n 1, 1) := by decide +kernel
theorem dX9_digest_26 : decode cX9_digest 26 = .ok (.lmul, 1) := by decide +kernel
theorem dX9_digest_27 : decode cX9_digest 27 = .ok (.aload_n 0, 1) := by decide +kernel
theorem dX9_digest_28 : decode cX9_digest 28 = .ok (.iload_n 3, 1) := by decide +kernel
theorem dX9_digest_29 : decode cX9_digest 29 = .ok (.invokevirtual 273, 3) := by decide +kernel
theorem dX9_digest_32 : decode cX9_digest 32 = .ok (.i2l, 1) := by decide +kernel
theorem dX9_digest_33 : decode cX9_digest 33 = .ok (.ladd, 1) := by decide +kernel
theorem dX9_digest_34 : decode cX9_digest 34 = .ok (.lstore_n 1, 1) := by decide +kernel
theorem dX9_digest_35 : decode cX9_digest 35 = .ok (.iinc 3 1, 3) := by decide +kernel
theorem dX9_digest_38 : decode cX9_digest 38 = .ok (.goto (-32), 3) := by decide +kernel
theorem dX9_digest_41 : decode cX9_digest 41 = .ok (.iconst 0, 1) := by decide +kernel
theorem dX9_digest_42 : decode cX9_digest 42 = .ok (.istore_n 3, 1) := by decide +kernel
theorem dX9_digest_43 : decode cX9_digest 43 = .ok (.iload_n 3, 1) := by decide +kernel
theorem dX9_digest_44 : decode cX9_digest 44 = .ok (.bipush 6, 2) := by decide +kernel
theorem dX9_digest_46 : decode cX9_digest 46 = .ok (.aload_n 0, 1) := by decide +kernel
theorem dX9_digest_47 : decode cX9_digest 47 = .ok (.getfield 119, 3) := by decide +kernel
theorem dX9_digest_50 : decode cX9_digest 50 = .ok (.imul, 1) := by decide +kernel
theorem dX9_digest_51 : decode cX9_digest 51 = .ok (.if_icmp .ge 23, 3) := by decide +kernel
theorem dX9_digest_54 : decode cX9_digest 54 = .ok (.ldc2_w 159, 3) := by decide +kernel
theorem dX9_digest_57 : decode cX9_digest 57 = .ok (.lload_n 1, 1) := by decide +kernel
theorem dX9_digest_58 : decode cX9_digest 58 = .ok (.lmul, 1) := by decide +kernel
theorem dX9_digest_59 : decode cX9_digest 59 = .ok (.aload_n 0, 1) := by decide +kernel
theorem dX9_digest_60 : decode cX9_digest 60 = .ok (.getfield 7, 3) := by decide +kernel
theorem dX9_digest_63 : decode cX9_digest 63 = .ok (.iload_n 3, 1) := by decide +kernel
theorem dX9_digest_64 : decode cX9_digest 64 = .ok (.iaload, 1) := by decide +kernel
theorem dX9_digest_65 : decode cX9_digest 65 = .ok (.i2l, 1) := by decide +kernel
theorem dX9_digest_66 : decode cX9_digest 66 = .ok (.ladd, 1) := by decide +kernel
theorem dX9_digest_67 : decode cX9_digest 67 = .ok (.lstore_n 1, 1) := by decide +kernel
theorem dX9_digest_68 : decode cX9_digest 68 = .ok (.iinc 3 1, 3) := by decide +kernel
theorem dX9_digest_71 : decode cX9_digest 71 = .ok (.goto (-28), 3) := by decide +kernel
theorem dX9_digest_74 : decode cX9_digest 74 = .ok (.iconst 0, 1) := by decide +kernel
theorem dX9_digest_75 : decode cX9_digest 75 = .ok (.istore_n 3, 1) := by decide +kernel
theorem dX9_digest_76 : decode cX9_digest 76 = .ok (.iload_n 3, 1) := by decide +kernel
theorem dX9_digest_77 : decode cX9_digest 77 = .ok (.bipush 6, 2) := by decide +kernel
theorem dX9_digest_79 : decode cX9_digest 79 = .ok (.if_icmp .ge 23, 3) := by decide +kernel
theorem dX9_digest_82 : decode cX9_digest 82 = .ok (.ldc2_w 159, 3) := by decide +kernel
theorem dX9_digest_85 : decode cX9_digest 85 = .ok (.lload_n 1, 1) := by decide +kernel
theorem dX9_digest_86 : decode cX9_digest 86 = .ok (.lmul, 1) := by decide +kernel
theorem dX9_digest_87 : decode cX9_digest 87 = .ok (.aload_n 0, 1) := by decide +kernel
theorem dX9_digest_88 : decode cX9_digest 88 = .ok (.getfield 13, 3) := by decide +kernel
theorem dX9_digest_91 : decode cX9_digest 91 = .ok (.iload_n 3, 1) := by decide +kernel
theorem dX9_digest_92 : decode cX9_digest 92 = .ok (.iaload, 1) := by decide +kernel
theorem dX9_digest_93 : decode cX9_digest 93 = .ok (.i2l, 1) := by decide +kernel
theorem dX9_digest_94 : decode cX9_digest 94 = .ok (.ladd, 1) := by decide +kernel
theorem dX9_digest_95 : decode cX9_digest 95 = .ok (.lstore_n 1, 1) := by decide +kernel
theorem dX9_digest_96 : decode cX9_digest 96 = .ok (.iinc 3 1, 3) := by decide +kernel
theorem dX9_digest_99 : decode cX9_digest 99 = .ok (.goto (-23), 3) := by decide +kernel
theorem dX9_digest_102 : decode cX9_digest 102 = .ok (.iconst 0, 1) := by decide +kernel
theorem dX9_digest_103 : decode cX9_digest 103 = .ok (.istore_n 3, 1) := by decide +kernel
theorem dX9_digest_104 : decode cX9_digest 104 = .ok (.iload_n 3, 1) := by decide +kernel
theorem dX9_digest_105 : decode cX9_digest 105 = .ok (.iconst 3, 1) := by decide +kernel
theorem dX9_digest_106 : decode cX9_digest 106 = .ok (.if_icmp .ge 23, 3) := by decide +kernel
theorem dX9_digest_109 : decode cX9_digest 109 = .ok (.ldc2_w 159, 3) := by decide +kernel
theorem dX9_digest_112 : decode cX9_digest 112 = .ok (.lload_n 1, 1) := by decide +kernel
theorem dX9_digest_113 : decode cX9_digest 113 = .ok (.lmul, 1) := by decide +kernel
theorem dX9_digest_114 : decode cX9_digest 114 = .ok (.aload_n 0, 1) := by decide +kernel
theorem dX9_digest_115 : decode cX9_digest 115 = .ok (.getfield 82, 3) := by decide +kernel
theorem dX9_digest_118 : decode cX9_digest 118 = .ok (.iload_n 3, 1) := by decide +kernel
theorem dX9_digest_119 : decode cX9_digest 119 = .ok (.iaload, 1) := by decide +kernel
theorem dX9_digest_120 : decode cX9_digest 120 = .ok (.i2l, 1) := by decide +kernel
theorem dX9_digest_121 : decode cX9_digest 121 = .ok (.ladd, 1) := by decide +kernel
theorem dX9_digest_122 : decode cX9_digest 122 = .ok (.lstore_n 1, 1) := by decide +kernel
theorem dX9_digest_123 : decode cX9_digest 123 = .ok (.iinc 3 1, 3) := by decide +kernel
theorem dX9_digest_126 : decode cX9_digest 126 = .ok (.goto (-22), 3) := by decide +kernel
theorem dX9_digest_129 : decode cX9_digest 129 = .ok (.lload_n 1, 1) := by decide +kernel
theorem dX9_digest_130 : decode cX9_digest 130 = .ok (.lreturn, 1) := by decide +kernel
theorem dJ6_bitCount_0f7a4_0 : decode cJ6_bitCount_0f7a4 0 = .ok (.iload_n 0, 1) := by decide +kernel
theorem dJ6_bitCount_0f7a4_1 : decode cJ6_bitCount_0f7a4 1 = .ok (.iload_n 0, 1) := by decide +kernel
theorem dJ6_bitCount_0f7a4_2 : decode cJ6_bitCount_0f7a4 2 = .ok (.iconst 1, 1) := by decide +kernel
theorem dJ6_bitCount_0f7a4_3 : decode cJ6_bitCount_0f7a4 3 = .ok (.iushr, 1) := by decide +kernel
theorem dJ6_bitCount_0f7a4_4 : decode cJ6_bitCount_0f7a4 4 = .ok (.ldc_w 265, 3) := by decide +kernel
theorem dJ6_bitCount_0f7a4_7 : decode cJ6_bitCount_0f7a4 7 = .ok (.iand, 1) := by decide +kernel
theorem dJ6_bitCount_0f7a4_8 : decode cJ6_bitCount_0f7a4 8 = .ok (.isub, 1) := by decide +kernel
theorem dJ6_bitCount_0f7a4_9 : decode cJ6_bitCount_0f7a4 9 = .ok (.istore_n 0, 1) := by decide +kernel
theorem dJ6_bitCount_0f7a4_10 : decode cJ6_bitCount_0f7a4 10 = .ok (.iload_n 0, 1) := by decide +kernel
theorem dJ6_bitCount_0f7a4_11 : decode cJ6_bitCount_0f7a4 11 = .ok (.ldc_w 266, 3) := by decide +kernel
theorem dJ6_bitCount_0f7a4_14 : decode cJ6_bitCount_0f7a4 14 = .ok (.iand, 1) := by decide +kernel
theorem dJ6_bitCount_0f7a4_15 : decode cJ6_bitCount_0f7a4 15 = .ok (.iload_n 0, 1) := by decide +kernel
theorem dJ6_bitCount_0f7a4_16 : decode cJ6_bitCount_0f7a4 16 = .ok (.iconst 2, 1) := by decide +kernel
theorem dJ6_bitCount_0f7a4_17 : decode cJ6_bitCount_0f7a4 17 = .ok (.iushr, 1) := by decide +kernel
theorem dJ6_bitCount_0f7a4_18 : decode cJ6_bitCount_0f7a4 18 = .ok (.ldc_w 266, 3) := by decide +kernel
theorem dJ6_bitCount_0f7a4_21 : decode cJ6_bitCount_0f7a4 21 = .ok (.iand, 1) := by decide +kernel
theorem dJ6_bitCount_0f7a4_22 : decode cJ6_bitCount_0f7a4 22 = .ok (.iadd, 1) := by decide +kernel
theorem dJ6_bitCount_0f7a4_23 : decode cJ6_bitCount_0f7a4 23 = .ok (.istore_n 0, 1) := by decide +kernel
theorem dJ6_bitCount_0f7a4_24 : decode cJ6_bitCount_0f7a4 24 = .ok (.iload_n 0, 1) := by decide +kernel
theorem dJ6_bitCount_0f7a4_25 : decode cJ6_bitCount_0f7a4 25 = .ok (.iload_n 0, 1) := by decide +kernel
theorem dJ6_bitCount_0f7a4_26 : decode cJ6_bitCount_0f7a4 26 = .ok (.iconst 4, 1) := by decide +kernel
theorem dJ6_bitCount_0f7a4_27 : decode cJ6_bitCount_0f7a4 27 = .ok (.iushr, 1) := by decide +kernel
theorem dJ6_bitCount_0f7a4_28 : decode cJ6_bitCount_0f7a4 28 = .ok (.iadd, 1) := by decide +kernel
theorem dJ6_bitCount_0f7a4_29 : decode cJ6_bitCount_0f7a4 29 = .ok (.ldc_w 267, 3) := by decide +kernel
theorem dJ6_bitCount_0f7a4_32 : decode cJ6_bitCount_0f7a4 32 = .ok (.iand, 1) := by decide +kernel
theorem dJ6_bitCount_0f7a4_33 : decode cJ6_bitCount_0f7a4 33 = .ok (.istore_n 0, 1) := by decide +kernel
theorem dJ6_bitCount_0f7a4_34 : decode cJ6_bitCount_0f7a4 34 = .ok (.iload_n 0, 1) := by decide +kernel
theorem dJ6_bitCount_0f7a4_35 : decode cJ6_bitCount_0f7a4 35 = .ok (.iload_n 0, 1) := by decide +kernel
theorem dJ6_bitCount_0f7a4_36 : decode cJ6_bitCount_0f7a4 36 = .ok (.bipush 8, 2) := by decide +kernel
theorem dJ6_bitCount_0f7a4_38 : decode cJ6_bitCount_0f7a4 38 = .ok (.iushr, 1) := by decide +kernel
theorem dJ6_bitCount_0f7a4_39 : decode cJ6_bitCount_0f7a4 39 = .ok (.iadd, 1) := by decide +kernel
theorem dJ6_bitCount_0f7a4_40 : decode cJ6_bitCount_0f7a4 40 = .ok (.istore_n 0, 1) := by decide +kernel
theorem dJ6_bitCount_0f7a4_41 : decode cJ6_bitCount_0f7a4 41 = .ok (.iload_n 0, 1) := by decide +kernel
theorem dJ6_bitCount_0f7a4_42 : decode cJ6_bitCount_0f7a4 42 = .ok (.iload_n 0, 1) := by decide +kernel
theorem dJ6_bitCount_0f7a4_43 : decode cJ6_bitCount_0f7a4 43 = .ok (.bipush 16, 2) := by decide +kernel
theorem dJ6_bitCount_0f7a4_45 : decode cJ6_bitCount_0f7a4 45 = .ok (.iushr, 1) := by decide +kernel
theorem dJ6_bitCount_0f7a4_46 : decode cJ6_bitCount_0f7a4 46 = .ok (.iadd, 1) := by decide +kernel
theorem dJ6_bitCount_0f7a4_47 : decode cJ6_bitCount_0f7a4 47 = .ok (.istore_n 0, 1) := by decide +kernel
theorem dJ6_bitCount_0f7a4_48 : decode cJ6_bitCount_0f7a4 48 = .ok (.iload_n 0, 1) := by decide +kernel
theorem dJ6_bitCount_0f7a4_49 : decode cJ6_bitCount_0f7a4 49 = .ok (.bipush 63, 2) := by decide +kernel
theorem dJ6_bitCount_0f7a4_51 : decode cJ6_bitCount_0f7a4 51 = .ok (.iand, 1) := by decide +kernel
theorem dJ6_bitCount_0f7a4_52 : decode cJ6_bitCount_0f7a4 52 = .ok (.ireturn, 1) := by decide +kernel
theorem dJ9_max_7cf53_0 : decode cJ9_max_7cf53 0 = .ok (.iload_n 0, 1) := by decide +kernel
theorem dJ9_max_7cf53_1 : decode cJ9_max_7cf53 1 = .ok (.iload_n 1, 1) := by decide +kernel
theorem dJ9_max_7cf53_2 : decode cJ9_max_7cf53 2 = .ok (.if_icmp .lt 7, 3) := by decide +kernel
theorem dJ9_max_7cf53_5 : decode cJ9_max_7cf53 5 = .ok (.iload_n 0, 1) := by decide +kernel
theorem dJ9_max_7cf53_6 : decode cJ9_max_7cf53 6 = .ok (.goto 4, 3) := by decide +kernel
theorem dJ9_max_7cf53_9 : decode cJ9_max_7cf53 9 = .ok (.iload_n 1, 1) := by decide +kernel
theorem dJ9_max_7cf53_10 : decode cJ9_max_7cf53 10 = .ok (.ireturn, 1) := by decide +kernel
theorem dJ9_min_7cf53_0 : decode cJ9_min_7cf53 0 = .ok (.iload_n 0, 1) := by decide +kernel
theorem dJ9_min_7cf53_1 : decode cJ9_min_7cf53 1 = .ok (.iload_n 1, 1) := by decide +kernel
theorem dJ9_min_7cf53_2 : decode cJ9_min_7cf53 2 = .ok (.if_icmp .gt 7, 3) := by decide +kernel
theorem dJ9_min_7cf53_5 : decode cJ9_min_7cf53 5 = .ok (.iload_n 0, 1) := by decide +kernel
theorem dJ9_min_7cf53_6 : decode cJ9_min_7cf53 6 = .ok (.goto 4, 3) := by decide +kernel
theorem dJ9_min_7cf53_9 : decode cJ9_min_7cf53 9 = .ok (.iload_n 1, 1) := by decide +kernel
theorem dJ9_min_7cf53_10 : decode cJ9_min_7cf53 10 = .ok (.ireturn, 1) := by decide +kernel
theorem dL_law_0 : decode cL_law 0 = .ok (.new 7, 3) := by decide +kernel
theorem dL_law_3 : decode cL_law 3 = .ok (.dup, 1) := by decide +kernel
theorem dL_law_4 : decode cL_law 4 = .ok (.invokespecial 9, 3) := by decide +kernel
theorem dL_law_7 : decode cL_law 7 = .ok (.astore_n 1, 1) := by decide +kernel
theorem dL_law_8 : decode cL_law 8 = .ok (.new 10, 3) := by decide +kernel
theorem dL_law_11 : decode cL_law 11 = .ok (.dup, 1) := by decide +kernel
theorem dL_law_12 : decode cL_law 12 = .ok (.invokespecial 12, 3) := by decide +kernel
theorem dL_law_15 : decode cL_law 15 = .ok (.astore_n 2, 1) := by decide +kernel
theorem dL_law_16 : decode cL_law 16 = .ok (.iconst 0, 1) := by decide +kernel
theorem dL_law_17 : decode cL_law 17 = .ok (.istore_n 3, 1) := by decide +kernel
theorem dL_law_18 : decode cL_law 18 = .ok (.iload_n 3, 1) := by decide +kernel
theorem dL_law_19 : decode cL_law 19 = .ok (.aload_n 0, 1) := by decide +kernel
theorem dL_law_20 : decode cL_law 20 = .ok (.arraylength, 1) := by decide +kernel
theorem dL_law_21 : decode cL_law 21 = .ok (.bipush 7, 2) := by decide +kernel
theorem dL_law_23 : decode cL_law 23 = .ok (.isub, 1) := by decide +kernel
theorem dL_law_24 : decode cL_law 24 = .ok (.if_icmp .gt 1225, 3) := by decide +kernel
theorem dL_law_27 : decode cL_law 27 = .ok (.aload_n 0, 1) := by decide +kernel
theorem dL_law_28 : decode cL_law 28 = .ok (.iload_n 3, 1) := by decide +kernel
theorem dL_law_29 : decode cL_law 29 = .ok (.iaload, 1) := by decide +kernel
theorem dL_law_30 : decode cL_law 30 = .ok (.bipush 63, 2) := by decide +kernel
theorem dL_law_32 : decode cL_law 32 = .ok (.iand, 1) := by decide +kernel
theorem dL_law_33 : decode cL_law 33 = .ok (.tableswitch 1210 0 33 #[151, 226, 259, 302, 355, 388, 431, 444, 458, 482, 495, 549, 562, 586, 619, 642, 665, 708, 721, 754, 767, 780, 813, 846, 869, 892, 915, 958, 981, 1034, 1077, 1140, 1173, 1196], 151) := by decide +kernel
theorem dL_law_184 : decode cL_law 184 = .ok (.aload_n 1, 1) := by decide +kernel
theorem dL_law_185 : decode cL_law 185 = .ok (.aload_n 0, 1) := by decide +kernel
theorem dL_law_186 : decode cL_law 186 = .ok (.iload_n 3, 1) := by decide +kernel
theorem dL_law_187 : decode cL_law 187 = .ok (.iconst 1, 1) := by decide +kernel
theorem dL_law_188 : decode cL_law 188 = .ok (.iadd, 1) := by decide +kernel
theorem dL_law_189 : decode cL_law 189 = .ok (.iaload, 1) := by decide +kernel
theorem dL_law_190 : decode cL_law 190 = .ok (.aload_n 0, 1) := by decide +kernel
theorem dL_law_191 : decode cL_law 191 = .ok (.iload_n 3, 1) := by decide +kernel
theorem dL_law_192 : decode cL_law 192 = .ok (.iconst 2, 1) := by decide +kernel
theorem dL_law_193 : decode cL_law 193 = .ok (.iadd, 1) := by decide +kernel
theorem dL_law_194 : decode cL_law 194 = .ok (.iaload, 1) := by decide +kernel
theorem dL_law_195 : decode cL_law 195 = .ok (.aload_n 0, 1) := by decide +kernel
theorem dL_law_196 : decode cL_law 196 = .ok (.iload_n 3, 1) := by decide +kernel
theorem dL_law_197 : decode cL_law 197 = .ok (.iconst 3, 1) := by decide +kernel
theorem dL_law_198 : decode cL_law 198 = .ok (.iadd, 1) := by decide +kernel
theorem dL_law_199 : decode cL_law 199 = .ok (.iaload, 1) := by decide +kernel
theorem dL_law_200 : decode cL_law 200 = .ok (.aload_n 0, 1) := by decide +kernel
theorem dL_law_201 : decode cL_law 201 = .ok (.iload_n 3, 1) := by decide +kernel
theorem dL_law_202 : decode cL_law 202 = .ok (.iconst 4, 1) := by decide +kernel
theorem dL_law_203 : decode cL_law 203 = .ok (.iadd, 1) := by decide +kernel
theorem dL_law_204 : decode cL_law 204 = .ok (.iaload, 1) := by decide +kernel
theorem dL_law_205 : decode cL_law 205 = .ok (.aload_n 0, 1) := by decide +kernel
theorem dL_law_206 : decode cL_law 206 = .ok (.iload_n 3, 1) := by decide +kernel
theorem dL_law_207 : decode cL_law 207 = .ok (.iconst 5, 1) := by decide +kernel
theorem dL_law_208 : decode cL_law 208 = .ok (.iadd, 1) := by decide +kernel
theorem dL_law_209 : decode cL_law 209 = .ok (.iaload, 1) := by decide +kernel
theorem dL_law_210 : decode cL_law 210 = .ok (.aload_n 0, 1) := by decide +kernel
theorem dL_law_211 : decode cL_law 211 = .ok (.iload_n 3, 1) := by decide +kernel
theorem dL_law_212 : decode cL_law 212 = .ok (.bipush 6, 2) := by decide +kernel
theorem dL_law_214 : decode cL_law 214 = .ok (.iadd, 1) := by decide +kernel
theorem dL_law_215 : decode cL_law 215 = .ok (.iaload, 1) := by decide +kernel
theorem dL_law_216 : decode cL_law 216 = .ok (.invokevirtual 13, 3) := by decide +kernel
theorem dL_law_219 : decode cL_law 219 = .ok (.aload_n 2, 1) := by decide +kernel
theorem dL_law_220 : decode cL_law 220 = .ok (.aload_n 0, 1) := by decide +kernel
theorem dL_law_221 : decode cL_law 221 = .ok (.iload_n 3, 1) := by decide +kernel
theorem dL_law_222 : decode cL_law 222 = .ok (.iconst 1, 1) := by decide +kernel
theorem dL_law_223 : decode cL_law 223 = .ok (.iadd, 1) := by decide +kernel
theorem dL_law_224 : decode cL_law 224 = .ok (.iaload, 1) := by decide +kernel
theorem dL_law_225 : decode cL_law 225 = .ok (.aload_n 0, 1) := by decide +kernel
theorem dL_law_226 : decode cL_law 226 = .ok (.iload_n 3, 1) := by decide +kernel
theorem dL_law_227 : decode cL_law 227 = .ok (.iconst 2, 1) := by decide +kernel
theorem dL_law_228 : decode cL_law 228 = .ok (.iadd, 1) := by decide +kernel
theorem dL_law_229 : decode cL_law 229 = .ok (.iaload, 1) := by decide +kernel
theorem dL_law_230 : decode cL_law 230 = .ok (.aload_n 0, 1) := by decide +kernel
theorem dL_law_231 : decode cL_law 231 = .ok (.iload_n 3, 1) := by decide +kernel
theorem dL_law_232 : decode cL_law 232 = .ok (.iconst 3, 1) := by decide +kernel
theorem dL_law_233 : decode cL_law 233 = .ok (.iadd, 1) := by decide +kernel
theorem dL_law_234 : decode cL_law 234 = .ok (.iaload, 1) := by decide +kernel
theorem dL_law_235 : decode cL_law 235 = .ok (.aload_n 0, 1) := by decide +kernel
theorem dL_law_236 : decode cL_law 236 = .ok (.iload_n 3, 1) := by decide +kernel
theorem dL_law_237 : decode cL_law 237 = .ok (.iconst 4, 1) := by decide +kernel
theorem dL_law_238 : decode cL_law 238 = .ok (.iadd, 1) := by decide +kernel
theorem dL_law_239 : decode cL_law 239 = .ok (.iaload, 1) := by decide +kernel
theorem dL_law_240 : decode cL_law 240 = .ok (.aload_n 0, 1) := by decide +kernel
theorem dL_law_241 : decode cL_law 241 = .ok (.iload_n 3, 1) := by decide +kernel
theorem dL_law_242 : decode cL_law 242 = .ok (.iconst 5, 1) := by decide +kernel
theorem dL_law_243 : decode cL_law 243 = .ok (.iadd, 1) := by decide +kernel
theorem dL_law_244 : decode cL_law 244 = .ok (.iaload, 1) := by decide +kernel
theorem dL_law_245 : decode cL_law 245 = .ok (.aload_n 0, 1) := by decide +kernel
theorem dL_law_246 : decode cL_law 246 = .ok (.iload_n 3, 1) := by decide +kernel
theorem dL_law_247 : decode cL_law 247 = .ok (.bipush 6, 2) := by decide +kernel
theorem dL_law_249 : decode cL_law 249 = .ok (.iadd, 1) := by decide +kernel
theorem dL_law_250 : decode cL_law 250 = .ok (.iaload, 1) := by decide +kernel
theorem dL_law_251 : decode cL_law 251 = .ok (.invokevirtual 17, 3) := by decide +kernel
theorem dL_law_254 : decode cL_law 254 = .ok (.if_icmp .eq 989, 3) := by decide +kernel
theorem dL_law_257 : decode cL_law 257 = .ok (.iconst 0, 1) := by decide +kernel
theorem dL_law_258 : decode cL_law 258 = .ok (.ireturn, 1) := by decide +kernel
theorem dL_law_259 : decode cL_law 259 = .ok (.aload_n 1, 1) := by decide +kernel
theorem dL_law_260 : decode cL_law 260 = .ok (.aload_n 0, 1) := by decide +kernel
theorem dL_law_261 : decode cL_law 261 = .ok (.iload_n 3, 1) := by decide +kernel
theorem dL_law_262 : decode cL_law 262 = .ok (.iconst 1, 1) := by decide +kernel
theorem dL_law_263 : decode cL_law 263 = .ok (.iadd, 1) := by decide +kernel
theorem dL_law_264 : decode cL_law 264 = .ok (.iaload, 1) := by decide +kernel
theorem dL_law_265 : decode cL_law 265 = .ok (.aload_n 0, 1) := by decide +kernel
theorem dL_law_266 : decode cL_law 266 = .ok (.iload_n 3, 1) := by decide +kernel
theorem dL_law_267 : decode cL_law 267 = .ok (.iconst 2, 1) := by decide +kernel
theorem dL_law_268 : decode cL_law 268 = .ok (.iadd, 1) := by decide +kernel
theorem dL_law_269 : decode cL_law 269 = .ok (.iaload, 1) := by decide +kernel
theorem dL_law_270 : decode cL_law 270 = .ok (.invokevirtual 18, 3) := by decide +kernel
theorem dL_law_273 : decode cL_law 273 = .ok (.aload_n 2, 1) := by decide +kernel
theorem dL_law_274 : decode cL_law 274 = .ok (.aload_n 0, 1) := by decide +kernel
theorem dL_law_275 : decode cL_law 275 = .ok (.iload_n 3, 1) := by decide +kernel
theorem dL_law_276 : decode cL_law 276 = .ok (.iconst 1, 1) := by decide +kernel
theorem dL_law_277 : decode cL_law 277 = .ok (.iadd, 1) := by decide +kernel
theorem dL_law_278 : decode cL_law 278 = .ok (.iaload, 1) := by decide +kernel
theorem dL_law_279 : decode cL_law 279 = .ok (.aload_n 0, 1) := by decide +kernel
theorem dL_law_280 : decode cL_law 280 = .ok (.iload_n 3, 1) := by decide +kernel
theorem dL_law_281 : decode cL_law 281 = .ok (.iconst 2, 1) := by decide +kernel
theorem dL_law_282 : decode cL_law 282 = .ok (.iadd, 1) := by decide +kernel
theorem dL_law_283 : decode cL_law 283 = .ok (.iaload, 1) := by decide +kernel
theorem dL_law_284 : decode cL_law 284 = .ok (.invokevirtual 22, 3) := by decide +kernel
theorem dL_law_287 : decode cL_law 287 = .ok (.if_icmp .eq 956, 3) := by decide +kernel
theorem dL_law_290 : decode cL_law 290 = .ok (.iconst 0, 1) := by decide +kernel
theorem dL_law_291 : decode cL_law 291 = .ok (.ireturn, 1) := by decide +kernel
theorem dL_law_292 : decode cL_law 292 = .ok (.aload_n 1, 1) := by decide +kernel
theorem dL_law_293 : decode cL_law 293 = .ok (.aload_n 0, 1) := by decide +kernel
theorem dL_law_294 : decode cL_law 294 = .ok (.iload_n 3, 1) := by decide +kernel
theorem dL_law_295 : decode cL_law 295 = .ok (.iconst 1, 1) := by decide +kernel
theorem dL_law_296 : decode cL_law 296 = .ok (.iadd, 1) := by decide +kernel
theorem dL_law_297 : decode cL_law 297 = .ok (.iaload, 1) := by decide +kernel
theorem dL_law_298 : decode cL_law 298 = .ok (.aload_n 0, 1) := by decide +kernel
theorem dL_law_299 : decode cL_law 299 = .ok (.iload_n 3, 1) := by decide +kernel
theorem dL_law_300 : decode cL_law 300 = .ok (.iconst 2, 1) := by decide +kernel
theorem dL_law_301 : decode cL_law 301 = .ok (.iadd, 1) := by decide +kernel
theorem dL_law_302 : decode cL_law 302 = .ok (.iaload, 1) := by decide +kernel
theorem dL_law_303 : decode cL_law 303 = .ok (.aload_n 0, 1) := by decide +kernel
theorem dL_law_304 : decode cL_law 304 = .ok (.iload_n 3, 1) := by decide +kernel
theorem dL_law_305 : decode cL_law 305 = .ok (.iconst 3, 1) := by decide +kernel
theorem dL_law_306 : decode cL_law 306 = .ok (.iadd, 1) := by decide +kernel
theorem dL_law_307 : decode cL_law 307 = .ok (.iaload, 1) := by decide +kernel
theorem dL_law_308 : decode cL_law 308 = .ok (.invokevirtual 23, 3) := by decide +kernel
theorem dL_law_311 : decode cL_law 311 = .ok (.aload_n 2, 1) := by decide +kernel
theorem dL_law_312 : decode cL_law 312 = .ok (.aload_n 0, 1) := by decide +kernel
theorem dL_law_313 : decode cL_law 313 = .ok (.iload_n 3, 1) := by decide +kernel
theorem dL_law_314 : decode cL_law 314 = .ok (.iconst 1, 1) := by decide +kernel
theorem dL_law_315 : decode cL_law 315 = .ok (.iadd, 1) := by decide +kernel
theorem dL_law_316 : decode cL_law 316 = .ok (.iaload, 1) := by decide +kernel
theorem dL_law_317 : decode cL_law 317 = .ok (.aload_n 0, 1) := by decide +kernel
theorem dL_law_318 : decode cL_law 318 = .ok (.iload_n 3, 1) := by decide +kernel
theorem dL_law_319 : decode cL_law 319 = .ok (.iconst 2, 1) := by decide +kernel
theorem dL_law_320 : decode cL_law 320 = .ok (.iadd, 1) := by decide +kernel
theorem dL_law_321 : decode cL_law 321 = .ok (.iaload, 1) := by decide +kernel
theorem dL_law_322 : decode cL_law 322 = .ok (.aload_n 0, 1) := by decide +kernel
theorem dL_law_323 : decode cL_law 323 = .ok (.iload_n 3, 1) := by decide +kernel
theorem dL_law_324 : decode cL_law 324 = .ok (.iconst 3, 1) := by decide +kernel
theorem dL_law_325 : decode cL_law 325 = .ok (.iadd, 1) := by decide +kernel
theorem dL_law_326 : decode cL_law 326 = .ok (.iaload, 1) := by decide +kernel
theorem dL_law_327 : decode cL_law 327 = .ok (.invokevirtual 27, 3) := by decide +kernel
theorem dL_law_330 : decode cL_law 330 = .ok (.if_icmp .eq 913, 3) := by decide +kernel
theorem dL_law_333 : decode cL_law 333 = .ok (.iconst 0, 1) := by decide +kernel
theorem dL_law_334 : decode cL_law 334 = .ok (.ireturn, 1) := by decide +kernel
theorem dL_law_335 : decode cL_law 335 = .ok (.aload_n 1, 1) := by decide +kernel
theorem dL_law_336 : decode cL_law 336 = .ok (.aload_n 0, 1) := by decide +kernel
theorem dL_law_337 : decode cL_law 337 = .ok (.iload_n 3, 1) := by decide +kernel
theorem dL_law_338 : decode cL_law 338 = .ok (.iconst 1, 1) := by decide +kernel
theorem dL_law_339 : decode cL_law 339 = .ok (.iadd, 1) := by decide +kernel
theorem dL_law_340 : decode cL_law 340 = .ok (.iaload, 1) := by decide +kernel
theorem dL_law_341 : decode cL_law 341 = .ok (.aload_n 0, 1) := by decide +kernel
theorem dL_law_342 : decode cL_law 342 = .ok (.iload_n 3, 1) := by decide +kernel
theorem dL_law_343 : decode cL_law 343 = .ok (.iconst 2, 1) := by decide +kernel
theorem dL_law_344 : decode cL_law 344 = .ok (.iadd, 1) := by decide +kernel
theorem dL_law_345 : decode cL_law 345 = .ok (.iaload, 1) := by decide +kernel
theorem dL_law_346 : decode cL_law 346 = .ok (.aload_n 0, 1) := by decide +kernel
theorem dL_law_347 : decode cL_law 347 = .ok (.iload_n 3, 1) := by decide +kernel
theorem dL_law_348 : decode cL_law 348 = .ok (.iconst 3, 1) := by decide +kernel
theorem dL_law_349 : decode cL_law 349 = .ok (.iadd, 1) := by decide +kernel
theorem dL_law_350 : decode cL_law 350 = .ok (.iaload, 1) := by decide +kernel
theorem dL_law_351 : decode cL_law 351 = .ok (.aload_n 0, 1) := by decide +kernel
theorem dL_law_352 : decode cL_law 352 = .ok (.iload_n 3, 1) := by decide +kernel
theorem dL_law_353 : decode cL_law 353 = .ok (.iconst 4, 1) := by decide +kernel
theorem dL_law_354 : decode cL_law 354 = .ok (.iadd, 1) := by decide +kernel
theorem dL_law_355 : decode cL_law 355 = .ok (.iaload, 1) := by decide +kernel
theorem dL_law_356 : decode cL_law 356 = .ok (.invokevirtual 28, 3) := by decide +kernel
theorem dL_law_359 : decode cL_law 359 = .ok (.aload_n 2, 1) := by decide +kernel
theorem dL_law_360 : decode cL_law 360 = .ok (.aload_n 0, 1) := by decide +kernel
theorem dL_law_361 : decode cL_law 361 = .ok (.iload_n 3, 1) := by decide +kernel
theorem dL_law_362 : decode cL_law 362 = .ok (.iconst 1, 1) := by decide +kernel
theorem dL_law_363 : decode cL_law 363 = .ok (.iadd, 1) := by decide +kernel
theorem dL_law_364 : decode cL_law 364 = .ok (.iaload, 1) := by decide +kernel
theorem dL_law_365 : decode cL_law 365 = .ok (.aload_n 0, 1) := by decide +kernel
theorem dL_law_366 : decode cL_law 366 = .ok (.iload_n 3, 1) := by decide +kernel
theorem dL_law_367 : decode cL_law 367 = .ok (.iconst 2, 1) := by decide +kernel
theorem dL_law_368 : decode cL_law 368 = .ok (.iadd, 1) := by decide +kernel
theorem dL_law_369 : decode cL_law 369 = .ok (.iaload, 1) := by decide +kernel
theorem dL_law_370 : decode cL_law 370 = .ok (.aload_n 0, 1) := by decide +kernel
theorem dL_law_371 : decode cL_law 371 = .ok (.iload_n 3, 1) := by decide +kernel
theorem dL_law_372 : decode cL_law 372 = .ok (.iconst 3, 1) := by decide +kernel
theorem dL_law_373 : decode cL_law 373 = .ok (.iadd, 1) := by decide +kernel
theorem dL_law_374 : decode cL_law 374 = .ok (.iaload, 1) := by decide +kernel
theorem dL_law_375 : decode cL_law 375 = .ok (.aload_n 0, 1) := by decide +kernel
theorem dL_law_376 : decode cL_law 376 = .ok (.iload_n 3, 1) := by decide +kernel
theorem dL_law_377 : decode cL_law 377 = .ok (.iconst 4, 1) := by decide +kernel
theorem dL_law_378 : decode cL_law 378 = .ok (.iadd, 1) := by decide +kernel
theorem dL_law_379 : decode cL_law 379 = .ok (.iaload, 1) := by decide +kernel
theorem dL_law_380 : decode cL_law 380 = .ok (.invokevirtual 32, 3) := by decide +kernel
theorem dL_law_383 : decode cL_law 383 = .ok (.if_icmp .eq 860, 3) := by decide +kernel
theorem dL_law_386 : decode cL_law 386 = .ok (.iconst 0, 1) := by decide +kernel
theorem dL_law_387 : decode cL_law 387 = .ok (.ireturn, 1) := by decide +kernel
theorem dL_law_388 : decode cL_law 388 = .ok (.aload_n 1, 1) := by decide +kernel
theorem dL_law_389 : decode cL_law 389 = .ok (.aload_n 0, 1) := by decide +kernel
theorem dL_law_390 : decode cL_law 390 = .ok (.iload_n 3, 1) := by decide +kernel
theorem dL_law_391 : decode cL_law 391 = .ok (.iconst 1, 1) := by decide +kernel
theorem dL_law_392 : decode cL_law 392 = .ok (.iadd, 1) := by decide +kernel
theorem dL_law_393 : decode cL_law 393 = .ok (.iaload, 1) := by decide +kernel
theorem dL_law_394 : decode cL_law 394 = .ok (.aload_n 0, 1) := by decide +kernel
theorem dL_law_395 : decode cL_law 395 = .ok (.iload_n 3, 1) := by decide +kernel
theorem dL_law_396 : decode cL_law 396 = .ok (.iconst 2, 1) := by decide +kernel
theorem dL_law_397 : decode cL_law 397 = .ok (.iadd, 1) := by decide +kernel
theorem dL_law_398 : decode cL_law 398 = .ok (.iaload, 1) := by decide +kernel
theorem dL_law_399 : decode cL_law 399 = .ok (.invokevirtual 33, 3) := by decide +kernel
theorem dL_law_402 : decode cL_law 402 = .ok (.aload_n 2, 1) := by decide +kernel
theorem dL_law_403 : decode cL_law 403 = .ok (.aload_n 0, 1) := by decide +kernel
theorem dL_law_404 : decode cL_law 404 = .ok (.iload_n 3, 1) := by decide +kernel
theorem dL_law_405 : decode cL_law 405 = .ok (.iconst 1, 1) := by decide +kernel
theorem dL_law_406 : decode cL_law 406 = .ok (.iadd, 1) := by decide +kernel
theorem dL_law_407 : decode cL_law 407 = .ok (.iaload, 1) := by decide +kernel
theorem dL_law_408 : decode cL_law 408 = .ok (.aload_n 0, 1) := by decide +kernel
theorem dL_law_409 : decode cL_law 409 = .ok (.iload_n 3, 1) := by decide +kernel
theorem dL_law_410 : decode cL_law 410 = .ok (.iconst 2, 1) := by decide +kernel
theorem dL_law_411 : decode cL_law 411 = .ok (.iadd, 1) := by decide +kernel
theorem dL_law_412 : decode cL_law 412 = .ok (.iaload, 1) := by decide +kernel
theorem dL_law_413 : decode cL_law 413 = .ok (.invokevirtual 36, 3) := by decide +kernel
theorem dL_law_416 : decode cL_law 416 = .ok (.if_icmp .eq 827, 3) := by decide +kernel
theorem dL_law_419 : decode cL_law 419 = .ok (.iconst 0, 1) := by decide +kernel
theorem dL_law_420 : decode cL_law 420 = .ok (.ireturn, 1) := by decide +kernel
theorem dL_law_421 : decode cL_law 421 = .ok (.aload_n 1, 1) := by decide +kernel
theorem dL_law_422 : decode cL_law 422 = .ok (.aload_n 0, 1) := by decide +kernel
theorem dL_law_423 : decode cL_law 423 = .ok (.iload_n 3, 1) := by decide +kernel
theorem dL_law_424 : decode cL_law 424 = .ok (.iconst 1, 1) := by decide +kernel
theorem dL_law_425 : decode cL_law 425 = .ok (.iadd, 1) := by decide +kernel
theorem dL_law_426 : decode cL_law 426 = .ok (.iaload, 1) := by decide +kernel
theorem dL_law_427 : decode cL_law 427 = .ok (.aload_n 0, 1) := by decide +kernel
theorem dL_law_428 : decode cL_law 428 = .ok (.iload_n 3, 1) := by decide +kernel
theorem dL_law_429 : decode cL_law 429 = .ok (.iconst 2, 1) := by decide +kernel
theorem dL_law_430 : decode cL_law 430 = .ok (.iadd, 1) := by decide +kernel
theorem dL_law_431 : decode cL_law 431 = .ok (.iaload, 1) := by decide +kernel
theorem dL_law_432 : decode cL_law 432 = .ok (.aload_n 0, 1) := by decide +kernel
theorem dL_law_433 : decode cL_law 433 = .ok (.iload_n 3, 1) := by decide +kernel
theorem dL_law_434 : decode cL_law 434 = .ok (.iconst 3, 1) := by decide +kernel
theorem dL_law_435 : decode cL_law 435 = .ok (.iadd, 1) := by decide +kernel
theorem dL_law_436 : decode cL_law 436 = .ok (.iaload, 1) := by decide +kernel
theorem dL_law_437 : decode cL_law 437 = .ok (.invokevirtual 37, 3) := by decide +kernel
theorem dL_law_440 : decode cL_law 440 = .ok (.aload_n 2, 1) := by decide +kernel
theorem dL_law_441 : decode cL_law 441 = .ok (.aload_n 0, 1) := by decide +kernel
theorem dL_law_442 : decode cL_law 442 = .ok (.iload_n 3, 1) := by decide +kernel
theorem dL_law_443 : decode cL_law 443 = .ok (.iconst 1, 1) := by decide +kernel
theorem dL_law_444 : decode cL_law 444 = .ok (.iadd, 1) := by decide +kernel
theorem dL_law_445 : decode cL_law 445 = .ok (.iaload, 1) := by decide +kernel
theorem dL_law_446 : decode cL_law 446 = .ok (.aload_n 0, 1) := by decide +kernel
theorem dL_law_447 : decode cL_law 447 = .ok (.iload_n 3, 1) := by decide +kernel
theorem dL_law_448 : decode cL_law 448 = .ok (.iconst 2, 1) := by decide +kernel
theorem dL_law_449 : decode cL_law 449 = .ok (.iadd, 1) := by decide +kernel
theorem dL_law_450 : decode cL_law 450 = .ok (.iaload, 1) := by decide +kernel
theorem dL_law_451 : decode cL_law 451 = .ok (.aload_n 0, 1) := by decide +kernel
theorem dL_law_452 : decode cL_law 452 = .ok (.iload_n 3, 1) := by decide +kernel
theorem dL_law_453 : decode cL_law 453 = .ok (.iconst 3, 1) := by decide +kernel
theorem dL_law_454 : decode cL_law 454 = .ok (.iadd, 1) := by decide +kernel
theorem dL_law_455 : decode cL_law 455 = .ok (.iaload, 1) := by decide +kernel
theorem dL_law_456 : decode cL_law 456 = .ok (.invokevirtual 40, 3) := by decide +kernel
theorem dL_law_459 : decode cL_law 459 = .ok (.if_icmp .eq 784, 3) := by decide +kernel
theorem dL_law_462 : decode cL_law 462 = .ok (.iconst 0, 1) := by decide +kernel
theorem dL_law_463 : decode cL_law 463 = .ok (.ireturn, 1) := by decide +kernel
theorem dL_law_464 : decode cL_law 464 = .ok (.aload_n 1, 1) := by decide +kernel
theorem dL_law_465 : decode cL_law 465 = .ok (.invokevirtual 41, 3) := by decide +kernel
theorem dL_law_468 : decode cL_law 468 = .ok (.aload_n 2, 1) := by decide +kernel
theorem dL_law_469 : decode cL_law 469 = .ok (.invokevirtual 45, 3) := by decide +kernel
theorem dL_law_472 : decode cL_law 472 = .ok (.if_icmp .eq 771, 3) := by decide +kernel
theorem dL_law_475 : decode cL_law 475 = .ok (.iconst 0, 1) := by decide +kernel
theorem dL_law_476 : decode cL_law 476 = .ok (.ireturn, 1) := by decide +kernel
theorem dL_law_477 : decode cL_law 477 = .ok (.aload_n 1, 1) := by decide +kernel
theorem dL_law_478 : decode cL_law 478 = .ok (.invokevirtual 46, 3) := by decide +kernel
theorem dL_law_481 : decode cL_law 481 = .ok (.aload_n 2, 1) := by decide +kernel
theorem dL_law_482 : decode cL_law 482 = .ok (.invokevirtual 50, 3) := by decide +kernel
theorem dL_law_485 : decode cL_law 485 = .ok (.lcmp, 1) := by decide +kernel
theorem dL_law_486 : decode cL_law 486 = .ok (.ifCond .eq 757, 3) := by decide +kernel
theorem dL_law_489 : decode cL_law 489 = .ok (.iconst 0, 1) := by decide +kernel
theorem dL_law_490 : decode cL_law 490 = .ok (.ireturn, 1) := by decide +kernel
theorem dL_law_491 : decode cL_law 491 = .ok (.aload_n 1, 1) := by decide +kernel
theorem dL_law_492 : decode cL_law 492 = .ok (.aload_n 0, 1) := by decide +kernel
theorem dL_law_493 : decode cL_law 493 = .ok (.iload_n 3, 1) := by decide +kernel
theorem dL_law_494 : decode cL_law 494 = .ok (.iconst 1, 1) := by decide +kernel
theorem dL_law_495 : decode cL_law 495 = .ok (.iadd, 1) := by decide +kernel
theorem dL_law_496 : decode cL_law 496 = .ok (.iaload, 1) := by decide +kernel
theorem dL_law_497 : decode cL_law 497 = .ok (.invokevirtual 51, 3) := by decide +kernel
theorem dL_law_500 : decode cL_law 500 = .ok (.aload_n 2, 1) := by decide +kernel
theorem dL_law_501 : decode cL_law 501 = .ok (.aload_n 0, 1) := by decide +kernel
theorem dL_law_502 : decode cL_law 502 = .ok (.iload_n 3, 1) := by decide +kernel
theorem dL_law_503 : decode cL_law 503 = .ok (.iconst 1, 1) := by decide +kernel
theorem dL_law_504 : decode cL_law 504 = .ok (.iadd, 1) := by decide +kernel
theorem dL_law_505 : decode cL_law 505 = .ok (.iaload, 1) := by decide +kernel
theorem dL_law_506 : decode cL_law 506 = .ok (.invokevirtual 55, 3) := by decide +kernel
theorem dL_law_509 : decode cL_law 509 = .ok (.lcmp, 1) := by decide +kernel
theorem dL_law_510 : decode cL_law 510 = .ok (.ifCond .eq 733, 3) := by decide +kernel
theorem dL_law_513 : decode cL_law 513 = .ok (.iconst 0, 1) := by decide +kernel
theorem dL_law_514 : decode cL_law 514 = .ok (.ireturn, 1) := by decide +kernel
theorem dL_law_515 : decode cL_law 515 = .ok (.aload_n 1, 1) := by decide +kernel
theorem dL_law_516 : decode cL_law 516 = .ok (.invokevirtual 56, 3) := by decide +kernel
theorem dL_law_519 : decode cL_law 519 = .ok (.aload_n 2, 1) := by decide +kernel
theorem dL_law_520 : decode cL_law 520 = .ok (.invokevirtual 59, 3) := by decide +kernel
theorem dL_law_523 : decode cL_law 523 = .ok (.if_icmp .eq 720, 3) := by decide +kernel
theorem dL_law_526 : decode cL_law 526 = .ok (.iconst 0, 1) := by decide +kernel
theorem dL_law_527 : decode cL_law 527 = .ok (.ireturn, 1) := by decide +kernel
theorem dL_law_528 : decode cL_law 528 = .ok (.aload_n 1, 1) := by decide +kernel
theorem dL_law_529 : decode cL_law 529 = .ok (.aload_n 0, 1) := by decide +kernel
theorem dL_law_530 : decode cL_law 530 = .ok (.iload_n 3, 1) := by decide +kernel
theorem dL_law_531 : decode cL_law 531 = .ok (.iconst 1, 1) := by decide +kernel
theorem dL_law_532 : decode cL_law 532 = .ok (.iadd, 1) := by decide +kernel
theorem dL_law_533 : decode cL_law 533 = .ok (.iaload, 1) := by decide +kernel
theorem dL_law_534 : decode cL_law 534 = .ok (.aload_n 0, 1) := by decide +kernel
theorem dL_law_535 : decode cL_law 535 = .ok (.iload_n 3, 1) := by decide +kernel
theorem dL_law_536 : decode cL_law 536 = .ok (.iconst 2, 1) := by decide +kernel
theorem dL_law_537 : decode cL_law 537 = .ok (.iadd, 1) := by decide +kernel
theorem dL_law_538 : decode cL_law 538 = .ok (.iaload, 1) := by decide +kernel
theorem dL_law_539 : decode cL_law 539 = .ok (.aload_n 0, 1) := by decide +kernel
theorem dL_law_540 : decode cL_law 540 = .ok (.iload_n 3, 1) := by decide +kernel
theorem dL_law_541 : decode cL_law 541 = .ok (.iconst 3, 1) := by decide +kernel
theorem dL_law_542 : decode cL_law 542 = .ok (.iadd, 1) := by decide +kernel
theorem dL_law_543 : decode cL_law 543 = .ok (.iaload, 1) := by decide +kernel
theorem dL_law_544 : decode cL_law 544 = .ok (.aload_n 0, 1) := by decide +kernel
theorem dL_law_545 : decode cL_law 545 = .ok (.iload_n 3, 1) := by decide +kernel
theorem dL_law_546 : decode cL_law 546 = .ok (.iconst 4, 1) := by decide +kernel
theorem dL_law_547 : decode cL_law 547 = .ok (.iadd, 1) := by decide +kernel
theorem dL_law_548 : decode cL_law 548 = .ok (.iaload, 1) := by decide +kernel
theorem dL_law_549 : decode cL_law 549 = .ok (.invokevirtual 60, 3) := by decide +kernel
theorem dL_law_552 : decode cL_law 552 = .ok (.aload_n 2, 1) := by decide +kernel
theorem dL_law_553 : decode cL_law 553 = .ok (.aload_n 0, 1) := by decide +kernel
theorem dL_law_554 : decode cL_law 554 = .ok (.iload_n 3, 1) := by decide +kernel
theorem dL_law_555 : decode cL_law 555 = .ok (.iconst 1, 1) := by decide +kernel
theorem dL_law_556 : decode cL_law 556 = .ok (.iadd, 1) := by decide +kernel
theorem dL_law_557 : decode cL_law 557 = .ok (.iaload, 1) := by decide +kernel
theorem dL_law_558 : decode cL_law 558 = .ok (.aload_n 0, 1) := by decide +kernel
theorem dL_law_559 : decode cL_law 559 = .ok (.iload_n 3, 1) := by decide +kernel
theorem dL_law_560 : decode cL_law 560 = .ok (.iconst 2, 1) := by decide +kernel
theorem dL_law_561 : decode cL_law 561 = .ok (.iadd, 1) := by decide +kernel
theorem dL_law_562 : decode cL_law 562 = .ok (.iaload, 1) := by decide +kernel
theorem dL_law_563 : decode cL_law 563 = .ok (.aload_n 0, 1) := by decide +kernel
theorem dL_law_564 : decode cL_law 564 = .ok (.iload_n 3, 1) := by decide +kernel
theorem dL_law_565 : decode cL_law 565 = .ok (.iconst 3, 1) := by decide +kernel
theorem dL_law_566 : decode cL_law 566 = .ok (.iadd, 1) := by decide +kernel
theorem dL_law_567 : decode cL_law 567 = .ok (.iaload, 1) := by decide +kernel
theorem dL_law_568 : decode cL_law 568 = .ok (.aload_n 0, 1) := by decide +kernel
theorem dL_law_569 : decode cL_law 569 = .ok (.iload_n 3, 1) := by decide +kernel
theorem dL_law_570 : decode cL_law 570 = .ok (.iconst 4, 1) := by decide +kernel
theorem dL_law_571 : decode cL_law 571 = .ok (.iadd, 1) := by decide +kernel
theorem dL_law_572 : decode cL_law 572 = .ok (.iaload, 1) := by decide +kernel
theorem dL_law_573 : decode cL_law 573 = .ok (.invokevirtual 64, 3) := by decide +kernel
theorem dL_law_576 : decode cL_law 576 = .ok (.lcmp, 1) := by decide +kernel
theorem dL_law_577 : decode cL_law 577 = .ok (.ifCond .eq 666, 3) := by decide +kernel
theorem dL_law_580 : decode cL_law 580 = .ok (.iconst 0, 1) := by decide +kernel
theorem dL_law_581 : decode cL_law 581 = .ok (.ireturn, 1) := by decide +kernel
theorem dL_law_582 : decode cL_law 582 = .ok (.aload_n 1, 1) := by decide +kernel
theorem dL_law_583 : decode cL_law 583 = .ok (.invokevirtual 65, 3) := by decide +kernel
theorem dL_law_586 : decode cL_law 586 = .ok (.aload_n 2, 1) := by decide +kernel
theorem dL_law_587 : decode cL_law 587 = .ok (.invokevirtual 68, 3) := by decide +kernel
theorem dL_law_590 : decode cL_law 590 = .ok (.if_icmp .eq 653, 3) := by decide +kernel
theorem dL_law_593 : decode cL_law 593 = .ok (.iconst 0, 1) := by decide +kernel
theorem dL_law_594 : decode cL_law 594 = .ok (.ireturn, 1) := by decide +kernel
theorem dL_law_595 : decode cL_law 595 = .ok (.aload_n 1, 1) := by decide +kernel
theorem dL_law_596 : decode cL_law 596 = .ok (.aload_n 0, 1) := by decide +kernel
theorem dL_law_597 : decode cL_law 597 = .ok (.iload_n 3, 1) := by decide +kernel
theorem dL_law_598 : decode cL_law 598 = .ok (.iconst 1, 1) := by decide +kernel
theorem dL_law_599 : decode cL_law 599 = .ok (.iadd, 1) := by decide +kernel
theorem dL_law_600 : decode cL_law 600 = .ok (.iaload, 1) := by decide +kernel
theorem dL_law_601 : decode cL_law 601 = .ok (.invokevirtual 69, 3) := by decide +kernel
theorem dL_law_604 : decode cL_law 604 = .ok (.aload_n 2, 1) := by decide +kernel
theorem dL_law_605 : decode cL_law 605 = .ok (.aload_n 0, 1) := by decide +kernel
theorem dL_law_606 : decode cL_law 606 = .ok (.iload_n 3, 1) := by decide +kernel
theorem dL_law_607 : decode cL_law 607 = .ok (.iconst 1, 1) := by decide +kernel
theorem dL_law_608 : decode cL_law 608 = .ok (.iadd, 1) := by decide +kernel
theorem dL_law_609 : decode cL_law 609 = .ok (.iaload, 1) := by decide +kernel
theorem dL_law_610 : decode cL_law 610 = .ok (.invokevirtual 72, 3) := by decide +kernel
theorem dL_law_613 : decode cL_law 613 = .ok (.lcmp, 1) := by decide +kernel
theorem dL_law_614 : decode cL_law 614 = .ok (.ifCond .eq 629, 3) := by decide +kernel
theorem dL_law_617 : decode cL_law 617 = .ok (.iconst 0, 1) := by decide +kernel
theorem dL_law_618 : decode cL_law 618 = .ok (.ireturn, 1) := by decide +kernel
theorem dL_law_619 : decode cL_law 619 = .ok (.aload_n 1, 1) := by decide +kernel
theorem dL_law_620 : decode cL_law 620 = .ok (.aload_n 0, 1) := by decide +kernel
theorem dL_law_621 : decode cL_law 621 = .ok (.iload_n 3, 1) := by decide +kernel
theorem dL_law_622 : decode cL_law 622 = .ok (.iconst 1, 1) := by decide +kernel
theorem dL_law_623 : decode cL_law 623 = .ok (.iadd, 1) := by decide +kernel
theorem dL_law_624 : decode cL_law 624 = .ok (.iaload, 1) := by decide +kernel
theorem dL_law_625 : decode cL_law 625 = .ok (.aload_n 0, 1) := by decide +kernel
theorem dL_law_626 : decode cL_law 626 = .ok (.iload_n 3, 1) := by decide +kernel
theorem dL_law_627 : decode cL_law 627 = .ok (.iconst 2, 1) := by decide +kernel
theorem dL_law_628 : decode cL_law 628 = .ok (.iadd, 1) := by decide +kernel
theorem dL_law_629 : decode cL_law 629 = .ok (.iaload, 1) := by decide +kernel
theorem dL_law_630 : decode cL_law 630 = .ok (.invokevirtual 73, 3) := by decide +kernel
theorem dL_law_633 : decode cL_law 633 = .ok (.aload_n 2, 1) := by decide +kernel
theorem dL_law_634 : decode cL_law 634 = .ok (.aload_n 0, 1) := by decide +kernel
theorem dL_law_635 : decode cL_law 635 = .ok (.iload_n 3, 1) := by decide +kernel
theorem dL_law_636 : decode cL_law 636 = .ok (.iconst 1, 1) := by decide +kernel
theorem dL_law_637 : decode cL_law 637 = .ok (.iadd, 1) := by decide +kernel
theorem dL_law_638 : decode cL_law 638 = .ok (.iaload, 1) := by decide +kernel
theorem dL_law_639 : decode cL_law 639 = .ok (.aload_n 0, 1) := by decide +kernel
theorem dL_law_640 : decode cL_law 640 = .ok (.iload_n 3, 1) := by decide +kernel
theorem dL_law_641 : decode cL_law 641 = .ok (.iconst 2, 1) := by decide +kernel
theorem dL_law_642 : decode cL_law 642 = .ok (.iadd, 1) := by decide +kernel
theorem dL_law_643 : decode cL_law 643 = .ok (.iaload, 1) := by decide +kernel
theorem dL_law_644 : decode cL_law 644 = .ok (.invokevirtual 76, 3) := by decide +kernel
theorem dL_law_647 : decode cL_law 647 = .ok (.if_icmp .eq 596, 3) := by decide +kernel
theorem dL_law_650 : decode cL_law 650 = .ok (.iconst 0, 1) := by decide +kernel
theorem dL_law_651 : decode cL_law 651 = .ok (.ireturn, 1) := by decide +kernel
theorem dL_law_652 : decode cL_law 652 = .ok (.aload_n 1, 1) := by decide +kernel
theorem dL_law_653 : decode cL_law 653 = .ok (.aload_n 0, 1) := by decide +kernel
theorem dL_law_654 : decode cL_law 654 = .ok (.iload_n 3, 1) := by decide +kernel
theorem dL_law_655 : decode cL_law 655 = .ok (.iconst 1, 1) := by decide +kernel
theorem dL_law_656 : decode cL_law 656 = .ok (.iadd, 1) := by decide +kernel
theorem dL_law_657 : decode cL_law 657 = .ok (.iaload, 1) := by decide +kernel
theorem dL_law_658 : decode cL_law 658 = .ok (.invokevirtual 77, 3) := by decide +kernel
theorem dL_law_661 : decode cL_law 661 = .ok (.aload_n 2, 1) := by decide +kernel
theorem dL_law_662 : decode cL_law 662 = .ok (.aload_n 0, 1) := by decide +kernel
theorem dL_law_663 : decode cL_law 663 = .ok (.iload_n 3, 1) := by decide +kernel
theorem dL_law_664 : decode cL_law 664 = .ok (.iconst 1, 1) := by decide +kernel
theorem dL_law_665 : decode cL_law 665 = .ok (.iadd, 1) := by decide +kernel
theorem dL_law_666 : decode cL_law 666 = .ok (.iaload, 1) := by decide +kernel
theorem dL_law_667 : decode cL_law 667 = .ok (.invokevirtual 81, 3) := by decide +kernel
theorem dL_law_670 : decode cL_law 670 = .ok (.if_icmp .eq 573, 3) := by decide +kernel
theorem dL_law_673 : decode cL_law 673 = .ok (.iconst 0, 1) := by decide +kernel
theorem dL_law_674 : decode cL_law 674 = .ok (.ireturn, 1) := by decide +kernel
theorem dL_law_675 : decode cL_law 675 = .ok (.aload_n 1, 1) := by decide +kernel
theorem dL_law_676 : decode cL_law 676 = .ok (.aload_n 0, 1) := by decide +kernel
theorem dL_law_677 : decode cL_law 677 = .ok (.iload_n 3, 1) := by decide +kernel
theorem dL_law_678 : decode cL_law 678 = .ok (.iconst 1, 1) := by decide +kernel
theorem dL_law_679 : decode cL_law 679 = .ok (.iadd, 1) := by decide +kernel
theorem dL_law_680 : decode cL_law 680 = .ok (.iaload, 1) := by decide +kernel
theorem dL_law_681 : decode cL_law 681 = .ok (.invokevirtual 82, 3) := by decide +kernel
theorem dL_law_684 : decode cL_law 684 = .ok (.aload_n 2, 1) := by decide +kernel
theorem dL_law_685 : decode cL_law 685 = .ok (.aload_n 0, 1) := by decide +kernel
theorem dL_law_686 : decode cL_law 686 = .ok (.iload_n 3, 1) := by decide +kernel
theorem dL_law_687 : decode cL_law 687 = .ok (.iconst 1, 1) := by decide +kernel
theorem dL_law_688 : decode cL_law 688 = .ok (.iadd, 1) := by decide +kernel
theorem dL_law_689 : decode cL_law 689 = .ok (.iaload, 1) := by decide +kernel
theorem dL_law_690 : decode cL_law 690 = .ok (.invokevirtual 85, 3) := by decide +kernel
theorem dL_law_693 : decode cL_law 693 = .ok (.if_icmp .eq 550, 3) := by decide +kernel
theorem dL_law_696 : decode cL_law 696 = .ok (.iconst 0, 1) := by decide +kernel
theorem dL_law_697 : decode cL_law 697 = .ok (.ireturn, 1) := by decide +kernel
theorem dL_law_698 : decode cL_law 698 = .ok (.aload_n 1, 1) := by decide +kernel
theorem dL_law_699 : decode cL_law 699 = .ok (.aload_n 0, 1) := by decide +kernel
theorem dL_law_700 : decode cL_law 700 = .ok (.iload_n 3, 1) := by decide +kernel
theorem dL_law_701 : decode cL_law 701 = .ok (.iconst 1, 1) := by decide +kernel
theorem dL_law_702 : decode cL_law 702 = .ok (.iadd, 1) := by decide +kernel
theorem dL_law_703 : decode cL_law 703 = .ok (.iaload, 1) := by decide +kernel
theorem dL_law_704 : decode cL_law 704 = .ok (.aload_n 0, 1) := by decide +kernel
theorem dL_law_705 : decode cL_law 705 = .ok (.iload_n 3, 1) := by decide +kernel
theorem dL_law_706 : decode cL_law 706 = .ok (.iconst 2, 1) := by decide +kernel
theorem dL_law_707 : decode cL_law 707 = .ok (.iadd, 1) := by decide +kernel
theorem dL_law_708 : decode cL_law 708 = .ok (.iaload, 1) := by decide +kernel
theorem dL_law_709 : decode cL_law 709 = .ok (.aload_n 0, 1) := by decide +kernel
theorem dL_law_710 : decode cL_law 710 = .ok (.iload_n 3, 1) := by decide +kernel
theorem dL_law_711 : decode cL_law 711 = .ok (.iconst 3, 1) := by decide +kernel
theorem dL_law_712 : decode cL_law 712 = .ok (.iadd, 1) := by decide +kernel
theorem dL_law_713 : decode cL_law 713 = .ok (.iaload, 1) := by decide +kernel
theorem dL_law_714 : decode cL_law 714 = .ok (.invokevirtual 86, 3) := by decide +kernel
theorem dL_law_717 : decode cL_law 717 = .ok (.aload_n 2, 1) := by decide +kernel
theorem dL_law_718 : decode cL_law 718 = .ok (.aload_n 0, 1) := by decide +kernel
theorem dL_law_719 : decode cL_law 719 = .ok (.iload_n 3, 1) := by decide +kernel
theorem dL_law_720 : decode cL_law 720 = .ok (.iconst 1, 1) := by decide +kernel
theorem dL_law_721 : decode cL_law 721 = .ok (.iadd, 1) := by decide +kernel
theorem dL_law_722 : decode cL_law 722 = .ok (.iaload, 1) := by decide +kernel
theorem dL_law_723 : decode cL_law 723 = .ok (.aload_n 0, 1) := by decide +kernel
theorem dL_law_724 : decode cL_law 724 = .ok (.iload_n 3, 1) := by decide +kernel
theorem dL_law_725 : decode cL_law 725 = .ok (.iconst 2, 1) := by decide +kernel
theorem dL_law_726 : decode cL_law 726 = .ok (.iadd, 1) := by decide +kernel
theorem dL_law_727 : decode cL_law 727 = .ok (.iaload, 1) := by decide +kernel
theorem dL_law_728 : decode cL_law 728 = .ok (.aload_n 0, 1) := by decide +kernel
theorem dL_law_729 : decode cL_law 729 = .ok (.iload_n 3, 1) := by decide +kernel
theorem dL_law_730 : decode cL_law 730 = .ok (.iconst 3, 1) := by decide +kernel
theorem dL_law_731 : decode cL_law 731 = .ok (.iadd, 1) := by decide +kernel
theorem dL_law_732 : decode cL_law 732 = .ok (.iaload, 1) := by decide +kernel
theorem dL_law_733 : decode cL_law 733 = .ok (.invokevirtual 89, 3) := by decide +kernel
theorem dL_law_736 : decode cL_law 736 = .ok (.if_icmp .eq 507, 3) := by decide +kernel
theorem dL_law_739 : decode cL_law 739 = .ok (.iconst 0, 1) := by decide +kernel
theorem dL_law_740 : decode cL_law 740 = .ok (.ireturn, 1) := by decide +kernel
theorem dL_law_741 : decode cL_law 741 = .ok (.aload_n 1, 1) := by decide +kernel
theorem dL_law_742 : decode cL_law 742 = .ok (.invokevirtual 90, 3) := by decide +kernel
theorem dL_law_745 : decode cL_law 745 = .ok (.aload_n 2, 1) := by decide +kernel
theorem dL_law_746 : decode cL_law 746 = .ok (.invokevirtual 93, 3) := by decide +kernel
theorem dL_law_749 : decode cL_law 749 = .ok (.if_icmp .eq 494, 3) := by decide +kernel
theorem dL_law_752 : decode cL_law 752 = .ok (.iconst 0, 1) := by decide +kernel
theorem dL_law_753 : decode cL_law 753 = .ok (.ireturn, 1) := by decide +kernel
theorem dL_law_754 : decode cL_law 754 = .ok (.aload_n 1, 1) := by decide +kernel
theorem dL_law_755 : decode cL_law 755 = .ok (.aload_n 0, 1) := by decide +kernel
theorem dL_law_756 : decode cL_law 756 = .ok (.iload_n 3, 1) := by decide +kernel
theorem dL_law_757 : decode cL_law 757 = .ok (.iconst 1, 1) := by decide +kernel
theorem dL_law_758 : decode cL_law 758 = .ok (.iadd, 1) := by decide +kernel
theorem dL_law_759 : decode cL_law 759 = .ok (.iaload, 1) := by decide +kernel
theorem dL_law_760 : decode cL_law 760 = .ok (.aload_n 0, 1) := by decide +kernel
theorem dL_law_761 : decode cL_law 761 = .ok (.iload_n 3, 1) := by decide +kernel
theorem dL_law_762 : decode cL_law 762 = .ok (.iconst 2, 1) := by decide +kernel
theorem dL_law_763 : decode cL_law 763 = .ok (.iadd, 1) := by decide +kernel
theorem dL_law_764 : decode cL_law 764 = .ok (.iaload, 1) := by decide +kernel
theorem dL_law_765 : decode cL_law 765 = .ok (.invokevirtual 94, 3) := by decide +kernel
theorem dL_law_768 : decode cL_law 768 = .ok (.aload_n 2, 1) := by decide +kernel
theorem dL_law_769 : decode cL_law 769 = .ok (.aload_n 0, 1) := by decide +kernel
theorem dL_law_770 : decode cL_law 770 = .ok (.iload_n 3, 1) := by decide +kernel
theorem dL_law_771 : decode cL_law 771 = .ok (.iconst 1, 1) := by decide +kernel
theorem dL_law_772 : decode cL_law 772 = .ok (.iadd, 1) := by decide +kernel
theorem dL_law_773 : decode cL_law 773 = .ok (.iaload, 1) := by decide +kernel
theorem dL_law_774 : decode cL_law 774 = .ok (.aload_n 0, 1) := by decide +kernel
theorem dL_law_775 : decode cL_law 775 = .ok (.iload_n 3, 1) := by decide +kernel
theorem dL_law_776 : decode cL_law 776 = .ok (.iconst 2, 1) := by decide +kernel
theorem dL_law_777 : decode cL_law 777 = .ok (.iadd, 1) := by decide +kernel
theorem dL_law_778 : decode cL_law 778 = .ok (.iaload, 1) := by decide +kernel
theorem dL_law_779 : decode cL_law 779 = .ok (.invokevirtual 97, 3) := by decide +kernel
theorem dL_law_782 : decode cL_law 782 = .ok (.if_icmp .eq 461, 3) := by decide +kernel
theorem dL_law_785 : decode cL_law 785 = .ok (.iconst 0, 1) := by decide +kernel
theorem dL_law_786 : decode cL_law 786 = .ok (.ireturn, 1) := by decide +kernel
theorem dL_law_787 : decode cL_law 787 = .ok (.aload_n 1, 1) := by decide +kernel
theorem dL_law_788 : decode cL_law 788 = .ok (.invokevirtual 98, 3) := by decide +kernel
theorem dL_law_791 : decode cL_law 791 = .ok (.aload_n 2, 1) := by decide +kernel
theorem dL_law_792 : decode cL_law 792 = .ok (.invokevirtual 101, 3) := by decide +kernel
theorem dL_law_795 : decode cL_law 795 = .ok (.if_icmp .eq 448, 3) := by decide +kernel
theorem dL_law_798 : decode cL_law 798 = .ok (.iconst 0, 1) := by decide +kernel
theorem dL_law_799 : decode cL_law 799 = .ok (.ireturn, 1) := by decide +kernel
theorem dL_law_800 : decode cL_law 800 = .ok (.aload_n 1, 1) := by decide +kernel
theorem dL_law_801 : decode cL_law 801 = .ok (.invokevirtual 102, 3) := by decide +kernel
theorem dL_law_804 : decode cL_law 804 = .ok (.aload_n 2, 1) := by decide +kernel
theorem dL_law_805 : decode cL_law 805 = .ok (.invokevirtual 105, 3) := by decide +kernel
theorem dL_law_808 : decode cL_law 808 = .ok (.if_icmp .eq 435, 3) := by decide +kernel
theorem dL_law_811 : decode cL_law 811 = .ok (.iconst 0, 1) := by decide +kernel
theorem dL_law_812 : decode cL_law 812 = .ok (.ireturn, 1) := by decide +kernel
theorem dL_law_813 : decode cL_law 813 = .ok (.aload_n 1, 1) := by decide +kernel
theorem dL_law_814 : decode cL_law 814 = .ok (.aload_n 0, 1) := by decide +kernel
theorem dL_law_815 : decode cL_law 815 = .ok (.iload_n 3, 1) := by decide +kernel
theorem dL_law_816 : decode cL_law 816 = .ok (.iconst 1, 1) := by decide +kernel
theorem dL_law_817 : decode cL_law 817 = .ok (.iadd, 1) := by decide +kernel
theorem dL_law_818 : decode cL_law 818 = .ok (.iaload, 1) := by decide +kernel
theorem dL_law_819 : decode cL_law 819 = .ok (.aload_n 0, 1) := by decide +kernel
theorem dL_law_820 : decode cL_law 820 = .ok (.iload_n 3, 1) := by decide +kernel
theorem dL_law_821 : decode cL_law 821 = .ok (.iconst 2, 1) := by decide +kernel
theorem dL_law_822 : decode cL_law 822 = .ok (.iadd, 1) := by decide +kernel
theorem dL_law_823 : decode cL_law 823 = .ok (.iaload, 1) := by decide +kernel
theorem dL_law_824 : decode cL_law 824 = .ok (.invokevirtual 106, 3) := by decide +kernel
theorem dL_law_827 : decode cL_law 827 = .ok (.aload_n 2, 1) := by decide +kernel
theorem dL_law_828 : decode cL_law 828 = .ok (.aload_n 0, 1) := by decide +kernel
theorem dL_law_829 : decode cL_law 829 = .ok (.iload_n 3, 1) := by decide +kernel
theorem dL_law_830 : decode cL_law 830 = .ok (.iconst 1, 1) := by decide +kernel
theorem dL_law_831 : decode cL_law 831 = .ok (.iadd, 1) := by decide +kernel
theorem dL_law_832 : decode cL_law 832 = .ok (.iaload, 1) := by decide +kernel
theorem dL_law_833 : decode cL_law 833 = .ok (.aload_n 0, 1) := by decide +kernel
theorem dL_law_834 : decode cL_law 834 = .ok (.iload_n 3, 1) := by decide +kernel
theorem dL_law_835 : decode cL_law 835 = .ok (.iconst 2, 1) := by decide +kernel
theorem dL_law_836 : decode cL_law 836 = .ok (.iadd, 1) := by decide +kernel
theorem dL_law_837 : decode cL_law 837 = .ok (.iaload, 1) := by decide +kernel
theorem dL_law_838 : decode cL_law 838 = .ok (.invokevirtual 109, 3) := by decide +kernel
theorem dL_law_841 : decode cL_law 841 = .ok (.if_icmp .eq 402, 3) := by decide +kernel
theorem dL_law_844 : decode cL_law 844 = .ok (.iconst 0, 1) := by decide +kernel
theorem dL_law_845 : decode cL_law 845 = .ok (.ireturn, 1) := by decide +kernel
theorem dL_law_846 : decode cL_law 846 = .ok (.aload_n 1, 1) := by decide +kernel
theorem dL_law_847 : decode cL_law 847 = .ok (.aload_n 0, 1) := by decide +kernel
theorem dL_law_848 : decode cL_law 848 = .ok (.iload_n 3, 1) := by decide +kernel
theorem dL_law_849 : decode cL_law 849 = .ok (.iconst 1, 1) := by decide +kernel
theorem dL_law_850 : decode cL_law 850 = .ok (.iadd, 1) := by decide +kernel
theorem dL_law_851 : decode cL_law 851 = .ok (.iaload, 1) := by decide +kernel
theorem dL_law_852 : decode cL_law 852 = .ok (.aload_n 0, 1) := by decide +kernel
theorem dL_law_853 : decode cL_law 853 = .ok (.iload_n 3, 1) := by decide +kernel
theorem dL_law_854 : decode cL_law 854 = .ok (.iconst 2, 1) := by decide +kernel
theorem dL_law_855 : decode cL_law 855 = .ok (.iadd, 1) := by decide +kernel
theorem dL_law_856 : decode cL_law 856 = .ok (.iaload, 1) := by decide +kernel
theorem dL_law_857 : decode cL_law 857 = .ok (.invokevirtual 110, 3) := by decide +kernel
theorem dL_law_860 : decode cL_law 860 = .ok (.aload_n 2, 1) := by decide +kernel
theorem dL_law_861 : decode cL_law 861 = .ok (.aload_n 0, 1) := by decide +kernel
theorem dL_law_862 : decode cL_law 862 = .ok (.iload_n 3, 1) := by decide +kernel
theorem dL_law_863 : decode cL_law 863 = .ok (.iconst 1, 1) := by decide +kernel
theorem dL_law_864 : decode cL_law 864 = .ok (.iadd, 1) := by decide +kernel
theorem dL_law_865 : decode cL_law 865 = .ok (.iaload, 1) := by decide +kernel
theorem dL_law_866 : decode cL_law 866 = .ok (.aload_n 0, 1) := by decide +kernel
theorem dL_law_867 : decode cL_law 867 = .ok (.iload_n 3, 1) := by decide +kernel
theorem dL_law_868 : decode cL_law 868 = .ok (.iconst 2, 1) := by decide +kernel
theorem dL_law_869 : decode cL_law 869 = .ok (.iadd, 1) := by decide +kernel
theorem dL_law_870 : decode cL_law 870 = .ok (.iaload, 1) := by decide +kernel
theorem dL_law_871 : decode cL_law 871 = .ok (.invokevirtual 113, 3) := by decide +kernel
theorem dL_law_874 : decode cL_law 874 = .ok (.if_icmp .eq 369, 3) := by decide +kernel
theorem dL_law_877 : decode cL_law 877 = .ok (.iconst 0, 1) := by decide +kernel
theorem dL_law_878 : decode cL_law 878 = .ok (.ireturn, 1) := by decide +kernel
theorem dL_law_879 : decode cL_law 879 = .ok (.aload_n 1, 1) := by decide +kernel
theorem dL_law_880 : decode cL_law 880 = .ok (.aload_n 0, 1) := by decide +kernel
theorem dL_law_881 : decode cL_law 881 = .ok (.iload_n 3, 1) := by decide +kernel
theorem dL_law_882 : decode cL_law 882 = .ok (.iconst 1, 1) := by decide +kernel
theorem dL_law_883 : decode cL_law 883 = .ok (.iadd, 1) := by decide +kernel
theorem dL_law_884 : decode cL_law 884 = .ok (.iaload, 1) := by decide +kernel
theorem dL_law_885 : decode cL_law 885 = .ok (.invokevirtual 114, 3) := by decide +kernel
theorem dL_law_888 : decode cL_law 888 = .ok (.aload_n 2, 1) := by decide +kernel
theorem dL_law_889 : decode cL_law 889 = .ok (.aload_n 0, 1) := by decide +kernel
theorem dL_law_890 : decode cL_law 890 = .ok (.iload_n 3, 1) := by decide +kernel
theorem dL_law_891 : decode cL_law 891 = .ok (.iconst 1, 1) := by decide +kernel
theorem dL_law_892 : decode cL_law 892 = .ok (.iadd, 1) := by decide +kernel
theorem dL_law_893 : decode cL_law 893 = .ok (.iaload, 1) := by decide +kernel
theorem dL_law_894 : decode cL_law 894 = .ok (.invokevirtual 117, 3) := by decide +kernel
theorem dL_law_897 : decode cL_law 897 = .ok (.if_icmp .eq 346, 3) := by decide +kernel
theorem dL_law_900 : decode cL_law 900 = .ok (.iconst 0, 1) := by decide +kernel
theorem dL_law_901 : decode cL_law 901 = .ok (.ireturn, 1) := by decide +kernel
theorem dL_law_902 : decode cL_law 902 = .ok (.aload_n 1, 1) := by decide +kernel
theorem dL_law_903 : decode cL_law 903 = .ok (.aload_n 0, 1) := by decide +kernel
theorem dL_law_904 : decode cL_law 904 = .ok (.iload_n 3, 1) := by decide +kernel
theorem dL_law_905 : decode cL_law 905 = .ok (.iconst 1, 1) := by decide +kernel
theorem dL_law_906 : decode cL_law 906 = .ok (.iadd, 1) := by decide +kernel
theorem dL_law_907 : decode cL_law 907 = .ok (.iaload, 1) := by decide +kernel
theorem dL_law_908 : decode cL_law 908 = .ok (.invokevirtual 118, 3) := by decide +kernel
theorem dL_law_911 : decode cL_law 911 = .ok (.aload_n 2, 1) := by decide +kernel
theorem dL_law_912 : decode cL_law 912 = .ok (.aload_n 0, 1) := by decide +kernel
theorem dL_law_913 : decode cL_law 913 = .ok (.iload_n 3, 1) := by decide +kernel
theorem dL_law_914 : decode cL_law 914 = .ok (.iconst 1, 1) := by decide +kernel
theorem dL_law_915 : decode cL_law 915 = .ok (.iadd, 1) := by decide +kernel
theorem dL_law_916 : decode cL_law 916 = .ok (.iaload, 1) := by decide +kernel
theorem dL_law_917 : decode cL_law 917 = .ok (.invokevirtual 121, 3) := by decide +kernel
theorem dL_law_920 : decode cL_law 920 = .ok (.if_icmp .eq 323, 3) := by decide +kernel
theorem dL_law_923 : decode cL_law 923 = .ok (.iconst 0, 1) := by decide +kernel
theorem dL_law_924 : decode cL_law 924 = .ok (.ireturn, 1) := by decide +kernel
theorem dL_law_925 : decode cL_law 925 = .ok (.aload_n 1, 1) := by decide +kernel
theorem dL_law_926 : decode cL_law 926 = .ok (.aload_n 0, 1) := by decide +kernel
theorem dL_law_927 : decode cL_law 927 = .ok (.iload_n 3, 1) := by decide +kernel
theorem dL_law_928 : decode cL_law 928 = .ok (.iconst 1, 1) := by decide +kernel
theorem dL_law_929 : decode cL_law 929 = .ok (.iadd, 1) := by decide +kernel
theorem dL_law_930 : decode cL_law 930 = .ok (.iaload, 1) := by decide +kernel
theorem dL_law_931 : decode cL_law 931 = .ok (.invokevirtual 122, 3) := by decide +kernel
theorem dL_law_934 : decode cL_law 934 = .ok (.aload_n 2, 1) := by decide +kernel
theorem dL_law_935 : decode cL_law 935 = .ok (.aload_n 0, 1) := by decide +kernel
theorem dL_law_936 : decode cL_law 936 = .ok (.iload_n 3, 1) := by decide +kernel
theorem dL_law_937 : decode cL_law 937 = .ok (.iconst 1, 1) := by decide +kernel
theorem dL_law_938 : decode cL_law 938 = .ok (.iadd, 1) := by decide +kernel
theorem dL_law_939 : decode cL_law 939 = .ok (.iaload, 1) := by decide +kernel
theorem dL_law_940 : decode cL_law 940 = .ok (.invokevirtual 125, 3) := by decide +kernel
theorem dL_law_943 : decode cL_law 943 = .ok (.if_icmp .eq 300, 3) := by decide +kernel
theorem dL_law_946 : decode cL_law 946 = .ok (.iconst 0, 1) := by decide +kernel
theorem dL_law_947 : decode cL_law 947 = .ok (.ireturn, 1) := by decide +kernel
theorem dL_law_948 : decode cL_law 948 = .ok (.aload_n 1, 1) := by decide +kernel
theorem dL_law_949 : decode cL_law 949 = .ok (.aload_n 0, 1) := by decide +kernel
theorem dL_law_950 : decode cL_law 950 = .ok (.iload_n 3, 1) := by decide +kernel
theorem dL_law_951 : decode cL_law 951 = .ok (.iconst 1, 1) := by decide +kernel
theorem dL_law_952 : decode cL_law 952 = .ok (.iadd, 1) := by decide +kernel
theorem dL_law_953 : decode cL_law 953 = .ok (.iaload, 1) := by decide +kernel
theorem dL_law_954 : decode cL_law 954 = .ok (.aload_n 0, 1) := by decide +kernel
theorem dL_law_955 : decode cL_law 955 = .ok (.iload_n 3, 1) := by decide +kernel
theorem dL_law_956 : decode cL_law 956 = .ok (.iconst 2, 1) := by decide +kernel
theorem dL_law_957 : decode cL_law 957 = .ok (.iadd, 1) := by decide +kernel
theorem dL_law_958 : decode cL_law 958 = .ok (.iaload, 1) := by decide +kernel
theorem dL_law_959 : decode cL_law 959 = .ok (.aload_n 0, 1) := by decide +kernel
theorem dL_law_960 : decode cL_law 960 = .ok (.iload_n 3, 1) := by decide +kernel
theorem dL_law_961 : decode cL_law 961 = .ok (.iconst 3, 1) := by decide +kernel
theorem dL_law_962 : decode cL_law 962 = .ok (.iadd, 1) := by decide +kernel
theorem dL_law_963 : decode cL_law 963 = .ok (.iaload, 1) := by decide +kernel
theorem dL_law_964 : decode cL_law 964 = .ok (.invokevirtual 126, 3) := by decide +kernel
theorem dL_law_967 : decode cL_law 967 = .ok (.aload_n 2, 1) := by decide +kernel
theorem dL_law_968 : decode cL_law 968 = .ok (.aload_n 0, 1) := by decide +kernel
theorem dL_law_969 : decode cL_law 969 = .ok (.iload_n 3, 1) := by decide +kernel
theorem dL_law_970 : decode cL_law 970 = .ok (.iconst 1, 1) := by decide +kernel
theorem dL_law_971 : decode cL_law 971 = .ok (.iadd, 1) := by decide +kernel
theorem dL_law_972 : decode cL_law 972 = .ok (.iaload, 1) := by decide +kernel
theorem dL_law_973 : decode cL_law 973 = .ok (.aload_n 0, 1) := by decide +kernel
theorem dL_law_974 : decode cL_law 974 = .ok (.iload_n 3, 1) := by decide +kernel
theorem dL_law_975 : decode cL_law 975 = .ok (.iconst 2, 1) := by decide +kernel
theorem dL_law_976 : decode cL_law 976 = .ok (.iadd, 1) := by decide +kernel
theorem dL_law_977 : decode cL_law 977 = .ok (.iaload, 1) := by decide +kernel
theorem dL_law_978 : decode cL_law 978 = .ok (.aload_n 0, 1) := by decide +kernel
theorem dL_law_979 : decode cL_law 979 = .ok (.iload_n 3, 1) := by decide +kernel
theorem dL_law_980 : decode cL_law 980 = .ok (.iconst 3, 1) := by decide +kernel
theorem dL_law_981 : decode cL_law 981 = .ok (.iadd, 1) := by decide +kernel
theorem dL_law_982 : decode cL_law 982 = .ok (.iaload, 1) := by decide +kernel
theorem dL_law_983 : decode cL_law 983 = .ok (.invokevirtual 129, 3) := by decide +kernel
theorem dL_law_986 : decode cL_law 986 = .ok (.if_icmp .eq 257, 3) := by decide +kernel
theorem dL_law_989 : decode cL_law 989 = .ok (.iconst 0, 1) := by decide +kernel
theorem dL_law_990 : decode cL_law 990 = .ok (.ireturn, 1) := by decide +kernel
theorem dL_law_991 : decode cL_law 991 = .ok (.aload_n 1, 1) := by decide +kernel
theorem dL_law_992 : decode cL_law 992 = .ok (.aload_n 0, 1) := by decide +kernel
theorem dL_law_993 : decode cL_law 993 = .ok (.iload_n 3, 1) := by decide +kernel
theorem dL_law_994 : decode cL_law 994 = .ok (.iconst 1, 1) := by decide +kernel
theorem dL_law_995 : decode cL_law 995 = .ok (.iadd, 1) := by decide +kernel
theorem dL_law_996 : decode cL_law 996 = .ok (.iaload, 1) := by decide +kernel
theorem dL_law_997 : decode cL_law 997 = .ok (.invokevirtual 130, 3) := by decide +kernel
theorem dL_law_1000 : decode cL_law 1000 = .ok (.aload_n 2, 1) := by decide +kernel
theorem dL_law_1001 : decode cL_law 1001 = .ok (.aload_n 0, 1) := by decide +kernel
theorem dL_law_1002 : decode cL_law 1002 = .ok (.iload_n 3, 1) := by decide +kernel
theorem dL_law_1003 : decode cL_law 1003 = .ok (.iconst 1, 1) := by decide +kernel
theorem dL_law_1004 : decode cL_law 1004 = .ok (.iadd, 1) := by decide +kernel
theorem dL_law_1005 : decode cL_law 1005 = .ok (.iaload, 1) := by decide +kernel
theorem dL_law_1006 : decode cL_law 1006 = .ok (.invokevirtual 133, 3) := by decide +kernel
theorem dL_law_1009 : decode cL_law 1009 = .ok (.if_icmp .eq 234, 3) := by decide +kernel
theorem dL_law_1012 : decode cL_law 1012 = .ok (.iconst 0, 1) := by decide +kernel
theorem dL_law_1013 : decode cL_law 1013 = .ok (.ireturn, 1) := by decide +kernel
theorem dL_law_1014 : decode cL_law 1014 = .ok (.aload_n 1, 1) := by decide +kernel
theorem dL_law_1015 : decode cL_law 1015 = .ok (.aload_n 0, 1) := by decide +kernel
theorem dL_law_1016 : decode cL_law 1016 = .ok (.iload_n 3, 1) := by decide +kernel
theorem dL_law_1017 : decode cL_law 1017 = .ok (.iconst 1, 1) := by decide +kernel
theorem dL_law_1018 : decode cL_law 1018 = .ok (.iadd, 1) := by decide +kernel
theorem dL_law_1019 : decode cL_law 1019 = .ok (.iaload, 1) := by decide +kernel
theorem dL_law_1020 : decode cL_law 1020 = .ok (.aload_n 0, 1) := by decide +kernel
theorem dL_law_1021 : decode cL_law 1021 = .ok (.iload_n 3, 1) := by decide +kernel
theorem dL_law_1022 : decode cL_law 1022 = .ok (.iconst 2, 1) := by decide +kernel
theorem dL_law_1023 : decode cL_law 1023 = .ok (.iadd, 1) := by decide +kernel
theorem dL_law_1024 : decode cL_law 1024 = .ok (.iaload, 1) := by decide +kernel
theorem dL_law_1025 : decode cL_law 1025 = .ok (.aload_n 0, 1) := by decide +kernel
theorem dL_law_1026 : decode cL_law 1026 = .ok (.iload_n 3, 1) := by decide +kernel
theorem dL_law_1027 : decode cL_law 1027 = .ok (.iconst 3, 1) := by decide +kernel
theorem dL_law_1028 : decode cL_law 1028 = .ok (.iadd, 1) := by decide +kernel
theorem dL_law_1029 : decode cL_law 1029 = .ok (.iaload, 1) := by decide +kernel
theorem dL_law_1030 : decode cL_law 1030 = .ok (.aload_n 0, 1) := by decide +kernel
theorem dL_law_1031 : decode cL_law 1031 = .ok (.iload_n 3, 1) := by decide +kernel
theorem dL_law_1032 : decode cL_law 1032 = .ok (.iconst 4, 1) := by decide +kernel
theorem dL_law_1033 : decode cL_law 1033 = .ok (.iadd, 1) := by decide +kernel
theorem dL_law_1034 : decode cL_law 1034 = .ok (.iaload, 1) := by decide +kernel
theorem dL_law_1035 : decode cL_law 1035 = .ok (.invokevirtual 134, 3) := by decide +kernel
theorem dL_law_1038 : decode cL_law 1038 = .ok (.aload_n 2, 1) := by decide +kernel
theorem dL_law_1039 : decode cL_law 1039 = .ok (.aload_n 0, 1) := by decide +kernel
theorem dL_law_1040 : decode cL_law 1040 = .ok (.iload_n 3, 1) := by decide +kernel
theorem dL_law_1041 : decode cL_law 1041 = .ok (.iconst 1, 1) := by decide +kernel
theorem dL_law_1042 : decode cL_law 1042 = .ok (.iadd, 1) := by decide +kernel
theorem dL_law_1043 : decode cL_law 1043 = .ok (.iaload, 1) := by decide +kernel
theorem dL_law_1044 : decode cL_law 1044 = .ok (.aload_n 0, 1) := by decide +kernel
theorem dL_law_1045 : decode cL_law 1045 = .ok (.iload_n 3, 1) := by decide +kernel
theorem dL_law_1046 : decode cL_law 1046 = .ok (.iconst 2, 1) := by decide +kernel
theorem dL_law_1047 : decode cL_law 1047 = .ok (.iadd, 1) := by decide +kernel
theorem dL_law_1048 : decode cL_law 1048 = .ok (.iaload, 1) := by decide +kernel
theorem dL_law_1049 : decode cL_law 1049 = .ok (.aload_n 0, 1) := by decide +kernel
theorem dL_law_1050 : decode cL_law 1050 = .ok (.iload_n 3, 1) := by decide +kernel
theorem dL_law_1051 : decode cL_law 1051 = .ok (.iconst 3, 1) := by decide +kernel
theorem dL_law_1052 : decode cL_law 1052 = .ok (.iadd, 1) := by decide +kernel
theorem dL_law_1053 : decode cL_law 1053 = .ok (.iaload, 1) := by decide +kernel
theorem dL_law_1054 : decode cL_law 1054 = .ok (.aload_n 0, 1) := by decide +kernel
theorem dL_law_1055 : decode cL_law 1055 = .ok (.iload_n 3, 1) := by decide +kernel
theorem dL_law_1056 : decode cL_law 1056 = .ok (.iconst 4, 1) := by decide +kernel
theorem dL_law_1057 : decode cL_law 1057 = .ok (.iadd, 1) := by decide +kernel
theorem dL_law_1058 : decode cL_law 1058 = .ok (.iaload, 1) := by decide +kernel
theorem dL_law_1059 : decode cL_law 1059 = .ok (.invokevirtual 137, 3) := by decide +kernel
theorem dL_law_1062 : decode cL_law 1062 = .ok (.if_icmp .eq 181, 3) := by decide +kernel
theorem dL_law_1065 : decode cL_law 1065 = .ok (.iconst 0, 1) := by decide +kernel
theorem dL_law_1066 : decode cL_law 1066 = .ok (.ireturn, 1) := by decide +kernel
theorem dL_law_1067 : decode cL_law 1067 = .ok (.aload_n 1, 1) := by decide +kernel
theorem dL_law_1068 : decode cL_law 1068 = .ok (.aload_n 0, 1) := by decide +kernel
theorem dL_law_1069 : decode cL_law 1069 = .ok (.iload_n 3, 1) := by decide +kernel
theorem dL_law_1070 : decode cL_law 1070 = .ok (.iconst 1, 1) := by decide +kernel
theorem dL_law_1071 : decode cL_law 1071 = .ok (.iadd, 1) := by decide +kernel
theorem dL_law_1072 : decode cL_law 1072 = .ok (.iaload, 1) := by decide +kernel
theorem dL_law_1073 : decode cL_law 1073 = .ok (.aload_n 0, 1) := by decide +kernel
theorem dL_law_1074 : decode cL_law 1074 = .ok (.iload_n 3, 1) := by decide +kernel
theorem dL_law_1075 : decode cL_law 1075 = .ok (.iconst 2, 1) := by decide +kernel
theorem dL_law_1076 : decode cL_law 1076 = .ok (.iadd, 1) := by decide +kernel
theorem dL_law_1077 : decode cL_law 1077 = .ok (.iaload, 1) := by decide +kernel
theorem dL_law_1078 : decode cL_law 1078 = .ok (.aload_n 0, 1) := by decide +kernel
theorem dL_law_1079 : decode cL_law 1079 = .ok (.iload_n 3, 1) := by decide +kernel
theorem dL_law_1080 : decode cL_law 1080 = .ok (.iconst 3, 1) := by decide +kernel
theorem dL_law_1081 : decode cL_law 1081 = .ok (.iadd, 1) := by decide +kernel
theorem dL_law_1082 : decode cL_law 1082 = .ok (.iaload, 1) := by decide +kernel
theorem dL_law_1083 : decode cL_law 1083 = .ok (.invokevirtual 138, 3) := by decide +kernel
theorem dL_law_1086 : decode cL_law 1086 = .ok (.aload_n 2, 1) := by decide +kernel
theorem dL_law_1087 : decode cL_law 1087 = .ok (.aload_n 0, 1) := by decide +kernel
theorem dL_law_1088 : decode cL_law 1088 = .ok (.iload_n 3, 1) := by decide +kernel
theorem dL_law_1089 : decode cL_law 1089 = .ok (.iconst 1, 1) := by decide +kernel
theorem dL_law_1090 : decode cL_law 1090 = .ok (.iadd, 1) := by decide +kernel
theorem dL_law_1091 : decode cL_law 1091 = .ok (.iaload, 1) := by decide +kernel
theorem dL_law_1092 : decode cL_law 1092 = .ok (.aload_n 0, 1) := by decide +kernel
theorem dL_law_1093 : decode cL_law 1093 = .ok (.iload_n 3, 1) := by decide +kernel
theorem dL_law_1094 : decode cL_law 1094 = .ok (.iconst 2, 1) := by decide +kernel
theorem dL_law_1095 : decode cL_law 1095 = .ok (.iadd, 1) := by decide +kernel
theorem dL_law_1096 : decode cL_law 1096 = .ok (.iaload, 1) := by decide +kernel
theorem dL_law_1097 : decode cL_law 1097 = .ok (.aload_n 0, 1) := by decide +kernel
theorem dL_law_1098 : decode cL_law 1098 = .ok (.iload_n 3, 1) := by decide +kernel
theorem dL_law_1099 : decode cL_law 1099 = .ok (.iconst 3, 1) := by decide +kernel
theorem dL_law_1100 : decode cL_law 1100 = .ok (.iadd, 1) := by decide +kernel
theorem dL_law_1101 : decode cL_law 1101 = .ok (.iaload, 1) := by decide +kernel
theorem dL_law_1102 : decode cL_law 1102 = .ok (.invokevirtual 141, 3) := by decide +kernel
theorem dL_law_1105 : decode cL_law 1105 = .ok (.if_icmp .eq 138, 3) := by decide +kernel
theorem dL_law_1108 : decode cL_law 1108 = .ok (.iconst 0, 1) := by decide +kernel
theorem dL_law_1109 : decode cL_law 1109 = .ok (.ireturn, 1) := by decide +kernel
theorem dL_law_1110 : decode cL_law 1110 = .ok (.aload_n 1, 1) := by decide +kernel
theorem dL_law_1111 : decode cL_law 1111 = .ok (.aload_n 0, 1) := by decide +kernel
theorem dL_law_1112 : decode cL_law 1112 = .ok (.iload_n 3, 1) := by decide +kernel
theorem dL_law_1113 : decode cL_law 1113 = .ok (.iconst 1, 1) := by decide +kernel
theorem dL_law_1114 : decode cL_law 1114 = .ok (.iadd, 1) := by decide +kernel
theorem dL_law_1115 : decode cL_law 1115 = .ok (.iaload, 1) := by decide +kernel
theorem dL_law_1116 : decode cL_law 1116 = .ok (.aload_n 0, 1) := by decide +kernel
theorem dL_law_1117 : decode cL_law 1117 = .ok (.iload_n 3, 1) := by decide +kernel
theorem dL_law_1118 : decode cL_law 1118 = .ok (.iconst 2, 1) := by decide +kernel
theorem dL_law_1119 : decode cL_law 1119 = .ok (.iadd, 1) := by decide +kernel
theorem dL_law_1120 : decode cL_law 1120 = .ok (.iaload, 1) := by decide +kernel
theorem dL_law_1121 : decode cL_law 1121 = .ok (.aload_n 0, 1) := by decide +kernel
theorem dL_law_1122 : decode cL_law 1122 = .ok (.iload_n 3, 1) := by decide +kernel
theorem dL_law_1123 : decode cL_law 1123 = .ok (.iconst 3, 1) := by decide +kernel
theorem dL_law_1124 : decode cL_law 1124 = .ok (.iadd, 1) := by decide +kernel
theorem dL_law_1125 : decode cL_law 1125 = .ok (.iaload, 1) := by decide +kernel
theorem dL_law_1126 : decode cL_law 1126 = .ok (.aload_n 0, 1) := by decide +kernel
theorem dL_law_1127 : decode cL_law 1127 = .ok (.iload_n 3, 1) := by decide +kernel
theorem dL_law_1128 : decode cL_law 1128 = .ok (.iconst 4, 1) := by decide +kernel
theorem dL_law_1129 : decode cL_law 1129 = .ok (.iadd, 1) := by decide +kernel
theorem dL_law_1130 : decode cL_law 1130 = .ok (.iaload, 1) := by decide +kernel
theorem dL_law_1131 : decode cL_law 1131 = .ok (.aload_n 0, 1) := by decide +kernel
theorem dL_law_1132 : decode cL_law 1132 = .ok (.iload_n 3, 1) := by decide +kernel
theorem dL_law_1133 : decode cL_law 1133 = .ok (.iconst 5, 1) := by decide +kernel
theorem dL_law_1134 : decode cL_law 1134 = .ok (.iadd, 1) := by decide +kernel
theorem dL_law_1135 : decode cL_law 1135 = .ok (.iaload, 1) := by decide +kernel
theorem dL_law_1136 : decode cL_law 1136 = .ok (.invokevirtual 142, 3) := by decide +kernel
theorem dL_law_1139 : decode cL_law 1139 = .ok (.aload_n 2, 1) := by decide +kernel
theorem dL_law_1140 : decode cL_law 1140 = .ok (.aload_n 0, 1) := by decide +kernel
theorem dL_law_1141 : decode cL_law 1141 = .ok (.iload_n 3, 1) := by decide +kernel
theorem dL_law_1142 : decode cL_law 1142 = .ok (.iconst 1, 1) := by decide +kernel
theorem dL_law_1143 : decode cL_law 1143 = .ok (.iadd, 1) := by decide +kernel
theorem dL_law_1144 : decode cL_law 1144 = .ok (.iaload, 1) := by decide +kernel
theorem dL_law_1145 : decode cL_law 1145 = .ok (.aload_n 0, 1) := by decide +kernel
theorem dL_law_1146 : decode cL_law 1146 = .ok (.iload_n 3, 1) := by decide +kernel
theorem dL_law_1147 : decode cL_law 1147 = .ok (.iconst 2, 1) := by decide +kernel
theorem dL_law_1148 : decode cL_law 1148 = .ok (.iadd, 1) := by decide +kernel
theorem dL_law_1149 : decode cL_law 1149 = .ok (.iaload, 1) := by decide +kernel
theorem dL_law_1150 : decode cL_law 1150 = .ok (.aload_n 0, 1) := by decide +kernel
theorem dL_law_1151 : decode cL_law 1151 = .ok (.iload_n 3, 1) := by decide +kernel
theorem dL_law_1152 : decode cL_law 1152 = .ok (.iconst 3, 1) := by decide +kernel
theorem dL_law_1153 : decode cL_law 1153 = .ok (.iadd, 1) := by decide +kernel
theorem dL_law_1154 : decode cL_law 1154 = .ok (.iaload, 1) := by decide +kernel
theorem dL_law_1155 : decode cL_law 1155 = .ok (.aload_n 0, 1) := by decide +kernel
theorem dL_law_1156 : decode cL_law 1156 = .ok (.iload_n 3, 1) := by decide +kernel
theorem dL_law_1157 : decode cL_law 1157 = .ok (.iconst 4, 1) := by decide +kernel
theorem dL_law_1158 : decode cL_law 1158 = .ok (.iadd, 1) := by decide +kernel
theorem dL_law_1159 : decode cL_law 1159 = .ok (.iaload, 1) := by decide +kernel
theorem dL_law_1160 : decode cL_law 1160 = .ok (.aload_n 0, 1) := by decide +kernel
theorem dL_law_1161 : decode cL_law 1161 = .ok (.iload_n 3, 1) := by decide +kernel
theorem dL_law_1162 : decode cL_law 1162 = .ok (.iconst 5, 1) := by decide +kernel
theorem dL_law_1163 : decode cL_law 1163 = .ok (.iadd, 1) := by decide +kernel
theorem dL_law_1164 : decode cL_law 1164 = .ok (.iaload, 1) := by decide +kernel
theorem dL_law_1165 : decode cL_law 1165 = .ok (.invokevirtual 146, 3) := by decide +kernel
theorem dL_law_1168 : decode cL_law 1168 = .ok (.if_icmp .eq 75, 3) := by decide +kernel
theorem dL_law_1171 : decode cL_law 1171 = .ok (.iconst 0, 1) := by decide +kernel
theorem dL_law_1172 : decode cL_law 1172 = .ok (.ireturn, 1) := by decide +kernel
theorem dL_law_1173 : decode cL_law 1173 = .ok (.aload_n 1, 1) := by decide +kernel
theorem dL_law_1174 : decode cL_law 1174 = .ok (.aload_n 0, 1) := by decide +kernel
theorem dL_law_1175 : decode cL_law 1175 = .ok (.iload_n 3, 1) := by decide +kernel
theorem dL_law_1176 : decode cL_law 1176 = .ok (.iconst 1, 1) := by decide +kernel
theorem dL_law_1177 : decode cL_law 1177 = .ok (.iadd, 1) := by decide +kernel
theorem dL_law_1178 : decode cL_law 1178 = .ok (.iaload, 1) := by decide +kernel
theorem dL_law_1179 : decode cL_law 1179 = .ok (.aload_n 0, 1) := by decide +kernel
theorem dL_law_1180 : decode cL_law 1180 = .ok (.iload_n 3, 1) := by decide +kernel
theorem dL_law_1181 : decode cL_law 1181 = .ok (.iconst 2, 1) := by decide +kernel
theorem dL_law_1182 : decode cL_law 1182 = .ok (.iadd, 1) := by decide +kernel
theorem dL_law_1183 : decode cL_law 1183 = .ok (.iaload, 1) := by decide +kernel
theorem dL_law_1184 : decode cL_law 1184 = .ok (.invokevirtual 147, 3) := by decide +kernel
theorem dL_law_1187 : decode cL_law 1187 = .ok (.aload_n 2, 1) := by decide +kernel
theorem dL_law_1188 : decode cL_law 1188 = .ok (.aload_n 0, 1) := by decide +kernel
theorem dL_law_1189 : decode cL_law 1189 = .ok (.iload_n 3, 1) := by decide +kernel
theorem dL_law_1190 : decode cL_law 1190 = .ok (.iconst 1, 1) := by decide +kernel
theorem dL_law_1191 : decode cL_law 1191 = .ok (.iadd, 1) := by decide +kernel
theorem dL_law_1192 : decode cL_law 1192 = .ok (.iaload, 1) := by decide +kernel
theorem dL_law_1193 : decode cL_law 1193 = .ok (.aload_n 0, 1) := by decide +kernel
theorem dL_law_1194 : decode cL_law 1194 = .ok (.iload_n 3, 1) := by decide +kernel
theorem dL_law_1195 : decode cL_law 1195 = .ok (.iconst 2, 1) := by decide +kernel
theorem dL_law_1196 : decode cL_law 1196 = .ok (.iadd, 1) := by decide +kernel
theorem dL_law_1197 : decode cL_law 1197 = .ok (.iaload, 1) := by decide +kernel
theorem dL_law_1198 : decode cL_law 1198 = .ok (.invokevirtual 150, 3) := by decide +kernel
theorem dL_law_1201 : decode cL_law 1201 = .ok (.if_icmp .eq 42, 3) := by decide +kernel
theorem dL_law_1204 : decode cL_law 1204 = .ok (.iconst 0, 1) := by decide +kernel
theorem dL_law_1205 : decode cL_law 1205 = .ok (.ireturn, 1) := by decide +kernel
theorem dL_law_1206 : decode cL_law 1206 = .ok (.aload_n 1, 1) := by decide +kernel
theorem dL_law_1207 : decode cL_law 1207 = .ok (.aload_n 0, 1) := by decide +kernel
theorem dL_law_1208 : decode cL_law 1208 = .ok (.iload_n 3, 1) := by decide +kernel
theorem dL_law_1209 : decode cL_law 1209 = .ok (.iconst 1, 1) := by decide +kernel
theorem dL_law_1210 : decode cL_law 1210 = .ok (.iadd, 1) := by decide +kernel
theorem dL_law_1211 : decode cL_law 1211 = .ok (.iaload, 1) := by decide +kernel
theorem dL_law_1212 : decode cL_law 1212 = .ok (.invokevirtual 151, 3) := by decide +kernel
theorem dL_law_1215 : decode cL_law 1215 = .ok (.aload_n 2, 1) := by decide +kernel
theorem dL_law_1216 : decode cL_law 1216 = .ok (.aload_n 0, 1) := by decide +kernel
theorem dL_law_1217 : decode cL_law 1217 = .ok (.iload_n 3, 1) := by decide +kernel
theorem dL_law_1218 : decode cL_law 1218 = .ok (.iconst 1, 1) := by decide +kernel
theorem dL_law_1219 : decode cL_law 1219 = .ok (.iadd, 1) := by decide +kernel
theorem dL_law_1220 : decode cL_law 1220 = .ok (.iaload, 1) := by decide +kernel
theorem dL_law_1221 : decode cL_law 1221 = .ok (.invokevirtual 154, 3) := by decide +kernel
theorem dL_law_1224 : decode cL_law 1224 = .ok (.if_icmp .eq 19, 3) := by decide +kernel
theorem dL_law_1227 : decode cL_law 1227 = .ok (.iconst 0, 1) := by decide +kernel
theorem dL_law_1228 : decode cL_law 1228 = .ok (.ireturn, 1) := by decide +kernel
theorem dL_law_1229 : decode cL_law 1229 = .ok (.aload_n 1, 1) := by decide +kernel
theorem dL_law_1230 : decode cL_law 1230 = .ok (.invokevirtual 155, 3) := by decide +kernel
theorem dL_law_1233 : decode cL_law 1233 = .ok (.aload_n 2, 1) := by decide +kernel
theorem dL_law_1234 : decode cL_law 1234 = .ok (.invokevirtual 158, 3) := by decide +kernel
theorem dL_law_1237 : decode cL_law 1237 = .ok (.lcmp, 1) := by decide +kernel
theorem dL_law_1238 : decode cL_law 1238 = .ok (.ifCond .eq 5, 3) := by decide +kernel
theorem dL_law_1241 : decode cL_law 1241 = .ok (.iconst 0, 1) := by decide +kernel
theorem dL_law_1242 : decode cL_law 1242 = .ok (.ireturn, 1) := by decide +kernel
theorem dL_law_1243 : decode cL_law 1243 = .ok (.iinc 3 7, 3) := by decide +kernel
theorem dL_law_1246 : decode cL_law 1246 = .ok (.goto (-1228), 3) := by decide +kernel
theorem dL_law_1249 : decode cL_law 1249 = .ok (.iconst 1, 1) := by decide +kernel
theorem dL_law_1250 : decode cL_law 1250 = .ok (.ireturn, 1) := by decide +kernel
