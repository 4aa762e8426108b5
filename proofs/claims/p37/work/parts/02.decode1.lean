theorem dX4_reckon_110 : decode cX4_reckon 110 = .ok (.aload_n 0, 1) := by decide +kernel
theorem dX4_reckon_111 : decode cX4_reckon 111 = .ok (.getfield 15, 3) := by decide +kernel
theorem dX4_reckon_114 : decode cX4_reckon 114 = .ok (.aload_n 0, 1) := by decide +kernel
theorem dX4_reckon_115 : decode cX4_reckon 115 = .ok (.getfield 32, 3) := by decide +kernel
theorem dX4_reckon_118 : decode cX4_reckon 118 = .ok (.getfield 73, 3) := by decide +kernel
theorem dX4_reckon_121 : decode cX4_reckon 121 = .ok (.invokestatic 74, 3) := by decide +kernel
theorem dX4_reckon_124 : decode cX4_reckon 124 = .ok (.putfield 15, 3) := by decide +kernel
theorem dX4_reckon_127 : decode cX4_reckon 127 = .ok (.aload_n 0, 1) := by decide +kernel
theorem dX4_reckon_128 : decode cX4_reckon 128 = .ok (.dup, 1) := by decide +kernel
theorem dX4_reckon_129 : decode cX4_reckon 129 = .ok (.getfield 39, 3) := by decide +kernel
theorem dX4_reckon_132 : decode cX4_reckon 132 = .ok (.ldc2_w 80, 3) := by decide +kernel
theorem dX4_reckon_135 : decode cX4_reckon 135 = .ok (.ldiv, 1) := by decide +kernel
theorem dX4_reckon_136 : decode cX4_reckon 136 = .ok (.putfield 39, 3) := by decide +kernel
theorem dX4_reckon_139 : decode cX4_reckon 139 = .ok (.iload 6, 2) := by decide +kernel
theorem dX4_reckon_141 : decode cX4_reckon 141 = .ok (.aload_n 1, 1) := by decide +kernel
theorem dX4_reckon_142 : decode cX4_reckon 142 = .ok (.getfield 42, 3) := by decide +kernel
theorem dX4_reckon_145 : decode cX4_reckon 145 = .ok (.if_icmp .ne 18, 3) := by decide +kernel
theorem dX4_reckon_148 : decode cX4_reckon 148 = .ok (.iload 7, 2) := by decide +kernel
theorem dX4_reckon_150 : decode cX4_reckon 150 = .ok (.aload_n 1, 1) := by decide +kernel
theorem dX4_reckon_151 : decode cX4_reckon 151 = .ok (.getfield 47, 3) := by decide +kernel
theorem dX4_reckon_154 : decode cX4_reckon 154 = .ok (.iconst 1, 1) := by decide +kernel
theorem dX4_reckon_155 : decode cX4_reckon 155 = .ok (.isub, 1) := by decide +kernel
theorem dX4_reckon_156 : decode cX4_reckon 156 = .ok (.if_icmp .ne 7, 3) := by decide +kernel
theorem dX4_reckon_159 : decode cX4_reckon 159 = .ok (.iconst 1, 1) := by decide +kernel
theorem dX4_reckon_160 : decode cX4_reckon 160 = .ok (.goto 4, 3) := by decide +kernel
theorem dX4_reckon_163 : decode cX4_reckon 163 = .ok (.iconst 0, 1) := by decide +kernel
theorem dX4_reckon_164 : decode cX4_reckon 164 = .ok (.istore 8, 2) := by decide +kernel
theorem dX4_reckon_166 : decode cX4_reckon 166 = .ok (.aload_n 0, 1) := by decide +kernel
theorem dX4_reckon_167 : decode cX4_reckon 167 = .ok (.aload_n 1, 1) := by decide +kernel
theorem dX4_reckon_168 : decode cX4_reckon 168 = .ok (.aload_n 1, 1) := by decide +kernel
theorem dX4_reckon_169 : decode cX4_reckon 169 = .ok (.getfield 82, 3) := by decide +kernel
theorem dX4_reckon_172 : decode cX4_reckon 172 = .ok (.iload 7, 2) := by decide +kernel
theorem dX4_reckon_174 : decode cX4_reckon 174 = .ok (.iaload, 1) := by decide +kernel
theorem dX4_reckon_175 : decode cX4_reckon 175 = .ok (.iload 6, 2) := by decide +kernel
theorem dX4_reckon_177 : decode cX4_reckon 177 = .ok (.iload 8, 2) := by decide +kernel
theorem dX4_reckon_179 : decode cX4_reckon 179 = .ok (.invokevirtual 86, 3) := by decide +kernel
theorem dX4_reckon_182 : decode cX4_reckon 182 = .ok (.ifCond .ne 5, 3) := by decide +kernel
theorem dX4_reckon_185 : decode cX4_reckon 185 = .ok (.iconst 0, 1) := by decide +kernel
theorem dX4_reckon_186 : decode cX4_reckon 186 = .ok (.ireturn, 1) := by decide +kernel
theorem dX4_reckon_187 : decode cX4_reckon 187 = .ok (.iinc 7 1, 3) := by decide +kernel
theorem dX4_reckon_190 : decode cX4_reckon 190 = .ok (.goto (-90), 3) := by decide +kernel
theorem dX4_reckon_193 : decode cX4_reckon 193 = .ok (.iinc 6 1, 3) := by decide +kernel
theorem dX4_reckon_196 : decode cX4_reckon 196 = .ok (.goto (-108), 3) := by decide +kernel
theorem dX4_reckon_199 : decode cX4_reckon 199 = .ok (.iconst 1, 1) := by decide +kernel
theorem dX4_reckon_200 : decode cX4_reckon 200 = .ok (.ireturn, 1) := by decide +kernel
theorem dX4_waysLeft_0 : decode cX4_waysLeft 0 = .ok (.bipush 64, 2) := by decide +kernel
theorem dX4_waysLeft_2 : decode cX4_waysLeft 2 = .ok (.iload_n 1, 1) := by decide +kernel
theorem dX4_waysLeft_3 : decode cX4_waysLeft 3 = .ok (.imul, 1) := by decide +kernel
theorem dX4_waysLeft_4 : decode cX4_waysLeft 4 = .ok (.iload_n 2, 1) := by decide +kernel
theorem dX4_waysLeft_5 : decode cX4_waysLeft 5 = .ok (.iadd, 1) := by decide +kernel
theorem dX4_waysLeft_6 : decode cX4_waysLeft 6 = .ok (.iload_n 3, 1) := by decide +kernel
theorem dX4_waysLeft_7 : decode cX4_waysLeft 7 = .ok (.ifCond .eq 8, 3) := by decide +kernel
theorem dX4_waysLeft_10 : decode cX4_waysLeft 10 = .ok (.bipush 32, 2) := by decide +kernel
theorem dX4_waysLeft_12 : decode cX4_waysLeft 12 = .ok (.goto 4, 3) := by decide +kernel
theorem dX4_waysLeft_15 : decode cX4_waysLeft 15 = .ok (.iconst 0, 1) := by decide +kernel
theorem dX4_waysLeft_16 : decode cX4_waysLeft 16 = .ok (.iadd, 1) := by decide +kernel
theorem dX4_waysLeft_17 : decode cX4_waysLeft 17 = .ok (.istore 4, 2) := by decide +kernel
theorem dX4_waysLeft_19 : decode cX4_waysLeft 19 = .ok (.iload 4, 2) := by decide +kernel
theorem dX4_waysLeft_21 : decode cX4_waysLeft 21 = .ok (.ifCond .lt 23, 3) := by decide +kernel
theorem dX4_waysLeft_24 : decode cX4_waysLeft 24 = .ok (.iload 4, 2) := by decide +kernel
theorem dX4_waysLeft_26 : decode cX4_waysLeft 26 = .ok (.aload_n 0, 1) := by decide +kernel
theorem dX4_waysLeft_27 : decode cX4_waysLeft 27 = .ok (.getfield 26, 3) := by decide +kernel
theorem dX4_waysLeft_30 : decode cX4_waysLeft 30 = .ok (.arraylength, 1) := by decide +kernel
theorem dX4_waysLeft_31 : decode cX4_waysLeft 31 = .ok (.if_icmp .ge 13, 3) := by decide +kernel
theorem dX4_waysLeft_34 : decode cX4_waysLeft 34 = .ok (.aload_n 0, 1) := by decide +kernel
theorem dX4_waysLeft_35 : decode cX4_waysLeft 35 = .ok (.getfield 26, 3) := by decide +kernel
theorem dX4_waysLeft_38 : decode cX4_waysLeft 38 = .ok (.iload 4, 2) := by decide +kernel
theorem dX4_waysLeft_40 : decode cX4_waysLeft 40 = .ok (.laload, 1) := by decide +kernel
theorem dX4_waysLeft_41 : decode cX4_waysLeft 41 = .ok (.goto 4, 3) := by decide +kernel
theorem dX4_waysLeft_44 : decode cX4_waysLeft 44 = .ok (.lconst 0, 1) := by decide +kernel
theorem dX4_waysLeft_45 : decode cX4_waysLeft 45 = .ok (.lreturn, 1) := by decide +kernel
theorem dX4_clear_0 : decode cX4_clear 0 = .ok (.aload_n 0, 1) := by decide +kernel
theorem dX4_clear_1 : decode cX4_clear 1 = .ok (.getfield 32, 3) := by decide +kernel
theorem dX4_clear_4 : decode cX4_clear 4 = .ok (.invokevirtual 92, 3) := by decide +kernel
theorem dX4_clear_7 : decode cX4_clear 7 = .ok (.aload_n 0, 1) := by decide +kernel
theorem dX4_clear_8 : decode cX4_clear 8 = .ok (.getfield 36, 3) := by decide +kernel
theorem dX4_clear_11 : decode cX4_clear 11 = .ok (.invokevirtual 92, 3) := by decide +kernel
theorem dX4_clear_14 : decode cX4_clear 14 = .ok (.aload_n 0, 1) := by decide +kernel
theorem dX4_clear_15 : decode cX4_clear 15 = .ok (.iconst 0, 1) := by decide +kernel
theorem dX4_clear_16 : decode cX4_clear 16 = .ok (.putfield 15, 3) := by decide +kernel
theorem dX4_clear_19 : decode cX4_clear 19 = .ok (.iconst 0, 1) := by decide +kernel
theorem dX4_clear_20 : decode cX4_clear 20 = .ok (.istore_n 1, 1) := by decide +kernel
theorem dX4_clear_21 : decode cX4_clear 21 = .ok (.iload_n 1, 1) := by decide +kernel
theorem dX4_clear_22 : decode cX4_clear 22 = .ok (.aload_n 0, 1) := by decide +kernel
theorem dX4_clear_23 : decode cX4_clear 23 = .ok (.getfield 19, 3) := by decide +kernel
theorem dX4_clear_26 : decode cX4_clear 26 = .ok (.arraylength, 1) := by decide +kernel
theorem dX4_clear_27 : decode cX4_clear 27 = .ok (.if_icmp .ge 16, 3) := by decide +kernel
theorem dX4_clear_30 : decode cX4_clear 30 = .ok (.aload_n 0, 1) := by decide +kernel
theorem dX4_clear_31 : decode cX4_clear 31 = .ok (.getfield 19, 3) := by decide +kernel
theorem dX4_clear_34 : decode cX4_clear 34 = .ok (.iload_n 1, 1) := by decide +kernel
theorem dX4_clear_35 : decode cX4_clear 35 = .ok (.lconst 0, 1) := by decide +kernel
theorem dX4_clear_36 : decode cX4_clear 36 = .ok (.lastore, 1) := by decide +kernel
theorem dX4_clear_37 : decode cX4_clear 37 = .ok (.iinc 1 1, 3) := by decide +kernel
theorem dX4_clear_40 : decode cX4_clear 40 = .ok (.goto (-19), 3) := by decide +kernel
theorem dX4_clear_43 : decode cX4_clear 43 = .ok (.iconst 0, 1) := by decide +kernel
theorem dX4_clear_44 : decode cX4_clear 44 = .ok (.istore_n 1, 1) := by decide +kernel
theorem dX4_clear_45 : decode cX4_clear 45 = .ok (.iload_n 1, 1) := by decide +kernel
theorem dX4_clear_46 : decode cX4_clear 46 = .ok (.aload_n 0, 1) := by decide +kernel
theorem dX4_clear_47 : decode cX4_clear 47 = .ok (.getfield 23, 3) := by decide +kernel
theorem dX4_clear_50 : decode cX4_clear 50 = .ok (.arraylength, 1) := by decide +kernel
theorem dX4_clear_51 : decode cX4_clear 51 = .ok (.if_icmp .ge 16, 3) := by decide +kernel
theorem dX4_clear_54 : decode cX4_clear 54 = .ok (.aload_n 0, 1) := by decide +kernel
theorem dX4_clear_55 : decode cX4_clear 55 = .ok (.getfield 23, 3) := by decide +kernel
theorem dX4_clear_58 : decode cX4_clear 58 = .ok (.iload_n 1, 1) := by decide +kernel
theorem dX4_clear_59 : decode cX4_clear 59 = .ok (.lconst 0, 1) := by decide +kernel
theorem dX4_clear_60 : decode cX4_clear 60 = .ok (.lastore, 1) := by decide +kernel
theorem dX4_clear_61 : decode cX4_clear 61 = .ok (.iinc 1 1, 3) := by decide +kernel
theorem dX4_clear_64 : decode cX4_clear 64 = .ok (.goto (-19), 3) := by decide +kernel
theorem dX4_clear_67 : decode cX4_clear 67 = .ok (.iconst 0, 1) := by decide +kernel
theorem dX4_clear_68 : decode cX4_clear 68 = .ok (.istore_n 1, 1) := by decide +kernel
theorem dX4_clear_69 : decode cX4_clear 69 = .ok (.iload_n 1, 1) := by decide +kernel
theorem dX4_clear_70 : decode cX4_clear 70 = .ok (.aload_n 0, 1) := by decide +kernel
theorem dX4_clear_71 : decode cX4_clear 71 = .ok (.getfield 26, 3) := by decide +kernel
theorem dX4_clear_74 : decode cX4_clear 74 = .ok (.arraylength, 1) := by decide +kernel
theorem dX4_clear_75 : decode cX4_clear 75 = .ok (.if_icmp .ge 16, 3) := by decide +kernel
theorem dX4_clear_78 : decode cX4_clear 78 = .ok (.aload_n 0, 1) := by decide +kernel
theorem dX4_clear_79 : decode cX4_clear 79 = .ok (.getfield 26, 3) := by decide +kernel
theorem dX4_clear_82 : decode cX4_clear 82 = .ok (.iload_n 1, 1) := by decide +kernel
theorem dX4_clear_83 : decode cX4_clear 83 = .ok (.lconst 0, 1) := by decide +kernel
theorem dX4_clear_84 : decode cX4_clear 84 = .ok (.lastore, 1) := by decide +kernel
theorem dX4_clear_85 : decode cX4_clear 85 = .ok (.iinc 1 1, 3) := by decide +kernel
theorem dX4_clear_88 : decode cX4_clear 88 = .ok (.goto (-19), 3) := by decide +kernel
theorem dX4_clear_91 : decode cX4_clear 91 = .ok (.return_, 1) := by decide +kernel
theorem dX4_powerOfSix_0 : decode cX4_powerOfSix 0 = .ok (.lconst 1, 1) := by decide +kernel
theorem dX4_powerOfSix_1 : decode cX4_powerOfSix 1 = .ok (.lstore_n 1, 1) := by decide +kernel
theorem dX4_powerOfSix_2 : decode cX4_powerOfSix 2 = .ok (.iconst 0, 1) := by decide +kernel
theorem dX4_powerOfSix_3 : decode cX4_powerOfSix 3 = .ok (.istore_n 3, 1) := by decide +kernel
theorem dX4_powerOfSix_4 : decode cX4_powerOfSix 4 = .ok (.iload_n 3, 1) := by decide +kernel
theorem dX4_powerOfSix_5 : decode cX4_powerOfSix 5 = .ok (.iload_n 0, 1) := by decide +kernel
theorem dX4_powerOfSix_6 : decode cX4_powerOfSix 6 = .ok (.if_icmp .ge 15, 3) := by decide +kernel
theorem dX4_powerOfSix_9 : decode cX4_powerOfSix 9 = .ok (.lload_n 1, 1) := by decide +kernel
theorem dX4_powerOfSix_10 : decode cX4_powerOfSix 10 = .ok (.ldc2_w 80, 3) := by decide +kernel
theorem dX4_powerOfSix_13 : decode cX4_powerOfSix 13 = .ok (.lmul, 1) := by decide +kernel
theorem dX4_powerOfSix_14 : decode cX4_powerOfSix 14 = .ok (.lstore_n 1, 1) := by decide +kernel
theorem dX4_powerOfSix_15 : decode cX4_powerOfSix 15 = .ok (.iinc 3 1, 3) := by decide +kernel
theorem dX4_powerOfSix_18 : decode cX4_powerOfSix 18 = .ok (.goto (-14), 3) := by decide +kernel
theorem dX4_powerOfSix_21 : decode cX4_powerOfSix 21 = .ok (.lload_n 1, 1) := by decide +kernel
theorem dX4_powerOfSix_22 : decode cX4_powerOfSix 22 = .ok (.lreturn, 1) := by decide +kernel
theorem dX4_reckonSlot_0 : decode cX4_reckonSlot 0 = .ok (.aload_n 0, 1) := by decide +kernel
theorem dX4_reckonSlot_1 : decode cX4_reckonSlot 1 = .ok (.getfield 36, 3) := by decide +kernel
theorem dX4_reckonSlot_4 : decode cX4_reckonSlot 4 = .ok (.invokevirtual 92, 3) := by decide +kernel
theorem dX4_reckonSlot_7 : decode cX4_reckonSlot 7 = .ok (.iconst 1, 1) := by decide +kernel
theorem dX4_reckonSlot_8 : decode cX4_reckonSlot 8 = .ok (.istore 5, 2) := by decide +kernel
theorem dX4_reckonSlot_10 : decode cX4_reckonSlot 10 = .ok (.iconst 0, 1) := by decide +kernel
theorem dX4_reckonSlot_11 : decode cX4_reckonSlot 11 = .ok (.istore 6, 2) := by decide +kernel
theorem dX4_reckonSlot_13 : decode cX4_reckonSlot 13 = .ok (.iload 6, 2) := by decide +kernel
theorem dX4_reckonSlot_15 : decode cX4_reckonSlot 15 = .ok (.aload_n 0, 1) := by decide +kernel
theorem dX4_reckonSlot_16 : decode cX4_reckonSlot 16 = .ok (.getfield 32, 3) := by decide +kernel
theorem dX4_reckonSlot_19 : decode cX4_reckonSlot 19 = .ok (.getfield 73, 3) := by decide +kernel
theorem dX4_reckonSlot_22 : decode cX4_reckonSlot 22 = .ok (.if_icmp .ge 166, 3) := by decide +kernel
theorem dX4_reckonSlot_25 : decode cX4_reckonSlot 25 = .ok (.iload 5, 2) := by decide +kernel
theorem dX4_reckonSlot_27 : decode cX4_reckonSlot 27 = .ok (.ifCond .eq 161, 3) := by decide +kernel
theorem dX4_reckonSlot_30 : decode cX4_reckonSlot 30 = .ok (.aload_n 0, 1) := by decide +kernel
theorem dX4_reckonSlot_31 : decode cX4_reckonSlot 31 = .ok (.getfield 32, 3) := by decide +kernel
theorem dX4_reckonSlot_34 : decode cX4_reckonSlot 34 = .ok (.getfield 95, 3) := by decide +kernel
theorem dX4_reckonSlot_37 : decode cX4_reckonSlot 37 = .ok (.iload 6, 2) := by decide +kernel
theorem dX4_reckonSlot_39 : decode cX4_reckonSlot 39 = .ok (.laload, 1) := by decide +kernel
theorem dX4_reckonSlot_40 : decode cX4_reckonSlot 40 = .ok (.lstore 7, 2) := by decide +kernel
theorem dX4_reckonSlot_42 : decode cX4_reckonSlot 42 = .ok (.aload_n 0, 1) := by decide +kernel
theorem dX4_reckonSlot_43 : decode cX4_reckonSlot 43 = .ok (.getfield 32, 3) := by decide +kernel
theorem dX4_reckonSlot_46 : decode cX4_reckonSlot 46 = .ok (.getfield 98, 3) := by decide +kernel
theorem dX4_reckonSlot_49 : decode cX4_reckonSlot 49 = .ok (.iload 6, 2) := by decide +kernel
theorem dX4_reckonSlot_51 : decode cX4_reckonSlot 51 = .ok (.laload, 1) := by decide +kernel
theorem dX4_reckonSlot_52 : decode cX4_reckonSlot 52 = .ok (.lstore 9, 2) := by decide +kernel
theorem dX4_reckonSlot_54 : decode cX4_reckonSlot 54 = .ok (.aload_n 1, 1) := by decide +kernel
theorem dX4_reckonSlot_55 : decode cX4_reckonSlot 55 = .ok (.lload 7, 2) := by decide +kernel
theorem dX4_reckonSlot_57 : decode cX4_reckonSlot 57 = .ok (.iload_n 2, 1) := by decide +kernel
theorem dX4_reckonSlot_58 : decode cX4_reckonSlot 58 = .ok (.iload_n 3, 1) := by decide +kernel
theorem dX4_reckonSlot_59 : decode cX4_reckonSlot 59 = .ok (.invokevirtual 101, 3) := by decide +kernel
theorem dX4_reckonSlot_62 : decode cX4_reckonSlot 62 = .ok (.ifCond .ne 24, 3) := by decide +kernel
theorem dX4_reckonSlot_65 : decode cX4_reckonSlot 65 = .ok (.aload_n 0, 1) := by decide +kernel
theorem dX4_reckonSlot_66 : decode cX4_reckonSlot 66 = .ok (.aload_n 1, 1) := by decide +kernel
theorem dX4_reckonSlot_67 : decode cX4_reckonSlot 67 = .ok (.lload 7, 2) := by decide +kernel
theorem dX4_reckonSlot_69 : decode cX4_reckonSlot 69 = .ok (.ldc2_w 80, 3) := by decide +kernel
theorem dX4_reckonSlot_72 : decode cX4_reckonSlot 72 = .ok (.lload 9, 2) := by decide +kernel
theorem dX4_reckonSlot_74 : decode cX4_reckonSlot 74 = .ok (.lmul, 1) := by decide +kernel
theorem dX4_reckonSlot_75 : decode cX4_reckonSlot 75 = .ok (.iload_n 3, 1) := by decide +kernel
theorem dX4_reckonSlot_76 : decode cX4_reckonSlot 76 = .ok (.iload 4, 2) := by decide +kernel
theorem dX4_reckonSlot_78 : decode cX4_reckonSlot 78 = .ok (.invokevirtual 105, 3) := by decide +kernel
theorem dX4_reckonSlot_81 : decode cX4_reckonSlot 81 = .ok (.istore 5, 2) := by decide +kernel
theorem dX4_reckonSlot_83 : decode cX4_reckonSlot 83 = .ok (.goto 99, 3) := by decide +kernel
theorem dX4_reckonSlot_86 : decode cX4_reckonSlot 86 = .ok (.aload_n 1, 1) := by decide +kernel
theorem dX4_reckonSlot_87 : decode cX4_reckonSlot 87 = .ok (.lload 7, 2) := by decide +kernel
theorem dX4_reckonSlot_89 : decode cX4_reckonSlot 89 = .ok (.iload_n 2, 1) := by decide +kernel
theorem dX4_reckonSlot_90 : decode cX4_reckonSlot 90 = .ok (.invokevirtual 109, 3) := by decide +kernel
theorem dX4_reckonSlot_93 : decode cX4_reckonSlot 93 = .ok (.ifCond .eq 29, 3) := by decide +kernel
theorem dX4_reckonSlot_96 : decode cX4_reckonSlot 96 = .ok (.aload_n 0, 1) := by decide +kernel
theorem dX4_reckonSlot_97 : decode cX4_reckonSlot 97 = .ok (.aload_n 1, 1) := by decide +kernel
theorem dX4_reckonSlot_98 : decode cX4_reckonSlot 98 = .ok (.aload_n 1, 1) := by decide +kernel
theorem dX4_reckonSlot_99 : decode cX4_reckonSlot 99 = .ok (.lload 7, 2) := by decide +kernel
theorem dX4_reckonSlot_101 : decode cX4_reckonSlot 101 = .ok (.iload_n 2, 1) := by decide +kernel
theorem dX4_reckonSlot_102 : decode cX4_reckonSlot 102 = .ok (.invokevirtual 113, 3) := by decide +kernel
theorem dX4_reckonSlot_105 : decode cX4_reckonSlot 105 = .ok (.ldc2_w 80, 3) := by decide +kernel
theorem dX4_reckonSlot_108 : decode cX4_reckonSlot 108 = .ok (.lload 9, 2) := by decide +kernel
theorem dX4_reckonSlot_110 : decode cX4_reckonSlot 110 = .ok (.lmul, 1) := by decide +kernel
theorem dX4_reckonSlot_111 : decode cX4_reckonSlot 111 = .ok (.iload_n 3, 1) := by decide +kernel
theorem dX4_reckonSlot_112 : decode cX4_reckonSlot 112 = .ok (.iload 4, 2) := by decide +kernel
theorem dX4_reckonSlot_114 : decode cX4_reckonSlot 114 = .ok (.invokevirtual 105, 3) := by decide +kernel
theorem dX4_reckonSlot_117 : decode cX4_reckonSlot 117 = .ok (.istore 5, 2) := by decide +kernel
theorem dX4_reckonSlot_119 : decode cX4_reckonSlot 119 = .ok (.goto 63, 3) := by decide +kernel
theorem dX4_reckonSlot_122 : decode cX4_reckonSlot 122 = .ok (.aload_n 1, 1) := by decide +kernel
theorem dX4_reckonSlot_123 : decode cX4_reckonSlot 123 = .ok (.iload_n 2, 1) := by decide +kernel
theorem dX4_reckonSlot_124 : decode cX4_reckonSlot 124 = .ok (.invokevirtual 117, 3) := by decide +kernel
theorem dX4_reckonSlot_127 : decode cX4_reckonSlot 127 = .ok (.istore 11, 2) := by decide +kernel
theorem dX4_reckonSlot_129 : decode cX4_reckonSlot 129 = .ok (.aload_n 0, 1) := by decide +kernel
theorem dX4_reckonSlot_130 : decode cX4_reckonSlot 130 = .ok (.aload_n 1, 1) := by decide +kernel
theorem dX4_reckonSlot_131 : decode cX4_reckonSlot 131 = .ok (.lload 7, 2) := by decide +kernel
theorem dX4_reckonSlot_133 : decode cX4_reckonSlot 133 = .ok (.bipush 6, 2) := by decide +kernel
theorem dX4_reckonSlot_135 : decode cX4_reckonSlot 135 = .ok (.iload 11, 2) := by decide +kernel
theorem dX4_reckonSlot_137 : decode cX4_reckonSlot 137 = .ok (.isub, 1) := by decide +kernel
theorem dX4_reckonSlot_138 : decode cX4_reckonSlot 138 = .ok (.i2l, 1) := by decide +kernel
theorem dX4_reckonSlot_139 : decode cX4_reckonSlot 139 = .ok (.lload 9, 2) := by decide +kernel
theorem dX4_reckonSlot_141 : decode cX4_reckonSlot 141 = .ok (.lmul, 1) := by decide +kernel
theorem dX4_reckonSlot_142 : decode cX4_reckonSlot 142 = .ok (.iload_n 3, 1) := by decide +kernel
theorem dX4_reckonSlot_143 : decode cX4_reckonSlot 143 = .ok (.iload 4, 2) := by decide +kernel
theorem dX4_reckonSlot_145 : decode cX4_reckonSlot 145 = .ok (.invokevirtual 105, 3) := by decide +kernel
theorem dX4_reckonSlot_148 : decode cX4_reckonSlot 148 = .ok (.ifCond .eq 31, 3) := by decide +kernel
theorem dX4_reckonSlot_151 : decode cX4_reckonSlot 151 = .ok (.aload_n 0, 1) := by decide +kernel
theorem dX4_reckonSlot_152 : decode cX4_reckonSlot 152 = .ok (.aload_n 1, 1) := by decide +kernel
theorem dX4_reckonSlot_153 : decode cX4_reckonSlot 153 = .ok (.aload_n 1, 1) := by decide +kernel
theorem dX4_reckonSlot_154 : decode cX4_reckonSlot 154 = .ok (.lload 7, 2) := by decide +kernel
theorem dX4_reckonSlot_156 : decode cX4_reckonSlot 156 = .ok (.iload_n 2, 1) := by decide +kernel
theorem dX4_reckonSlot_157 : decode cX4_reckonSlot 157 = .ok (.invokevirtual 121, 3) := by decide +kernel
theorem dX4_reckonSlot_160 : decode cX4_reckonSlot 160 = .ok (.iload 11, 2) := by decide +kernel
theorem dX4_reckonSlot_162 : decode cX4_reckonSlot 162 = .ok (.i2l, 1) := by decide +kernel
theorem dX4_reckonSlot_163 : decode cX4_reckonSlot 163 = .ok (.lload 9, 2) := by decide +kernel
theorem dX4_reckonSlot_165 : decode cX4_reckonSlot 165 = .ok (.lmul, 1) := by decide +kernel
theorem dX4_reckonSlot_166 : decode cX4_reckonSlot 166 = .ok (.iload_n 3, 1) := by decide +kernel
theorem dX4_reckonSlot_167 : decode cX4_reckonSlot 167 = .ok (.iload 4, 2) := by decide +kernel
theorem dX4_reckonSlot_169 : decode cX4_reckonSlot 169 = .ok (.invokevirtual 105, 3) := by decide +kernel
theorem dX4_reckonSlot_172 : decode cX4_reckonSlot 172 = .ok (.ifCond .eq 7, 3) := by decide +kernel
theorem dX4_reckonSlot_175 : decode cX4_reckonSlot 175 = .ok (.iconst 1, 1) := by decide +kernel
theorem dX4_reckonSlot_176 : decode cX4_reckonSlot 176 = .ok (.goto 4, 3) := by decide +kernel
theorem dX4_reckonSlot_179 : decode cX4_reckonSlot 179 = .ok (.iconst 0, 1) := by decide +kernel
theorem dX4_reckonSlot_180 : decode cX4_reckonSlot 180 = .ok (.istore 5, 2) := by decide +kernel
theorem dX4_reckonSlot_182 : decode cX4_reckonSlot 182 = .ok (.iinc 6 1, 3) := by decide +kernel
theorem dX4_reckonSlot_185 : decode cX4_reckonSlot 185 = .ok (.goto (-172), 3) := by decide +kernel
theorem dX4_reckonSlot_188 : decode cX4_reckonSlot 188 = .ok (.aload_n 0, 1) := by decide +kernel
theorem dX4_reckonSlot_189 : decode cX4_reckonSlot 189 = .ok (.getfield 32, 3) := by decide +kernel
theorem dX4_reckonSlot_192 : decode cX4_reckonSlot 192 = .ok (.astore 6, 2) := by decide +kernel
theorem dX4_reckonSlot_194 : decode cX4_reckonSlot 194 = .ok (.aload_n 0, 1) := by decide +kernel
theorem dX4_reckonSlot_195 : decode cX4_reckonSlot 195 = .ok (.aload_n 0, 1) := by decide +kernel
theorem dX4_reckonSlot_196 : decode cX4_reckonSlot 196 = .ok (.getfield 36, 3) := by decide +kernel
theorem dX4_reckonSlot_199 : decode cX4_reckonSlot 199 = .ok (.putfield 32, 3) := by decide +kernel
theorem dX4_reckonSlot_202 : decode cX4_reckonSlot 202 = .ok (.aload_n 0, 1) := by decide +kernel
theorem dX4_reckonSlot_203 : decode cX4_reckonSlot 203 = .ok (.aload 6, 2) := by decide +kernel
theorem dX4_reckonSlot_205 : decode cX4_reckonSlot 205 = .ok (.putfield 36, 3) := by decide +kernel
theorem dX4_reckonSlot_208 : decode cX4_reckonSlot 208 = .ok (.iload 5, 2) := by decide +kernel
theorem dX4_reckonSlot_210 : decode cX4_reckonSlot 210 = .ok (.ireturn, 1) := by decide +kernel
theorem dX4_pass_0 : decode cX4_pass 0 = .ok (.lload 4, 2) := by decide +kernel
theorem dX4_pass_2 : decode cX4_pass 2 = .ok (.lconst 0, 1) := by decide +kernel
theorem dX4_pass_3 : decode cX4_pass 3 = .ok (.lcmp, 1) := by decide +kernel
theorem dX4_pass_4 : decode cX4_pass 4 = .ok (.ifCond .ne 5, 3) := by decide +kernel
theorem dX4_pass_7 : decode cX4_pass 7 = .ok (.iconst 1, 1) := by decide +kernel
theorem dX4_pass_8 : decode cX4_pass 8 = .ok (.ireturn, 1) := by decide +kernel
theorem dX4_pass_9 : decode cX4_pass 9 = .ok (.lload_n 2, 1) := by decide +kernel
theorem dX4_pass_10 : decode cX4_pass 10 = .ok (.invokestatic 61, 3) := by decide +kernel
theorem dX4_pass_13 : decode cX4_pass 13 = .ok (.istore 8, 2) := by decide +kernel
theorem dX4_pass_15 : decode cX4_pass 15 = .ok (.iload 8, 2) := by decide +kernel
theorem dX4_pass_17 : decode cX4_pass 17 = .ok (.iconst (-1), 1) := by decide +kernel
theorem dX4_pass_18 : decode cX4_pass 18 = .ok (.if_icmp .eq 17, 3) := by decide +kernel
theorem dX4_pass_21 : decode cX4_pass 21 = .ok (.aload_n 0, 1) := by decide +kernel
theorem dX4_pass_22 : decode cX4_pass 22 = .ok (.aload_n 1, 1) := by decide +kernel
theorem dX4_pass_23 : decode cX4_pass 23 = .ok (.lload_n 2, 1) := by decide +kernel
theorem dX4_pass_24 : decode cX4_pass 24 = .ok (.lload 4, 2) := by decide +kernel
theorem dX4_pass_26 : decode cX4_pass 26 = .ok (.iload 8, 2) := by decide +kernel
theorem dX4_pass_28 : decode cX4_pass 28 = .ok (.iload 6, 2) := by decide +kernel
theorem dX4_pass_30 : decode cX4_pass 30 = .ok (.invokevirtual 65, 3) := by decide +kernel
theorem dX4_pass_33 : decode cX4_pass 33 = .ok (.iconst 1, 1) := by decide +kernel
theorem dX4_pass_34 : decode cX4_pass 34 = .ok (.ireturn, 1) := by decide +kernel
theorem dX4_pass_35 : decode cX4_pass 35 = .ok (.iload 7, 2) := by decide +kernel
theorem dX4_pass_37 : decode cX4_pass 37 = .ok (.ifCond .eq 16, 3) := by decide +kernel
theorem dX4_pass_40 : decode cX4_pass 40 = .ok (.aload_n 0, 1) := by decide +kernel
theorem dX4_pass_41 : decode cX4_pass 41 = .ok (.aload_n 1, 1) := by decide +kernel
theorem dX4_pass_42 : decode cX4_pass 42 = .ok (.lload_n 2, 1) := by decide +kernel
theorem dX4_pass_43 : decode cX4_pass 43 = .ok (.lload 4, 2) := by decide +kernel
theorem dX4_pass_45 : decode cX4_pass 45 = .ok (.iconst 2, 1) := by decide +kernel
theorem dX4_pass_46 : decode cX4_pass 46 = .ok (.iload 6, 2) := by decide +kernel
theorem dX4_pass_48 : decode cX4_pass 48 = .ok (.invokevirtual 65, 3) := by decide +kernel
theorem dX4_pass_51 : decode cX4_pass 51 = .ok (.iconst 1, 1) := by decide +kernel
theorem dX4_pass_52 : decode cX4_pass 52 = .ok (.ireturn, 1) := by decide +kernel
theorem dX4_pass_53 : decode cX4_pass 53 = .ok (.aload_n 0, 1) := by decide +kernel
theorem dX4_pass_54 : decode cX4_pass 54 = .ok (.getfield 36, 3) := by decide +kernel
theorem dX4_pass_57 : decode cX4_pass 57 = .ok (.lload_n 2, 1) := by decide +kernel
theorem dX4_pass_58 : decode cX4_pass 58 = .ok (.lload 4, 2) := by decide +kernel
theorem dX4_pass_60 : decode cX4_pass 60 = .ok (.invokevirtual 69, 3) := by decide +kernel
theorem dX4_pass_63 : decode cX4_pass 63 = .ok (.ireturn, 1) := by decide +kernel
theorem dX4_tally_0 : decode cX4_tally 0 = .ok (.lload 4, 2) := by decide +kernel
theorem dX4_tally_2 : decode cX4_tally 2 = .ok (.aload_n 0, 1) := by decide +kernel
theorem dX4_tally_3 : decode cX4_tally 3 = .ok (.getfield 39, 3) := by decide +kernel
theorem dX4_tally_6 : decode cX4_tally 6 = .ok (.lmul, 1) := by decide +kernel
theorem dX4_tally_7 : decode cX4_tally 7 = .ok (.lstore 8, 2) := by decide +kernel
theorem dX4_tally_9 : decode cX4_tally 9 = .ok (.aload_n 0, 1) := by decide +kernel
theorem dX4_tally_10 : decode cX4_tally 10 = .ok (.getfield 19, 3) := by decide +kernel
theorem dX4_tally_13 : decode cX4_tally 13 = .ok (.iload 6, 2) := by decide +kernel
theorem dX4_tally_15 : decode cX4_tally 15 = .ok (.dup2, 1) := by decide +kernel
theorem dX4_tally_16 : decode cX4_tally 16 = .ok (.laload, 1) := by decide +kernel
theorem dX4_tally_17 : decode cX4_tally 17 = .ok (.lload 8, 2) := by decide +kernel
theorem dX4_tally_19 : decode cX4_tally 19 = .ok (.ladd, 1) := by decide +kernel
theorem dX4_tally_20 : decode cX4_tally 20 = .ok (.lastore, 1) := by decide +kernel
theorem dX4_tally_21 : decode cX4_tally 21 = .ok (.iload 6, 2) := by decide +kernel
theorem dX4_tally_23 : decode cX4_tally 23 = .ok (.iconst 2, 1) := by decide +kernel
theorem dX4_tally_24 : decode cX4_tally 24 = .ok (.if_icmp .eq 15, 3) := by decide +kernel
theorem dX4_tally_27 : decode cX4_tally 27 = .ok (.aload_n 0, 1) := by decide +kernel
theorem dX4_tally_28 : decode cX4_tally 28 = .ok (.getfield 23, 3) := by decide +kernel
theorem dX4_tally_31 : decode cX4_tally 31 = .ok (.iload 7, 2) := by decide +kernel
theorem dX4_tally_33 : decode cX4_tally 33 = .ok (.dup2, 1) := by decide +kernel
theorem dX4_tally_34 : decode cX4_tally 34 = .ok (.laload, 1) := by decide +kernel
theorem dX4_tally_35 : decode cX4_tally 35 = .ok (.lload 8, 2) := by decide +kernel
theorem dX4_tally_37 : decode cX4_tally 37 = .ok (.ladd, 1) := by decide +kernel
theorem dX4_tally_38 : decode cX4_tally 38 = .ok (.lastore, 1) := by decide +kernel
theorem dX4_tally_39 : decode cX4_tally 39 = .ok (.iconst 0, 1) := by decide +kernel
theorem dX4_tally_40 : decode cX4_tally 40 = .ok (.istore 10, 2) := by decide +kernel
theorem dX4_tally_42 : decode cX4_tally 42 = .ok (.iload 10, 2) := by decide +kernel
theorem dX4_tally_44 : decode cX4_tally 44 = .ok (.aload_n 1, 1) := by decide +kernel
theorem dX4_tally_45 : decode cX4_tally 45 = .ok (.getfield 47, 3) := by decide +kernel
theorem dX4_tally_48 : decode cX4_tally 48 = .ok (.if_icmp .ge 40, 3) := by decide +kernel
theorem dX4_tally_51 : decode cX4_tally 51 = .ok (.aload_n 1, 1) := by decide +kernel
theorem dX4_tally_52 : decode cX4_tally 52 = .ok (.getfield 82, 3) := by decide +kernel
theorem dX4_tally_55 : decode cX4_tally 55 = .ok (.iload 10, 2) := by decide +kernel
theorem dX4_tally_57 : decode cX4_tally 57 = .ok (.iaload, 1) := by decide +kernel
theorem dX4_tally_58 : decode cX4_tally 58 = .ok (.istore 11, 2) := by decide +kernel
theorem dX4_tally_60 : decode cX4_tally 60 = .ok (.aload_n 0, 1) := by decide +kernel
theorem dX4_tally_61 : decode cX4_tally 61 = .ok (.getfield 26, 3) := by decide +kernel
theorem dX4_tally_64 : decode cX4_tally 64 = .ok (.bipush 64, 2) := by decide +kernel
theorem dX4_tally_66 : decode cX4_tally 66 = .ok (.iload 11, 2) := by decide +kernel
theorem dX4_tally_68 : decode cX4_tally 68 = .ok (.imul, 1) := by decide +kernel
theorem dX4_tally_69 : decode cX4_tally 69 = .ok (.lload_n 2, 1) := by decide +kernel
theorem dX4_tally_70 : decode cX4_tally 70 = .ok (.iload 11, 2) := by decide +kernel
theorem dX4_tally_72 : decode cX4_tally 72 = .ok (.invokestatic 124, 3) := by decide +kernel
theorem dX4_tally_75 : decode cX4_tally 75 = .ok (.iadd, 1) := by decide +kernel
theorem dX4_tally_76 : decode cX4_tally 76 = .ok (.dup2, 1) := by decide +kernel
theorem dX4_tally_77 : decode cX4_tally 77 = .ok (.laload, 1) := by decide +kernel
theorem dX4_tally_78 : decode cX4_tally 78 = .ok (.lload 8, 2) := by decide +kernel
theorem dX4_tally_80 : decode cX4_tally 80 = .ok (.ladd, 1) := by decide +kernel
theorem dX4_tally_81 : decode cX4_tally 81 = .ok (.lastore, 1) := by decide +kernel
theorem dX4_tally_82 : decode cX4_tally 82 = .ok (.iinc 10 1, 3) := by decide +kernel
theorem dX4_tally_85 : decode cX4_tally 85 = .ok (.goto (-43), 3) := by decide +kernel
theorem dX4_tally_88 : decode cX4_tally 88 = .ok (.return_, 1) := by decide +kernel
theorem dX5_init_0 : decode cX5_init 0 = .ok (.aload_n 0, 1) := by decide +kernel
theorem dX5_init_1 : decode cX5_init 1 = .ok (.invokespecial 3, 3) := by decide +kernel
theorem dX5_init_4 : decode cX5_init 4 = .ok (.aload_n 0, 1) := by decide +kernel
theorem dX5_init_5 : decode cX5_init 5 = .ok (.bipush 96, 2) := by decide +kernel
theorem dX5_init_7 : decode cX5_init 7 = .ok (.newarray .int, 2) := by decide +kernel
theorem dX5_init_9 : decode cX5_init 9 = .ok (.putfield 11, 3) := by decide +kernel
theorem dX5_init_12 : decode cX5_init 12 = .ok (.aload_n 0, 1) := by decide +kernel
theorem dX5_init_13 : decode cX5_init 13 = .ok (.iconst 0, 1) := by decide +kernel
theorem dX5_init_14 : decode cX5_init 14 = .ok (.putfield 15, 3) := by decide +kernel
theorem dX5_init_17 : decode cX5_init 17 = .ok (.return_, 1) := by decide +kernel
theorem dX5_fits_0 : decode cX5_fits 0 = .ok (.iload_n 0, 1) := by decide +kernel
theorem dX5_fits_1 : decode cX5_fits 1 = .ok (.ifCond .lt 30, 3) := by decide +kernel
theorem dX5_fits_4 : decode cX5_fits 4 = .ok (.iload_n 0, 1) := by decide +kernel
theorem dX5_fits_5 : decode cX5_fits 5 = .ok (.iconst 5, 1) := by decide +kernel
theorem dX5_fits_6 : decode cX5_fits 6 = .ok (.if_icmp .gt 25, 3) := by decide +kernel
theorem dX5_fits_9 : decode cX5_fits 9 = .ok (.iload_n 1, 1) := by decide +kernel
theorem dX5_fits_10 : decode cX5_fits 10 = .ok (.getstatic 19, 3) := by decide +kernel
theorem dX5_fits_13 : decode cX5_fits 13 = .ok (.iload_n 0, 1) := by decide +kernel
theorem dX5_fits_14 : decode cX5_fits 14 = .ok (.iaload, 1) := by decide +kernel
theorem dX5_fits_15 : decode cX5_fits 15 = .ok (.if_icmp .lt 16, 3) := by decide +kernel
theorem dX5_fits_18 : decode cX5_fits 18 = .ok (.iload_n 1, 1) := by decide +kernel
theorem dX5_fits_19 : decode cX5_fits 19 = .ok (.getstatic 22, 3) := by decide +kernel
theorem dX5_fits_22 : decode cX5_fits 22 = .ok (.iload_n 0, 1) := by decide +kernel
theorem dX5_fits_23 : decode cX5_fits 23 = .ok (.iaload, 1) := by decide +kernel
theorem dX5_fits_24 : decode cX5_fits 24 = .ok (.if_icmp .gt 7, 3) := by decide +kernel
theorem dX5_fits_27 : decode cX5_fits 27 = .ok (.iconst 1, 1) := by decide +kernel
theorem dX5_fits_28 : decode cX5_fits 28 = .ok (.goto 4, 3) := by decide +kernel
theorem dX5_fits_31 : decode cX5_fits 31 = .ok (.iconst 0, 1) := by decide +kernel
theorem dX5_fits_32 : decode cX5_fits 32 = .ok (.ireturn, 1) := by decide +kernel
theorem dX5_has_0 : decode cX5_has 0 = .ok (.iload_n 1, 1) := by decide +kernel
theorem dX5_has_1 : decode cX5_has 1 = .ok (.ifCond .lt 15, 3) := by decide +kernel
theorem dX5_has_4 : decode cX5_has 4 = .ok (.iload_n 1, 1) := by decide +kernel
theorem dX5_has_5 : decode cX5_has 5 = .ok (.aload_n 0, 1) := by decide +kernel
theorem dX5_has_6 : decode cX5_has 6 = .ok (.getfield 15, 3) := by decide +kernel
theorem dX5_has_9 : decode cX5_has 9 = .ok (.if_icmp .ge 7, 3) := by decide +kernel
theorem dX5_has_12 : decode cX5_has 12 = .ok (.iconst 1, 1) := by decide +kernel
theorem dX5_has_13 : decode cX5_has 13 = .ok (.goto 4, 3) := by decide +kernel
theorem dX5_has_16 : decode cX5_has 16 = .ok (.iconst 0, 1) := by decide +kernel
theorem dX5_has_17 : decode cX5_has 17 = .ok (.ireturn, 1) := by decide +kernel
theorem dX5_number_0 : decode cX5_number 0 = .ok (.aload_n 0, 1) := by decide +kernel
theorem dX5_number_1 : decode cX5_number 1 = .ok (.iload_n 1, 1) := by decide +kernel
theorem dX5_number_2 : decode cX5_number 2 = .ok (.invokevirtual 25, 3) := by decide +kernel
theorem dX5_number_5 : decode cX5_number 5 = .ok (.ifCond .eq 17, 3) := by decide +kernel
theorem dX5_number_8 : decode cX5_number 8 = .ok (.aload_n 0, 1) := by decide +kernel
theorem dX5_number_9 : decode cX5_number 9 = .ok (.getfield 11, 3) := by decide +kernel
theorem dX5_number_12 : decode cX5_number 12 = .ok (.bipush 6, 2) := by decide +kernel
theorem dX5_number_14 : decode cX5_number 14 = .ok (.iload_n 1, 1) := by decide +kernel
theorem dX5_number_15 : decode cX5_number 15 = .ok (.imul, 1) := by decide +kernel
theorem dX5_number_16 : decode cX5_number 16 = .ok (.iload_n 2, 1) := by decide +kernel
theorem dX5_number_17 : decode cX5_number 17 = .ok (.iadd, 1) := by decide +kernel
theorem dX5_number_18 : decode cX5_number 18 = .ok (.iaload, 1) := by decide +kernel
theorem dX5_number_19 : decode cX5_number 19 = .ok (.goto 4, 3) := by decide +kernel
theorem dX5_number_22 : decode cX5_number 22 = .ok (.iconst 0, 1) := by decide +kernel
theorem dX5_number_23 : decode cX5_number 23 = .ok (.ireturn, 1) := by decide +kernel
theorem dX5_change_0 : decode cX5_change 0 = .ok (.aload_n 0, 1) := by decide +kernel
theorem dX5_change_1 : decode cX5_change 1 = .ok (.iload_n 1, 1) := by decide +kernel
theorem dX5_change_2 : decode cX5_change 2 = .ok (.invokevirtual 25, 3) := by decide +kernel
theorem dX5_change_5 : decode cX5_change 5 = .ok (.ifCond .eq 15, 3) := by decide +kernel
theorem dX5_change_8 : decode cX5_change 8 = .ok (.aload_n 0, 1) := by decide +kernel
theorem dX5_change_9 : decode cX5_change 9 = .ok (.getfield 11, 3) := by decide +kernel
theorem dX5_change_12 : decode cX5_change 12 = .ok (.bipush 6, 2) := by decide +kernel
theorem dX5_change_14 : decode cX5_change 14 = .ok (.iload_n 1, 1) := by decide +kernel
theorem dX5_change_15 : decode cX5_change 15 = .ok (.imul, 1) := by decide +kernel
theorem dX5_change_16 : decode cX5_change 16 = .ok (.iload_n 2, 1) := by decide +kernel
theorem dX5_change_17 : decode cX5_change 17 = .ok (.iadd, 1) := by decide +kernel
theorem dX5_change_18 : decode cX5_change 18 = .ok (.iload_n 3, 1) := by decide +kernel
theorem dX5_change_19 : decode cX5_change 19 = .ok (.iastore, 1) := by decide +kernel
theorem dX5_change_20 : decode cX5_change 20 = .ok (.return_, 1) := by decide +kernel
theorem dX6_init_0 : decode cX6_init 0 = .ok (.aload_n 0, 1) := by decide +kernel
theorem dX6_init_1 : decode cX6_init 1 = .ok (.invokespecial 3, 3) := by decide +kernel
theorem dX6_init_4 : decode cX6_init 4 = .ok (.aload_n 0, 1) := by decide +kernel
theorem dX6_init_5 : decode cX6_init 5 = .ok (.iconst 3, 1) := by decide +kernel
theorem dX6_init_6 : decode cX6_init 6 = .ok (.newarray .int, 2) := by decide +kernel
theorem dX6_init_8 : decode cX6_init 8 = .ok (.dup, 1) := by decide +kernel
theorem dX6_init_9 : decode cX6_init 9 = .ok (.iconst 0, 1) := by decide +kernel
theorem dX6_init_10 : decode cX6_init 10 = .ok (.iconst (-1), 1) := by decide +kernel
theorem dX6_init_11 : decode cX6_init 11 = .ok (.iastore, 1) := by decide +kernel
theorem dX6_init_12 : decode cX6_init 12 = .ok (.dup, 1) := by decide +kernel
theorem dX6_init_13 : decode cX6_init 13 = .ok (.iconst 1, 1) := by decide +kernel
theorem dX6_init_14 : decode cX6_init 14 = .ok (.iconst (-1), 1) := by decide +kernel
theorem dX6_init_15 : decode cX6_init 15 = .ok (.iastore, 1) := by decide +kernel
theorem dX6_init_16 : decode cX6_init 16 = .ok (.dup, 1) := by decide +kernel
theorem dX6_init_17 : decode cX6_init 17 = .ok (.iconst 2, 1) := by decide +kernel
theorem dX6_init_18 : decode cX6_init 18 = .ok (.iconst (-1), 1) := by decide +kernel
theorem dX6_init_19 : decode cX6_init 19 = .ok (.iastore, 1) := by decide +kernel
theorem dX6_init_20 : decode cX6_init 20 = .ok (.putfield 9, 3) := by decide +kernel
theorem dX6_init_23 : decode cX6_init 23 = .ok (.aload_n 0, 1) := by decide +kernel
theorem dX6_init_24 : decode cX6_init 24 = .ok (.iconst 0, 1) := by decide +kernel
theorem dX6_init_25 : decode cX6_init 25 = .ok (.putfield 15, 3) := by decide +kernel
theorem dX6_init_28 : decode cX6_init 28 = .ok (.return_, 1) := by decide +kernel
theorem dX6_become_0 : decode cX6_become 0 = .ok (.aload_n 0, 1) := by decide +kernel
theorem dX6_become_1 : decode cX6_become 1 = .ok (.getfield 9, 3) := by decide +kernel
theorem dX6_become_4 : decode cX6_become 4 = .ok (.iconst 0, 1) := by decide +kernel
theorem dX6_become_5 : decode cX6_become 5 = .ok (.iload_n 1, 1) := by decide +kernel
theorem dX6_become_6 : decode cX6_become 6 = .ok (.iastore, 1) := by decide +kernel
theorem dX6_become_7 : decode cX6_become 7 = .ok (.aload_n 0, 1) := by decide +kernel
theorem dX6_become_8 : decode cX6_become 8 = .ok (.getfield 9, 3) := by decide +kernel
theorem dX6_become_11 : decode cX6_become 11 = .ok (.iconst 1, 1) := by decide +kernel
theorem dX6_become_12 : decode cX6_become 12 = .ok (.iload_n 2, 1) := by decide +kernel
theorem dX6_become_13 : decode cX6_become 13 = .ok (.iastore, 1) := by decide +kernel
theorem dX6_become_14 : decode cX6_become 14 = .ok (.aload_n 0, 1) := by decide +kernel
theorem dX6_become_15 : decode cX6_become 15 = .ok (.getfield 9, 3) := by decide +kernel
theorem dX6_become_18 : decode cX6_become 18 = .ok (.iconst 2, 1) := by decide +kernel
theorem dX6_become_19 : decode cX6_become 19 = .ok (.iload_n 3, 1) := by decide +kernel
theorem dX6_become_20 : decode cX6_become 20 = .ok (.iastore, 1) := by decide +kernel
theorem dX6_become_21 : decode cX6_become 21 = .ok (.aload_n 0, 1) := by decide +kernel
theorem dX6_become_22 : decode cX6_become 22 = .ok (.iload 4, 2) := by decide +kernel
theorem dX6_become_24 : decode cX6_become 24 = .ok (.putfield 15, 3) := by decide +kernel
theorem dX6_become_27 : decode cX6_become 27 = .ok (.return_, 1) := by decide +kernel
theorem dX6_who_0 : decode cX6_who 0 = .ok (.iload_n 1, 1) := by decide +kernel
theorem dX6_who_1 : decode cX6_who 1 = .ok (.invokestatic 19, 3) := by decide +kernel
theorem dX6_who_4 : decode cX6_who 4 = .ok (.ifCond .eq 12, 3) := by decide +kernel
theorem dX6_who_7 : decode cX6_who 7 = .ok (.aload_n 0, 1) := by decide +kernel
theorem dX6_who_8 : decode cX6_who 8 = .ok (.getfield 9, 3) := by decide +kernel
theorem dX6_who_11 : decode cX6_who 11 = .ok (.iload_n 1, 1) := by decide +kernel
theorem dX6_who_12 : decode cX6_who 12 = .ok (.iaload, 1) := by decide +kernel
theorem dX6_who_13 : decode cX6_who 13 = .ok (.goto 4, 3) := by decide +kernel
theorem dX6_who_16 : decode cX6_who 16 = .ok (.iconst (-1), 1) := by decide +kernel
theorem dX6_who_17 : decode cX6_who 17 = .ok (.ireturn, 1) := by decide +kernel
theorem dX7_init_0 : decode cX7_init 0 = .ok (.aload_n 0, 1) := by decide +kernel
theorem dX7_init_1 : decode cX7_init 1 = .ok (.invokespecial 3, 3) := by decide +kernel
theorem dX7_init_4 : decode cX7_init 4 = .ok (.aload_n 0, 1) := by decide +kernel
theorem dX7_init_5 : decode cX7_init 5 = .ok (.bipush 60, 2) := by decide +kernel
theorem dX7_init_7 : decode cX7_init 7 = .ok (.newarray .int, 2) := by decide +kernel
theorem dX7_init_9 : decode cX7_init 9 = .ok (.putfield 9, 3) := by decide +kernel
theorem dX7_init_12 : decode cX7_init 12 = .ok (.aload_n 0, 1) := by decide +kernel
theorem dX7_init_13 : decode cX7_init 13 = .ok (.iconst 0, 1) := by decide +kernel
theorem dX7_init_14 : decode cX7_init 14 = .ok (.putfield 15, 3) := by decide +kernel
theorem dX7_init_17 : decode cX7_init 17 = .ok (.aload_n 0, 1) := by decide +kernel
theorem dX7_init_18 : decode cX7_init 18 = .ok (.iconst 0, 1) := by decide +kernel
theorem dX7_init_19 : decode cX7_init 19 = .ok (.putfield 19, 3) := by decide +kernel
theorem dX7_init_22 : decode cX7_init 22 = .ok (.aload_n 0, 1) := by decide +kernel
theorem dX7_init_23 : decode cX7_init 23 = .ok (.iconst 1, 1) := by decide +kernel
theorem dX7_init_24 : decode cX7_init 24 = .ok (.putfield 22, 3) := by decide +kernel
theorem dX7_init_27 : decode cX7_init 27 = .ok (.return_, 1) := by decide +kernel
theorem dX7_renew_0 : decode cX7_renew 0 = .ok (.aload_n 0, 1) := by decide +kernel
theorem dX7_renew_1 : decode cX7_renew 1 = .ok (.iload_n 1, 1) := by decide +kernel
theorem dX7_renew_2 : decode cX7_renew 2 = .ok (.putfield 15, 3) := by decide +kernel
theorem dX7_renew_5 : decode cX7_renew 5 = .ok (.aload_n 0, 1) := by decide +kernel
theorem dX7_renew_6 : decode cX7_renew 6 = .ok (.iload_n 2, 1) := by decide +kernel
theorem dX7_renew_7 : decode cX7_renew 7 = .ok (.putfield 19, 3) := by decide +kernel
theorem dX7_renew_10 : decode cX7_renew 10 = .ok (.aload_n 0, 1) := by decide +kernel
theorem dX7_renew_11 : decode cX7_renew 11 = .ok (.iconst 0, 1) := by decide +kernel
theorem dX7_renew_12 : decode cX7_renew 12 = .ok (.putfield 22, 3) := by decide +kernel
theorem dX7_renew_15 : decode cX7_renew 15 = .ok (.iconst 0, 1) := by decide +kernel
theorem dX7_renew_16 : decode cX7_renew 16 = .ok (.istore_n 3, 1) := by decide +kernel
theorem dX7_renew_17 : decode cX7_renew 17 = .ok (.iload_n 3, 1) := by decide +kernel
theorem dX7_renew_18 : decode cX7_renew 18 = .ok (.aload_n 0, 1) := by decide +kernel
theorem dX7_renew_19 : decode cX7_renew 19 = .ok (.getfield 9, 3) := by decide +kernel
theorem dX7_renew_22 : decode cX7_renew 22 = .ok (.arraylength, 1) := by decide +kernel
theorem dX7_renew_23 : decode cX7_renew 23 = .ok (.if_icmp .ge 16, 3) := by decide +kernel
theorem dX7_renew_26 : decode cX7_renew 26 = .ok (.aload_n 0, 1) := by decide +kernel
theorem dX7_renew_27 : decode cX7_renew 27 = .ok (.getfield 9, 3) := by decide +kernel
theorem dX7_renew_30 : decode cX7_renew 30 = .ok (.iload_n 3, 1) := by decide +kernel
theorem dX7_renew_31 : decode cX7_renew 31 = .ok (.iconst 0, 1) := by decide +kernel
theorem dX7_renew_32 : decode cX7_renew 32 = .ok (.iastore, 1) := by decide +kernel
theorem dX7_renew_33 : decode cX7_renew 33 = .ok (.iinc 3 1, 3) := by decide +kernel
theorem dX7_renew_36 : decode cX7_renew 36 = .ok (.goto (-19), 3) := by decide +kernel
theorem dX7_renew_39 : decode cX7_renew 39 = .ok (.return_, 1) := by decide +kernel
theorem dX7_has_0 : decode cX7_has 0 = .ok (.iload_n 1, 1) := by decide +kernel
theorem dX7_has_1 : decode cX7_has 1 = .ok (.ifCond .lt 24, 3) := by decide +kernel
theorem dX7_has_4 : decode cX7_has 4 = .ok (.iload_n 1, 1) := by decide +kernel
theorem dX7_has_5 : decode cX7_has 5 = .ok (.aload_n 0, 1) := by decide +kernel
theorem dX7_has_6 : decode cX7_has 6 = .ok (.getfield 19, 3) := by decide +kernel
theorem dX7_has_9 : decode cX7_has 9 = .ok (.if_icmp .ge 16, 3) := by decide +kernel
theorem dX7_has_12 : decode cX7_has 12 = .ok (.iload_n 1, 1) := by decide +kernel
theorem dX7_has_13 : decode cX7_has 13 = .ok (.aload_n 0, 1) := by decide +kernel
theorem dX7_has_14 : decode cX7_has 14 = .ok (.getfield 9, 3) := by decide +kernel
theorem dX7_has_17 : decode cX7_has 17 = .ok (.arraylength, 1) := by decide +kernel
theorem dX7_has_18 : decode cX7_has 18 = .ok (.if_icmp .ge 7, 3) := by decide +kernel
theorem dX7_has_21 : decode cX7_has 21 = .ok (.iconst 1, 1) := by decide +kernel
theorem dX7_has_22 : decode cX7_has 22 = .ok (.goto 4, 3) := by decide +kernel
theorem dX7_has_25 : decode cX7_has 25 = .ok (.iconst 0, 1) := by decide +kernel
theorem dX7_has_26 : decode cX7_has 26 = .ok (.ireturn, 1) := by decide +kernel
theorem dX7_item_0 : decode cX7_item 0 = .ok (.aload_n 0, 1) := by decide +kernel
theorem dX7_item_1 : decode cX7_item 1 = .ok (.iload_n 1, 1) := by decide +kernel
theorem dX7_item_2 : decode cX7_item 2 = .ok (.invokevirtual 26, 3) := by decide +kernel
theorem dX7_item_5 : decode cX7_item 5 = .ok (.ifCond .eq 12, 3) := by decide +kernel
theorem dX7_item_8 : decode cX7_item 8 = .ok (.aload_n 0, 1) := by decide +kernel
theorem dX7_item_9 : decode cX7_item 9 = .ok (.getfield 9, 3) := by decide +kernel
theorem dX7_item_12 : decode cX7_item 12 = .ok (.iload_n 1, 1) := by decide +kernel
theorem dX7_item_13 : decode cX7_item 13 = .ok (.iaload, 1) := by decide +kernel
theorem dX7_item_14 : decode cX7_item 14 = .ok (.goto 4, 3) := by decide +kernel
theorem dX7_item_17 : decode cX7_item 17 = .ok (.iconst 0, 1) := by decide +kernel
theorem dX7_item_18 : decode cX7_item 18 = .ok (.ireturn, 1) := by decide +kernel
theorem dX7_store_0 : decode cX7_store 0 = .ok (.aload_n 0, 1) := by decide +kernel
theorem dX7_store_1 : decode cX7_store 1 = .ok (.iload_n 1, 1) := by decide +kernel
theorem dX7_store_2 : decode cX7_store 2 = .ok (.invokevirtual 26, 3) := by decide +kernel
theorem dX7_store_5 : decode cX7_store 5 = .ok (.ifCond .eq 35, 3) := by decide +kernel
theorem dX7_store_8 : decode cX7_store 8 = .ok (.aload_n 0, 1) := by decide +kernel
theorem dX7_store_9 : decode cX7_store 9 = .ok (.getfield 9, 3) := by decide +kernel
theorem dX7_store_12 : decode cX7_store 12 = .ok (.iload_n 1, 1) := by decide +kernel
theorem dX7_store_13 : decode cX7_store 13 = .ok (.aload_n 0, 1) := by decide +kernel
theorem dX7_store_14 : decode cX7_store 14 = .ok (.getfield 15, 3) := by decide +kernel
theorem dX7_store_17 : decode cX7_store 17 = .ok (.ifCond .ne 8, 3) := by decide +kernel
theorem dX7_store_20 : decode cX7_store 20 = .ok (.iload_n 2, 1) := by decide +kernel
theorem dX7_store_21 : decode cX7_store 21 = .ok (.i2b, 1) := by decide +kernel
theorem dX7_store_22 : decode cX7_store 22 = .ok (.goto 17, 3) := by decide +kernel
theorem dX7_store_25 : decode cX7_store 25 = .ok (.aload_n 0, 1) := by decide +kernel
theorem dX7_store_26 : decode cX7_store 26 = .ok (.getfield 15, 3) := by decide +kernel
theorem dX7_store_29 : decode cX7_store 29 = .ok (.iconst 1, 1) := by decide +kernel
theorem dX7_store_30 : decode cX7_store 30 = .ok (.if_icmp .ne 8, 3) := by decide +kernel
theorem dX7_store_33 : decode cX7_store 33 = .ok (.iload_n 2, 1) := by decide +kernel
theorem dX7_store_34 : decode cX7_store 34 = .ok (.i2s, 1) := by decide +kernel
theorem dX7_store_35 : decode cX7_store 35 = .ok (.goto 4, 3) := by decide +kernel
theorem dX7_store_38 : decode cX7_store 38 = .ok (.iload_n 2, 1) := by decide +kernel
theorem dX7_store_39 : decode cX7_store 39 = .ok (.iastore, 1) := by decide +kernel
theorem dX7_store_40 : decode cX7_store 40 = .ok (.return_, 1) := by decide +kernel
theorem dX8_init_0 : decode cX8_init 0 = .ok (.aload_n 0, 1) := by decide +kernel
theorem dX8_init_1 : decode cX8_init 1 = .ok (.invokespecial 1, 3) := by decide +kernel
theorem dX8_init_4 : decode cX8_init 4 = .ok (.aload_n 0, 1) := by decide +kernel
theorem dX8_init_5 : decode cX8_init 5 = .ok (.new 7, 3) := by decide +kernel
theorem dX8_init_8 : decode cX8_init 8 = .ok (.dup, 1) := by decide +kernel
theorem dX8_init_9 : decode cX8_init 9 = .ok (.invokespecial 9, 3) := by decide +kernel
theorem dX8_init_12 : decode cX8_init 12 = .ok (.putfield 10, 3) := by decide +kernel
theorem dX8_init_15 : decode cX8_init 15 = .ok (.aload_n 0, 1) := by decide +kernel
theorem dX8_init_16 : decode cX8_init 16 = .ok (.iconst 2, 1) := by decide +kernel
theorem dX8_init_17 : decode cX8_init 17 = .ok (.anewarray 16, 3) := by decide +kernel
theorem dX8_init_20 : decode cX8_init 20 = .ok (.putfield 18, 3) := by decide +kernel
theorem dX8_init_23 : decode cX8_init 23 = .ok (.aload_n 0, 1) := by decide +kernel
theorem dX8_init_24 : decode cX8_init 24 = .ok (.new 22, 3) := by decide +kernel
theorem dX8_init_27 : decode cX8_init 27 = .ok (.dup, 1) := by decide +kernel
theorem dX8_init_28 : decode cX8_init 28 = .ok (.invokespecial 24, 3) := by decide +kernel
theorem dX8_init_31 : decode cX8_init 31 = .ok (.putfield 25, 3) := by decide +kernel
theorem dX8_init_34 : decode cX8_init 34 = .ok (.aload_n 0, 1) := by decide +kernel
theorem dX8_init_35 : decode cX8_init 35 = .ok (.new 29, 3) := by decide +kernel
theorem dX8_init_38 : decode cX8_init 38 = .ok (.dup, 1) := by decide +kernel
theorem dX8_init_39 : decode cX8_init 39 = .ok (.invokespecial 31, 3) := by decide +kernel
theorem dX8_init_42 : decode cX8_init 42 = .ok (.putfield 32, 3) := by decide +kernel
theorem dX8_init_45 : decode cX8_init 45 = .ok (.aload_n 0, 1) := by decide +kernel
theorem dX8_init_46 : decode cX8_init 46 = .ok (.new 36, 3) := by decide +kernel
theorem dX8_init_49 : decode cX8_init 49 = .ok (.dup, 1) := by decide +kernel
theorem dX8_init_50 : decode cX8_init 50 = .ok (.invokespecial 38, 3) := by decide +kernel
theorem dX8_init_53 : decode cX8_init 53 = .ok (.putfield 39, 3) := by decide +kernel
theorem dX8_init_56 : decode cX8_init 56 = .ok (.aload_n 0, 1) := by decide +kernel
theorem dX8_init_57 : decode cX8_init 57 = .ok (.bipush 27, 2) := by decide +kernel
theorem dX8_init_59 : decode cX8_init 59 = .ok (.newarray .int, 2) := by decide +kernel
theorem dX8_init_61 : decode cX8_init 61 = .ok (.putfield 43, 3) := by decide +kernel
theorem dX8_init_64 : decode cX8_init 64 = .ok (.aload_n 0, 1) := by decide +kernel
theorem dX8_init_65 : decode cX8_init 65 = .ok (.new 47, 3) := by decide +kernel
theorem dX8_init_68 : decode cX8_init 68 = .ok (.dup, 1) := by decide +kernel
theorem dX8_init_69 : decode cX8_init 69 = .ok (.invokespecial 49, 3) := by decide +kernel
theorem dX8_init_72 : decode cX8_init 72 = .ok (.putfield 50, 3) := by decide +kernel
theorem dX8_init_75 : decode cX8_init 75 = .ok (.aload_n 0, 1) := by decide +kernel
theorem dX8_init_76 : decode cX8_init 76 = .ok (.iconst 4, 1) := by decide +kernel
theorem dX8_init_77 : decode cX8_init 77 = .ok (.anewarray 54, 3) := by decide +kernel
theorem dX8_init_80 : decode cX8_init 80 = .ok (.putfield 56, 3) := by decide +kernel
theorem dX8_init_83 : decode cX8_init 83 = .ok (.aload_n 0, 1) := by decide +kernel
theorem dX8_init_84 : decode cX8_init 84 = .ok (.iconst 3, 1) := by decide +kernel
theorem dX8_init_85 : decode cX8_init 85 = .ok (.putfield 60, 3) := by decide +kernel
theorem dX8_init_88 : decode cX8_init 88 = .ok (.aload_n 0, 1) := by decide +kernel
theorem dX8_init_89 : decode cX8_init 89 = .ok (.iconst 0, 1) := by decide +kernel
theorem dX8_init_90 : decode cX8_init 90 = .ok (.putfield 64, 3) := by decide +kernel
theorem dX8_init_93 : decode cX8_init 93 = .ok (.aload_n 0, 1) := by decide +kernel
theorem dX8_init_94 : decode cX8_init 94 = .ok (.iconst (-1), 1) := by decide +kernel
theorem dX8_init_95 : decode cX8_init 95 = .ok (.putfield 67, 3) := by decide +kernel
theorem dX8_init_98 : decode cX8_init 98 = .ok (.aload_n 0, 1) := by decide +kernel
theorem dX8_init_99 : decode cX8_init 99 = .ok (.iconst 0, 1) := by decide +kernel
theorem dX8_init_100 : decode cX8_init 100 = .ok (.putfield 70, 3) := by decide +kernel
theorem dX8_init_103 : decode cX8_init 103 = .ok (.aload_n 0, 1) := by decide +kernel
theorem dX8_init_104 : decode cX8_init 104 = .ok (.iconst 0, 1) := by decide +kernel
theorem dX8_init_105 : decode cX8_init 105 = .ok (.putfield 73, 3) := by decide +kernel
theorem dX8_init_108 : decode cX8_init 108 = .ok (.iconst 0, 1) := by decide +kernel
theorem dX8_init_109 : decode cX8_init 109 = .ok (.istore_n 1, 1) := by decide +kernel
theorem dX8_init_110 : decode cX8_init 110 = .ok (.iload_n 1, 1) := by decide +kernel
theorem dX8_init_111 : decode cX8_init 111 = .ok (.aload_n 0, 1) := by decide +kernel
theorem dX8_init_112 : decode cX8_init 112 = .ok (.getfield 18, 3) := by decide +kernel
theorem dX8_init_115 : decode cX8_init 115 = .ok (.arraylength, 1) := by decide +kernel
theorem dX8_init_116 : decode cX8_init 116 = .ok (.if_icmp .ge 22, 3) := by decide +kernel
theorem dX8_init_119 : decode cX8_init 119 = .ok (.aload_n 0, 1) := by decide +kernel
theorem dX8_init_120 : decode cX8_init 120 = .ok (.getfield 18, 3) := by decide +kernel
theorem dX8_init_123 : decode cX8_init 123 = .ok (.iload_n 1, 1) := by decide +kernel
theorem dX8_init_124 : decode cX8_init 124 = .ok (.new 16, 3) := by decide +kernel
theorem dX8_init_127 : decode cX8_init 127 = .ok (.dup, 1) := by decide +kernel
theorem dX8_init_128 : decode cX8_init 128 = .ok (.invokespecial 76, 3) := by decide +kernel
theorem dX8_init_131 : decode cX8_init 131 = .ok (.aastore, 1) := by decide +kernel
theorem dX8_init_132 : decode cX8_init 132 = .ok (.iinc 1 1, 3) := by decide +kernel
theorem dX8_init_135 : decode cX8_init 135 = .ok (.goto (-25), 3) := by decide +kernel
theorem dX8_init_138 : decode cX8_init 138 = .ok (.iconst 0, 1) := by decide +kernel
theorem dX8_init_139 : decode cX8_init 139 = .ok (.istore_n 1, 1) := by decide +kernel
theorem dX8_init_140 : decode cX8_init 140 = .ok (.iload_n 1, 1) := by decide +kernel
theorem dX8_init_141 : decode cX8_init 141 = .ok (.aload_n 0, 1) := by decide +kernel
theorem dX8_init_142 : decode cX8_init 142 = .ok (.getfield 56, 3) := by decide +kernel
theorem dX8_init_145 : decode cX8_init 145 = .ok (.arraylength, 1) := by decide +kernel
theorem dX8_init_146 : decode cX8_init 146 = .ok (.if_icmp .ge 22, 3) := by decide +kernel
theorem dX8_init_149 : decode cX8_init 149 = .ok (.aload_n 0, 1) := by decide +kernel
theorem dX8_init_150 : decode cX8_init 150 = .ok (.getfield 56, 3) := by decide +kernel
theorem dX8_init_153 : decode cX8_init 153 = .ok (.iload_n 1, 1) := by decide +kernel
theorem dX8_init_154 : decode cX8_init 154 = .ok (.new 54, 3) := by decide +kernel
theorem dX8_init_157 : decode cX8_init 157 = .ok (.dup, 1) := by decide +kernel
theorem dX8_init_158 : decode cX8_init 158 = .ok (.invokespecial 77, 3) := by decide +kernel
theorem dX8_init_161 : decode cX8_init 161 = .ok (.aastore, 1) := by decide +kernel
theorem dX8_init_162 : decode cX8_init 162 = .ok (.iinc 1 1, 3) := by decide +kernel
theorem dX8_init_165 : decode cX8_init 165 = .ok (.goto (-25), 3) := by decide +kernel
theorem dX8_init_168 : decode cX8_init 168 = .ok (.return_, 1) := by decide +kernel
theorem dX8_fighter_0 : decode cX8_fighter 0 = .ok (.iconst 0, 1) := by decide +kernel
theorem dX8_fighter_1 : decode cX8_fighter 1 = .ok (.iload_n 1, 1) := by decide +kernel
theorem dX8_fighter_2 : decode cX8_fighter 2 = .ok (.invokestatic 78, 3) := by decide +kernel
theorem dX8_fighter_5 : decode cX8_fighter 5 = .ok (.ifCond .eq 50, 3) := by decide +kernel
theorem dX8_fighter_8 : decode cX8_fighter 8 = .ok (.iconst 1, 1) := by decide +kernel
theorem dX8_fighter_9 : decode cX8_fighter 9 = .ok (.iload_n 2, 1) := by decide +kernel
theorem dX8_fighter_10 : decode cX8_fighter 10 = .ok (.invokestatic 78, 3) := by decide +kernel
theorem dX8_fighter_13 : decode cX8_fighter 13 = .ok (.ifCond .eq 42, 3) := by decide +kernel
theorem dX8_fighter_16 : decode cX8_fighter 16 = .ok (.iconst 2, 1) := by decide +kernel
theorem dX8_fighter_17 : decode cX8_fighter 17 = .ok (.iload_n 3, 1) := by decide +kernel
theorem dX8_fighter_18 : decode cX8_fighter 18 = .ok (.invokestatic 78, 3) := by decide +kernel
theorem dX8_fighter_21 : decode cX8_fighter 21 = .ok (.ifCond .eq 34, 3) := by decide +kernel
theorem dX8_fighter_24 : decode cX8_fighter 24 = .ok (.iconst 3, 1) := by decide +kernel
theorem dX8_fighter_25 : decode cX8_fighter 25 = .ok (.iload 4, 2) := by decide +kernel
theorem dX8_fighter_27 : decode cX8_fighter 27 = .ok (.invokestatic 78, 3) := by decide +kernel
theorem dX8_fighter_30 : decode cX8_fighter 30 = .ok (.ifCond .eq 25, 3) := by decide +kernel
theorem dX8_fighter_33 : decode cX8_fighter 33 = .ok (.iconst 4, 1) := by decide +kernel
theorem dX8_fighter_34 : decode cX8_fighter 34 = .ok (.iload 5, 2) := by decide +kernel
theorem dX8_fighter_36 : decode cX8_fighter 36 = .ok (.invokestatic 78, 3) := by decide +kernel
theorem dX8_fighter_39 : decode cX8_fighter 39 = .ok (.ifCond .eq 16, 3) := by decide +kernel
theorem dX8_fighter_42 : decode cX8_fighter 42 = .ok (.iconst 5, 1) := by decide +kernel
theorem dX8_fighter_43 : decode cX8_fighter 43 = .ok (.iload 6, 2) := by decide +kernel
theorem dX8_fighter_45 : decode cX8_fighter 45 = .ok (.invokestatic 78, 3) := by decide +kernel
theorem dX8_fighter_48 : decode cX8_fighter 48 = .ok (.ifCond .eq 7, 3) := by decide +kernel
theorem dX8_fighter_51 : decode cX8_fighter 51 = .ok (.iconst 1, 1) := by decide +kernel
theorem dX8_fighter_52 : decode cX8_fighter 52 = .ok (.goto 4, 3) := by decide +kernel
theorem dX8_fighter_55 : decode cX8_fighter 55 = .ok (.iconst 0, 1) := by decide +kernel
theorem dX8_fighter_56 : decode cX8_fighter 56 = .ok (.istore 7, 2) := by decide +kernel
theorem dX8_fighter_58 : decode cX8_fighter 58 = .ok (.iload 7, 2) := by decide +kernel
theorem dX8_fighter_60 : decode cX8_fighter 60 = .ok (.ifCond .ne 6, 3) := by decide +kernel
theorem dX8_fighter_63 : decode cX8_fighter 63 = .ok (.bipush (-2), 2) := by decide +kernel
theorem dX8_fighter_65 : decode cX8_fighter 65 = .ok (.ireturn, 1) := by decide +kernel
theorem dX8_fighter_66 : decode cX8_fighter 66 = .ok (.aload_n 0, 1) := by decide +kernel
theorem dX8_fighter_67 : decode cX8_fighter 67 = .ok (.getfield 10, 3) := by decide +kernel
theorem dX8_fighter_70 : decode cX8_fighter 70 = .ok (.getfield 82, 3) := by decide +kernel
theorem dX8_fighter_73 : decode cX8_fighter 73 = .ok (.bipush 16, 2) := by decide +kernel
theorem dX8_fighter_75 : decode cX8_fighter 75 = .ok (.if_icmp .lt 6, 3) := by decide +kernel
theorem dX8_fighter_78 : decode cX8_fighter 78 = .ok (.bipush (-4), 2) := by decide +kernel
theorem dX8_fighter_80 : decode cX8_fighter 80 = .ok (.ireturn, 1) := by decide +kernel
theorem dX8_fighter_81 : decode cX8_fighter 81 = .ok (.aload_n 0, 1) := by decide +kernel
theorem dX8_fighter_82 : decode cX8_fighter 82 = .ok (.getfield 10, 3) := by decide +kernel
theorem dX8_fighter_85 : decode cX8_fighter 85 = .ok (.getfield 82, 3) := by decide +kernel
theorem dX8_fighter_88 : decode cX8_fighter 88 = .ok (.istore 8, 2) := by decide +kernel
theorem dX8_fighter_90 : decode cX8_fighter 90 = .ok (.aload_n 0, 1) := by decide +kernel
theorem dX8_fighter_91 : decode cX8_fighter 91 = .ok (.getfield 10, 3) := by decide +kernel
theorem dX8_fighter_94 : decode cX8_fighter 94 = .ok (.dup, 1) := by decide +kernel
theorem dX8_fighter_95 : decode cX8_fighter 95 = .ok (.getfield 82, 3) := by decide +kernel
theorem dX8_fighter_98 : decode cX8_fighter 98 = .ok (.iconst 1, 1) := by decide +kernel
theorem dX8_fighter_99 : decode cX8_fighter 99 = .ok (.iadd, 1) := by decide +kernel
theorem dX8_fighter_100 : decode cX8_fighter 100 = .ok (.putfield 82, 3) := by decide +kernel
theorem dX8_fighter_103 : decode cX8_fighter 103 = .ok (.aload_n 0, 1) := by decide +kernel
theorem dX8_fighter_104 : decode cX8_fighter 104 = .ok (.getfield 10, 3) := by decide +kernel
theorem dX8_fighter_107 : decode cX8_fighter 107 = .ok (.iload 8, 2) := by decide +kernel
theorem dX8_fighter_109 : decode cX8_fighter 109 = .ok (.iconst 0, 1) := by decide +kernel
theorem dX8_fighter_110 : decode cX8_fighter 110 = .ok (.iload_n 1, 1) := by decide +kernel
theorem dX8_fighter_111 : decode cX8_fighter 111 = .ok (.invokevirtual 85, 3) := by decide +kernel
theorem dX8_fighter_114 : decode cX8_fighter 114 = .ok (.aload_n 0, 1) := by decide +kernel
theorem dX8_fighter_115 : decode cX8_fighter 115 = .ok (.getfield 10, 3) := by decide +kernel
theorem dX8_fighter_118 : decode cX8_fighter 118 = .ok (.iload 8, 2) := by decide +kernel
theorem dX8_fighter_120 : decode cX8_fighter 120 = .ok (.iconst 1, 1) := by decide +kernel
theorem dX8_fighter_121 : decode cX8_fighter 121 = .ok (.iload_n 2, 1) := by decide +kernel
theorem dX8_fighter_122 : decode cX8_fighter 122 = .ok (.invokevirtual 85, 3) := by decide +kernel
theorem dX8_fighter_125 : decode cX8_fighter 125 = .ok (.aload_n 0, 1) := by decide +kernel
theorem dX8_fighter_126 : decode cX8_fighter 126 = .ok (.getfield 10, 3) := by decide +kernel
theorem dX8_fighter_129 : decode cX8_fighter 129 = .ok (.iload 8, 2) := by decide +kernel
theorem dX8_fighter_131 : decode cX8_fighter 131 = .ok (.iconst 2, 1) := by decide +kernel
theorem dX8_fighter_132 : decode cX8_fighter 132 = .ok (.iload_n 3, 1) := by decide +kernel
theorem dX8_fighter_133 : decode cX8_fighter 133 = .ok (.invokevirtual 85, 3) := by decide +kernel
theorem dX8_fighter_136 : decode cX8_fighter 136 = .ok (.aload_n 0, 1) := by decide +kernel
theorem dX8_fighter_137 : decode cX8_fighter 137 = .ok (.getfield 10, 3) := by decide +kernel
theorem dX8_fighter_140 : decode cX8_fighter 140 = .ok (.iload 8, 2) := by decide +kernel
theorem dX8_fighter_142 : decode cX8_fighter 142 = .ok (.iconst 3, 1) := by decide +kernel
theorem dX8_fighter_143 : decode cX8_fighter 143 = .ok (.iload 4, 2) := by decide +kernel
theorem dX8_fighter_145 : decode cX8_fighter 145 = .ok (.invokevirtual 85, 3) := by decide +kernel
theorem dX8_fighter_148 : decode cX8_fighter 148 = .ok (.aload_n 0, 1) := by decide +kernel
theorem dX8_fighter_149 : decode cX8_fighter 149 = .ok (.getfield 10, 3) := by decide +kernel
theorem dX8_fighter_152 : decode cX8_fighter 152 = .ok (.iload 8, 2) := by decide +kernel
theorem dX8_fighter_154 : decode cX8_fighter 154 = .ok (.iconst 4, 1) := by decide +kernel
theorem dX8_fighter_155 : decode cX8_fighter 155 = .ok (.iload 5, 2) := by decide +kernel
theorem dX8_fighter_157 : decode cX8_fighter 157 = .ok (.invokevirtual 85, 3) := by decide +kernel
theorem dX8_fighter_160 : decode cX8_fighter 160 = .ok (.aload_n 0, 1) := by decide +kernel
theorem dX8_fighter_161 : decode cX8_fighter 161 = .ok (.getfield 10, 3) := by decide +kernel
theorem dX8_fighter_164 : decode cX8_fighter 164 = .ok (.iload 8, 2) := by decide +kernel
theorem dX8_fighter_166 : decode cX8_fighter 166 = .ok (.iconst 5, 1) := by decide +kernel
theorem dX8_fighter_167 : decode cX8_fighter 167 = .ok (.iload 6, 2) := by decide +kernel
theorem dX8_fighter_169 : decode cX8_fighter 169 = .ok (.invokevirtual 85, 3) := by decide +kernel
theorem dX8_fighter_172 : decode cX8_fighter 172 = .ok (.iload 8, 2) := by decide +kernel
theorem dX8_fighter_174 : decode cX8_fighter 174 = .ok (.ireturn, 1) := by decide +kernel
theorem dX8_side_0 : decode cX8_side 0 = .ok (.aload_n 0, 1) := by decide +kernel
theorem dX8_side_1 : decode cX8_side 1 = .ok (.iload_n 2, 1) := by decide +kernel
theorem dX8_side_2 : decode cX8_side 2 = .ok (.iload_n 3, 1) := by decide +kernel
theorem dX8_side_3 : decode cX8_side 3 = .ok (.iload 4, 2) := by decide +kernel
theorem dX8_side_5 : decode cX8_side 5 = .ok (.invokevirtual 97, 3) := by decide +kernel
theorem dX8_side_8 : decode cX8_side 8 = .ok (.istore 5, 2) := by decide +kernel
theorem dX8_side_10 : decode cX8_side 10 = .ok (.iload_n 1, 1) := by decide +kernel
theorem dX8_side_11 : decode cX8_side 11 = .ok (.invokestatic 101, 3) := by decide +kernel
theorem dX8_side_14 : decode cX8_side 14 = .ok (.ifCond .eq 10, 3) := by decide +kernel
theorem dX8_side_17 : decode cX8_side 17 = .ok (.iload 5, 2) := by decide +kernel
theorem dX8_side_19 : decode cX8_side 19 = .ok (.bipush (-2), 2) := by decide +kernel
theorem dX8_side_21 : decode cX8_side 21 = .ok (.if_icmp .ne 6, 3) := by decide +kernel
theorem dX8_side_24 : decode cX8_side 24 = .ok (.bipush (-2), 2) := by decide +kernel
theorem dX8_side_26 : decode cX8_side 26 = .ok (.ireturn, 1) := by decide +kernel
theorem dX8_side_27 : decode cX8_side 27 = .ok (.aload_n 0, 1) := by decide +kernel
theorem dX8_side_28 : decode cX8_side 28 = .ok (.getfield 18, 3) := by decide +kernel
theorem dX8_side_31 : decode cX8_side 31 = .ok (.iload_n 1, 1) := by decide +kernel
theorem dX8_side_32 : decode cX8_side 32 = .ok (.aaload, 1) := by decide +kernel
theorem dX8_side_33 : decode cX8_side 33 = .ok (.iload_n 2, 1) := by decide +kernel
theorem dX8_side_34 : decode cX8_side 34 = .ok (.iload_n 3, 1) := by decide +kernel
theorem dX8_side_35 : decode cX8_side 35 = .ok (.iload 4, 2) := by decide +kernel
theorem dX8_side_37 : decode cX8_side 37 = .ok (.iload 5, 2) := by decide +kernel
theorem dX8_side_39 : decode cX8_side 39 = .ok (.invokevirtual 104, 3) := by decide +kernel
theorem dX8_side_42 : decode cX8_side 42 = .ok (.iload 5, 2) := by decide +kernel
theorem dX8_side_44 : decode cX8_side 44 = .ok (.ireturn, 1) := by decide +kernel
theorem dX8_laws_0 : decode cX8_laws 0 = .ok (.iload_n 1, 1) := by decide +kernel
theorem dX8_laws_1 : decode cX8_laws 1 = .ok (.iconst 1, 1) := by decide +kernel
theorem dX8_laws_2 : decode cX8_laws 2 = .ok (.if_icmp .lt 29, 3) := by decide +kernel
theorem dX8_laws_5 : decode cX8_laws 5 = .ok (.iload_n 1, 1) := by decide +kernel
theorem dX8_laws_6 : decode cX8_laws 6 = .ok (.bipush 6, 2) := by decide +kernel
theorem dX8_laws_8 : decode cX8_laws 8 = .ok (.if_icmp .gt 23, 3) := by decide +kernel
theorem dX8_laws_11 : decode cX8_laws 11 = .ok (.iload_n 2, 1) := by decide +kernel
theorem dX8_laws_12 : decode cX8_laws 12 = .ok (.ifCond .eq 8, 3) := by decide +kernel
theorem dX8_laws_15 : decode cX8_laws 15 = .ok (.iload_n 2, 1) := by decide +kernel
theorem dX8_laws_16 : decode cX8_laws 16 = .ok (.iconst 1, 1) := by decide +kernel
theorem dX8_laws_17 : decode cX8_laws 17 = .ok (.if_icmp .ne 14, 3) := by decide +kernel
theorem dX8_laws_20 : decode cX8_laws 20 = .ok (.iload_n 3, 1) := by decide +kernel
theorem dX8_laws_21 : decode cX8_laws 21 = .ok (.invokestatic 115, 3) := by decide +kernel
theorem dX8_laws_24 : decode cX8_laws 24 = .ok (.ifCond .eq 7, 3) := by decide +kernel
theorem dX8_laws_27 : decode cX8_laws 27 = .ok (.iconst 1, 1) := by decide +kernel
theorem dX8_laws_28 : decode cX8_laws 28 = .ok (.goto 4, 3) := by decide +kernel
theorem dX8_laws_31 : decode cX8_laws 31 = .ok (.iconst 0, 1) := by decide +kernel
theorem dX8_laws_32 : decode cX8_laws 32 = .ok (.istore 4, 2) := by decide +kernel
theorem dX8_laws_34 : decode cX8_laws 34 = .ok (.iload 4, 2) := by decide +kernel
theorem dX8_laws_36 : decode cX8_laws 36 = .ok (.ifCond .ne 6, 3) := by decide +kernel
theorem dX8_laws_39 : decode cX8_laws 39 = .ok (.bipush (-2), 2) := by decide +kernel
theorem dX8_laws_41 : decode cX8_laws 41 = .ok (.ireturn, 1) := by decide +kernel
theorem dX8_laws_42 : decode cX8_laws 42 = .ok (.aload_n 0, 1) := by decide +kernel
theorem dX8_laws_43 : decode cX8_laws 43 = .ok (.iload_n 1, 1) := by decide +kernel
theorem dX8_laws_44 : decode cX8_laws 44 = .ok (.putfield 60, 3) := by decide +kernel
theorem dX8_laws_47 : decode cX8_laws 47 = .ok (.aload_n 0, 1) := by decide +kernel
theorem dX8_laws_48 : decode cX8_laws 48 = .ok (.iload_n 2, 1) := by decide +kernel
theorem dX8_laws_49 : decode cX8_laws 49 = .ok (.putfield 64, 3) := by decide +kernel
theorem dX8_laws_52 : decode cX8_laws 52 = .ok (.aload_n 0, 1) := by decide +kernel
theorem dX8_laws_53 : decode cX8_laws 53 = .ok (.iload_n 3, 1) := by decide +kernel
theorem dX8_laws_54 : decode cX8_laws 54 = .ok (.putfield 67, 3) := by decide +kernel
theorem dX8_laws_57 : decode cX8_laws 57 = .ok (.iconst 1, 1) := by decide +kernel
theorem dX8_laws_58 : decode cX8_laws 58 = .ok (.ireturn, 1) := by decide +kernel
theorem dX8_slots_0 : decode cX8_slots 0 = .ok (.aload_n 0, 1) := by decide +kernel
theorem dX8_slots_1 : decode cX8_slots 1 = .ok (.getfield 60, 3) := by decide +kernel
theorem dX8_slots_4 : decode cX8_slots 4 = .ok (.aload_n 0, 1) := by decide +kernel
theorem dX8_slots_5 : decode cX8_slots 5 = .ok (.getfield 18, 3) := by decide +kernel
theorem dX8_slots_8 : decode cX8_slots 8 = .ok (.iconst 0, 1) := by decide +kernel
theorem dX8_slots_9 : decode cX8_slots 9 = .ok (.aaload, 1) := by decide +kernel
theorem dX8_slots_10 : decode cX8_slots 10 = .ok (.getfield 118, 3) := by decide +kernel
theorem dX8_slots_13 : decode cX8_slots 13 = .ok (.aload_n 0, 1) := by decide +kernel
theorem dX8_slots_14 : decode cX8_slots 14 = .ok (.getfield 18, 3) := by decide +kernel
theorem dX8_slots_17 : decode cX8_slots 17 = .ok (.iconst 1, 1) := by decide +kernel
theorem dX8_slots_18 : decode cX8_slots 18 = .ok (.aaload, 1) := by decide +kernel
theorem dX8_slots_19 : decode cX8_slots 19 = .ok (.getfield 118, 3) := by decide +kernel
theorem dX8_slots_22 : decode cX8_slots 22 = .ok (.iadd, 1) := by decide +kernel
theorem dX8_slots_23 : decode cX8_slots 23 = .ok (.imul, 1) := by decide +kernel
theorem dX8_slots_24 : decode cX8_slots 24 = .ok (.ireturn, 1) := by decide +kernel
theorem dX8_all_0 : decode cX8_all 0 = .ok (.aload_n 0, 1) := by decide +kernel
theorem dX8_all_1 : decode cX8_all 1 = .ok (.invokevirtual 119, 3) := by decide +kernel
theorem dX8_all_4 : decode cX8_all 4 = .ok (.ifCond .eq 13, 3) := by decide +kernel
theorem dX8_all_7 : decode cX8_all 7 = .ok (.aload_n 0, 1) := by decide +kernel
theorem dX8_all_8 : decode cX8_all 8 = .ok (.getfield 32, 3) := by decide +kernel
theorem dX8_all_11 : decode cX8_all 11 = .ok (.getfield 123, 3) := by decide +kernel
theorem dX8_all_14 : decode cX8_all 14 = .ok (.goto 8, 3) := by decide +kernel
theorem dX8_all_17 : decode cX8_all 17 = .ok (.bipush (-5), 2) := by decide +kernel
theorem dX8_all_19 : decode cX8_all 19 = .ok (.invokestatic 127, 3) := by decide +kernel
theorem dX8_all_22 : decode cX8_all 22 = .ok (.lreturn, 1) := by decide +kernel
theorem dX8_ways_0 : decode cX8_ways 0 = .ok (.iload_n 1, 1) := by decide +kernel
theorem dX8_ways_1 : decode cX8_ways 1 = .ok (.ifCond .lt 8, 3) := by decide +kernel
theorem dX8_ways_4 : decode cX8_ways 4 = .ok (.iload_n 1, 1) := by decide +kernel
theorem dX8_ways_5 : decode cX8_ways 5 = .ok (.iconst 2, 1) := by decide +kernel
theorem dX8_ways_6 : decode cX8_ways 6 = .ok (.if_icmp .le 9, 3) := by decide +kernel
theorem dX8_ways_9 : decode cX8_ways 9 = .ok (.bipush (-2), 2) := by decide +kernel
theorem dX8_ways_11 : decode cX8_ways 11 = .ok (.invokestatic 127, 3) := by decide +kernel
theorem dX8_ways_14 : decode cX8_ways 14 = .ok (.lreturn, 1) := by decide +kernel
theorem dX8_ways_15 : decode cX8_ways 15 = .ok (.aload_n 0, 1) := by decide +kernel
theorem dX8_ways_16 : decode cX8_ways 16 = .ok (.invokevirtual 119, 3) := by decide +kernel
theorem dX8_ways_19 : decode cX8_ways 19 = .ok (.ifCond .eq 15, 3) := by decide +kernel
theorem dX8_ways_22 : decode cX8_ways 22 = .ok (.aload_n 0, 1) := by decide +kernel
theorem dX8_ways_23 : decode cX8_ways 23 = .ok (.getfield 32, 3) := by decide +kernel
theorem dX8_ways_26 : decode cX8_ways 26 = .ok (.getfield 131, 3) := by decide +kernel
theorem dX8_ways_29 : decode cX8_ways 29 = .ok (.iload_n 1, 1) := by decide +kernel
theorem dX8_ways_30 : decode cX8_ways 30 = .ok (.laload, 1) := by decide +kernel
theorem dX8_ways_31 : decode cX8_ways 31 = .ok (.goto 8, 3) := by decide +kernel
theorem dX8_ways_34 : decode cX8_ways 34 = .ok (.bipush (-5), 2) := by decide +kernel
theorem dX8_ways_36 : decode cX8_ways 36 = .ok (.invokestatic 127, 3) := by decide +kernel
theorem dX8_ways_39 : decode cX8_ways 39 = .ok (.lreturn, 1) := by decide +kernel
theorem dX8_left_0 : decode cX8_left 0 = .ok (.iload_n 1, 1) := by decide +kernel
theorem dX8_left_1 : decode cX8_left 1 = .ok (.invokestatic 101, 3) := by decide +kernel
theorem dX8_left_4 : decode cX8_left 4 = .ok (.ifCond .eq 35, 3) := by decide +kernel
theorem dX8_left_7 : decode cX8_left 7 = .ok (.iload_n 2, 1) := by decide +kernel
theorem dX8_left_8 : decode cX8_left 8 = .ok (.invokestatic 108, 3) := by decide +kernel
theorem dX8_left_11 : decode cX8_left 11 = .ok (.ifCond .eq 28, 3) := by decide +kernel
theorem dX8_left_14 : decode cX8_left 14 = .ok (.iload_n 3, 1) := by decide +kernel
theorem dX8_left_15 : decode cX8_left 15 = .ok (.ifCond .lt 24, 3) := by decide +kernel
theorem dX8_left_18 : decode cX8_left 18 = .ok (.iload_n 3, 1) := by decide +kernel
theorem dX8_left_19 : decode cX8_left 19 = .ok (.bipush 20, 2) := by decide +kernel
theorem dX8_left_21 : decode cX8_left 21 = .ok (.if_icmp .gt 18, 3) := by decide +kernel
theorem dX8_left_24 : decode cX8_left 24 = .ok (.iload 4, 2) := by decide +kernel
theorem dX8_left_26 : decode cX8_left 26 = .ok (.ifCond .eq 9, 3) := by decide +kernel
theorem dX8_left_29 : decode cX8_left 29 = .ok (.iload 4, 2) := by decide +kernel
theorem dX8_left_31 : decode cX8_left 31 = .ok (.iconst 1, 1) := by decide +kernel
theorem dX8_left_32 : decode cX8_left 32 = .ok (.if_icmp .ne 7, 3) := by decide +kernel
theorem dX8_left_35 : decode cX8_left 35 = .ok (.iconst 1, 1) := by decide +kernel
theorem dX8_left_36 : decode cX8_left 36 = .ok (.goto 4, 3) := by decide +kernel
theorem dX8_left_39 : decode cX8_left 39 = .ok (.iconst 0, 1) := by decide +kernel
theorem dX8_left_40 : decode cX8_left 40 = .ok (.istore 5, 2) := by decide +kernel
theorem dX8_left_42 : decode cX8_left 42 = .ok (.iload 5, 2) := by decide +kernel
theorem dX8_left_44 : decode cX8_left 44 = .ok (.ifCond .eq 17, 3) := by decide +kernel
theorem dX8_left_47 : decode cX8_left 47 = .ok (.aload_n 0, 1) := by decide +kernel
theorem dX8_left_48 : decode cX8_left 48 = .ok (.getfield 18, 3) := by decide +kernel
theorem dX8_left_51 : decode cX8_left 51 = .ok (.iload_n 1, 1) := by decide +kernel
theorem dX8_left_52 : decode cX8_left 52 = .ok (.aaload, 1) := by decide +kernel
theorem dX8_left_53 : decode cX8_left 53 = .ok (.iload_n 2, 1) := by decide +kernel
theorem dX8_left_54 : decode cX8_left 54 = .ok (.invokevirtual 111, 3) := by decide +kernel
theorem dX8_left_57 : decode cX8_left 57 = .ok (.iconst (-1), 1) := by decide +kernel
theorem dX8_left_58 : decode cX8_left 58 = .ok (.if_icmp .ne 9, 3) := by decide +kernel
theorem dX8_left_61 : decode cX8_left 61 = .ok (.bipush (-2), 2) := by decide +kernel
theorem dX8_left_63 : decode cX8_left 63 = .ok (.invokestatic 127, 3) := by decide +kernel
theorem dX8_left_66 : decode cX8_left 66 = .ok (.lreturn, 1) := by decide +kernel
theorem dX8_left_67 : decode cX8_left 67 = .ok (.aload_n 0, 1) := by decide +kernel
theorem dX8_left_68 : decode cX8_left 68 = .ok (.invokevirtual 119, 3) := by decide +kernel
theorem dX8_left_71 : decode cX8_left 71 = .ok (.ifCond .eq 30, 3) := by decide +kernel
theorem dX8_left_74 : decode cX8_left 74 = .ok (.aload_n 0, 1) := by decide +kernel
theorem dX8_left_75 : decode cX8_left 75 = .ok (.getfield 32, 3) := by decide +kernel
theorem dX8_left_78 : decode cX8_left 78 = .ok (.iload_n 1, 1) := by decide +kernel
theorem dX8_left_79 : decode cX8_left 79 = .ok (.iload_n 2, 1) := by decide +kernel
theorem dX8_left_80 : decode cX8_left 80 = .ok (.invokestatic 139, 3) := by decide +kernel
theorem dX8_left_83 : decode cX8_left 83 = .ok (.iload_n 3, 1) := by decide +kernel
theorem dX8_left_84 : decode cX8_left 84 = .ok (.iload 4, 2) := by decide +kernel
theorem dX8_left_86 : decode cX8_left 86 = .ok (.iconst 1, 1) := by decide +kernel
theorem dX8_left_87 : decode cX8_left 87 = .ok (.if_icmp .ne 7, 3) := by decide +kernel
theorem dX8_left_90 : decode cX8_left 90 = .ok (.iconst 1, 1) := by decide +kernel
theorem dX8_left_91 : decode cX8_left 91 = .ok (.goto 4, 3) := by decide +kernel
theorem dX8_left_94 : decode cX8_left 94 = .ok (.iconst 0, 1) := by decide +kernel
theorem dX8_left_95 : decode cX8_left 95 = .ok (.invokevirtual 142, 3) := by decide +kernel
theorem dX8_left_98 : decode cX8_left 98 = .ok (.goto 8, 3) := by decide +kernel
theorem dX8_left_101 : decode cX8_left 101 = .ok (.bipush (-5), 2) := by decide +kernel
theorem dX8_left_103 : decode cX8_left 103 = .ok (.invokestatic 127, 3) := by decide +kernel
theorem dX8_left_106 : decode cX8_left 106 = .ok (.lreturn, 1) := by decide +kernel
theorem dX8_states_0 : decode cX8_states 0 = .ok (.aload_n 0, 1) := by decide +kernel
theorem dX8_states_1 : decode cX8_states 1 = .ok (.invokevirtual 119, 3) := by decide +kernel
theorem dX8_states_4 : decode cX8_states 4 = .ok (.ifCond .eq 13, 3) := by decide +kernel
theorem dX8_states_7 : decode cX8_states 7 = .ok (.aload_n 0, 1) := by decide +kernel
theorem dX8_states_8 : decode cX8_states 8 = .ok (.getfield 32, 3) := by decide +kernel
theorem dX8_states_11 : decode cX8_states 11 = .ok (.getfield 146, 3) := by decide +kernel
theorem dX8_states_14 : decode cX8_states 14 = .ok (.goto 5, 3) := by decide +kernel
theorem dX8_states_17 : decode cX8_states 17 = .ok (.bipush (-5), 2) := by decide +kernel
theorem dX8_states_19 : decode cX8_states 19 = .ok (.ireturn, 1) := by decide +kernel
theorem dX8_ends_0 : decode cX8_ends 0 = .ok (.iload_n 1, 1) := by decide +kernel
theorem dX8_ends_1 : decode cX8_ends 1 = .ok (.ifCond .lt 11, 3) := by decide +kernel
theorem dX8_ends_4 : decode cX8_ends 4 = .ok (.iload_n 1, 1) := by decide +kernel
theorem dX8_ends_5 : decode cX8_ends 5 = .ok (.aload_n 0, 1) := by decide +kernel
theorem dX8_ends_6 : decode cX8_ends 6 = .ok (.getfield 60, 3) := by decide +kernel
theorem dX8_ends_9 : decode cX8_ends 9 = .ok (.if_icmp .le 9, 3) := by decide +kernel
theorem dX8_ends_12 : decode cX8_ends 12 = .ok (.bipush (-2), 2) := by decide +kernel
theorem dX8_ends_14 : decode cX8_ends 14 = .ok (.invokestatic 127, 3) := by decide +kernel
theorem dX8_ends_17 : decode cX8_ends 17 = .ok (.lreturn, 1) := by decide +kernel
theorem dX8_ends_18 : decode cX8_ends 18 = .ok (.aload_n 0, 1) := by decide +kernel
theorem dX8_ends_19 : decode cX8_ends 19 = .ok (.invokevirtual 119, 3) := by decide +kernel
theorem dX8_ends_22 : decode cX8_ends 22 = .ok (.ifCond .eq 15, 3) := by decide +kernel
theorem dX8_ends_25 : decode cX8_ends 25 = .ok (.aload_n 0, 1) := by decide +kernel
theorem dX8_ends_26 : decode cX8_ends 26 = .ok (.getfield 32, 3) := by decide +kernel
theorem dX8_ends_29 : decode cX8_ends 29 = .ok (.getfield 149, 3) := by decide +kernel
theorem dX8_ends_32 : decode cX8_ends 32 = .ok (.iload_n 1, 1) := by decide +kernel
theorem dX8_ends_33 : decode cX8_ends 33 = .ok (.laload, 1) := by decide +kernel
theorem dX8_ends_34 : decode cX8_ends 34 = .ok (.goto 8, 3) := by decide +kernel
theorem dX8_ends_37 : decode cX8_ends 37 = .ok (.bipush (-5), 2) := by decide +kernel
theorem dX8_ends_39 : decode cX8_ends 39 = .ok (.invokestatic 127, 3) := by decide +kernel
theorem dX8_ends_42 : decode cX8_ends 42 = .ok (.lreturn, 1) := by decide +kernel
theorem dX8_play_0 : decode cX8_play 0 = .ok (.iload_n 1, 1) := by decide +kernel
theorem dX8_play_1 : decode cX8_play 1 = .ok (.invokestatic 204, 3) := by decide +kernel
theorem dX8_play_4 : decode cX8_play 4 = .ok (.ifCond .ne 6, 3) := by decide +kernel
theorem dX8_play_7 : decode cX8_play 7 = .ok (.bipush (-2), 2) := by decide +kernel
