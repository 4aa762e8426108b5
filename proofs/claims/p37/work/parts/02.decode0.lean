theorem dX0_init_0 : decode cX0_init 0 = .ok (.aload_n 0, 1) := by decide +kernel
theorem dX0_init_1 : decode cX0_init 1 = .ok (.invokespecial 3, 3) := by decide +kernel
theorem dX0_init_4 : decode cX0_init 4 = .ok (.aload_n 0, 1) := by decide +kernel
theorem dX0_init_5 : decode cX0_init 5 = .ok (.iconst 0, 1) := by decide +kernel
theorem dX0_init_6 : decode cX0_init 6 = .ok (.putfield 9, 3) := by decide +kernel
theorem dX0_init_9 : decode cX0_init 9 = .ok (.aload_n 0, 1) := by decide +kernel
theorem dX0_init_10 : decode cX0_init 10 = .ok (.iconst 0, 1) := by decide +kernel
theorem dX0_init_11 : decode cX0_init 11 = .ok (.putfield 15, 3) := by decide +kernel
theorem dX0_init_14 : decode cX0_init 14 = .ok (.aload_n 0, 1) := by decide +kernel
theorem dX0_init_15 : decode cX0_init 15 = .ok (.iconst 0, 1) := by decide +kernel
theorem dX0_init_16 : decode cX0_init 16 = .ok (.putfield 18, 3) := by decide +kernel
theorem dX0_init_19 : decode cX0_init 19 = .ok (.aload_n 0, 1) := by decide +kernel
theorem dX0_init_20 : decode cX0_init 20 = .ok (.bipush 6, 2) := by decide +kernel
theorem dX0_init_22 : decode cX0_init 22 = .ok (.newarray .int, 2) := by decide +kernel
theorem dX0_init_24 : decode cX0_init 24 = .ok (.dup, 1) := by decide +kernel
theorem dX0_init_25 : decode cX0_init 25 = .ok (.iconst 0, 1) := by decide +kernel
theorem dX0_init_26 : decode cX0_init 26 = .ok (.bipush (-2), 2) := by decide +kernel
theorem dX0_init_28 : decode cX0_init 28 = .ok (.iastore, 1) := by decide +kernel
theorem dX0_init_29 : decode cX0_init 29 = .ok (.dup, 1) := by decide +kernel
theorem dX0_init_30 : decode cX0_init 30 = .ok (.iconst 1, 1) := by decide +kernel
theorem dX0_init_31 : decode cX0_init 31 = .ok (.bipush (-2), 2) := by decide +kernel
theorem dX0_init_33 : decode cX0_init 33 = .ok (.iastore, 1) := by decide +kernel
theorem dX0_init_34 : decode cX0_init 34 = .ok (.dup, 1) := by decide +kernel
theorem dX0_init_35 : decode cX0_init 35 = .ok (.iconst 2, 1) := by decide +kernel
theorem dX0_init_36 : decode cX0_init 36 = .ok (.bipush (-2), 2) := by decide +kernel
theorem dX0_init_38 : decode cX0_init 38 = .ok (.iastore, 1) := by decide +kernel
theorem dX0_init_39 : decode cX0_init 39 = .ok (.dup, 1) := by decide +kernel
theorem dX0_init_40 : decode cX0_init 40 = .ok (.iconst 3, 1) := by decide +kernel
theorem dX0_init_41 : decode cX0_init 41 = .ok (.bipush (-2), 2) := by decide +kernel
theorem dX0_init_43 : decode cX0_init 43 = .ok (.iastore, 1) := by decide +kernel
theorem dX0_init_44 : decode cX0_init 44 = .ok (.dup, 1) := by decide +kernel
theorem dX0_init_45 : decode cX0_init 45 = .ok (.iconst 4, 1) := by decide +kernel
theorem dX0_init_46 : decode cX0_init 46 = .ok (.bipush (-2), 2) := by decide +kernel
theorem dX0_init_48 : decode cX0_init 48 = .ok (.iastore, 1) := by decide +kernel
theorem dX0_init_49 : decode cX0_init 49 = .ok (.dup, 1) := by decide +kernel
theorem dX0_init_50 : decode cX0_init 50 = .ok (.iconst 5, 1) := by decide +kernel
theorem dX0_init_51 : decode cX0_init 51 = .ok (.bipush (-2), 2) := by decide +kernel
theorem dX0_init_53 : decode cX0_init 53 = .ok (.iastore, 1) := by decide +kernel
theorem dX0_init_54 : decode cX0_init 54 = .ok (.putfield 21, 3) := by decide +kernel
theorem dX0_init_57 : decode cX0_init 57 = .ok (.return_, 1) := by decide +kernel
theorem dX0_run_0 : decode cX0_run 0 = .ok (.aload_n 1, 1) := by decide +kernel
theorem dX0_run_1 : decode cX0_run 1 = .ok (.invokevirtual 25, 3) := by decide +kernel
theorem dX0_run_4 : decode cX0_run 4 = .ok (.lstore_n 3, 1) := by decide +kernel
theorem dX0_run_5 : decode cX0_run 5 = .ok (.lload_n 3, 1) := by decide +kernel
theorem dX0_run_6 : decode cX0_run 6 = .ok (.invokestatic 31, 3) := by decide +kernel
theorem dX0_run_9 : decode cX0_run 9 = .ok (.istore 5, 2) := by decide +kernel
theorem dX0_run_11 : decode cX0_run 11 = .ok (.iconst 0, 1) := by decide +kernel
theorem dX0_run_12 : decode cX0_run 12 = .ok (.istore 6, 2) := by decide +kernel
theorem dX0_run_14 : decode cX0_run 14 = .ok (.iconst 0, 1) := by decide +kernel
theorem dX0_run_15 : decode cX0_run 15 = .ok (.istore 7, 2) := by decide +kernel
theorem dX0_run_17 : decode cX0_run 17 = .ok (.iload 5, 2) := by decide +kernel
theorem dX0_run_19 : decode cX0_run 19 = .ok (.iconst (-1), 1) := by decide +kernel
theorem dX0_run_20 : decode cX0_run 20 = .ok (.if_icmp .ne 156, 3) := by decide +kernel
theorem dX0_run_23 : decode cX0_run 23 = .ok (.iload 6, 2) := by decide +kernel
theorem dX0_run_25 : decode cX0_run 25 = .ok (.aload_n 1, 1) := by decide +kernel
theorem dX0_run_26 : decode cX0_run 26 = .ok (.getfield 35, 3) := by decide +kernel
theorem dX0_run_29 : decode cX0_run 29 = .ok (.if_icmp .ge 147, 3) := by decide +kernel
theorem dX0_run_32 : decode cX0_run 32 = .ok (.iinc 6 1, 3) := by decide +kernel
theorem dX0_run_35 : decode cX0_run 35 = .ok (.iconst 0, 1) := by decide +kernel
theorem dX0_run_36 : decode cX0_run 36 = .ok (.istore 8, 2) := by decide +kernel
theorem dX0_run_38 : decode cX0_run 38 = .ok (.iload 8, 2) := by decide +kernel
theorem dX0_run_40 : decode cX0_run 40 = .ok (.aload_n 1, 1) := by decide +kernel
theorem dX0_run_41 : decode cX0_run 41 = .ok (.getfield 38, 3) := by decide +kernel
theorem dX0_run_44 : decode cX0_run 44 = .ok (.if_icmp .ge 129, 3) := by decide +kernel
theorem dX0_run_47 : decode cX0_run 47 = .ok (.iload 5, 2) := by decide +kernel
theorem dX0_run_49 : decode cX0_run 49 = .ok (.iconst (-1), 1) := by decide +kernel
theorem dX0_run_50 : decode cX0_run 50 = .ok (.if_icmp .ne 123, 3) := by decide +kernel
theorem dX0_run_53 : decode cX0_run 53 = .ok (.aload_n 1, 1) := by decide +kernel
theorem dX0_run_54 : decode cX0_run 54 = .ok (.getfield 41, 3) := by decide +kernel
theorem dX0_run_57 : decode cX0_run 57 = .ok (.iload 8, 2) := by decide +kernel
theorem dX0_run_59 : decode cX0_run 59 = .ok (.iaload, 1) := by decide +kernel
theorem dX0_run_60 : decode cX0_run 60 = .ok (.istore 9, 2) := by decide +kernel
theorem dX0_run_62 : decode cX0_run 62 = .ok (.aload_n 1, 1) := by decide +kernel
theorem dX0_run_63 : decode cX0_run 63 = .ok (.lload_n 3, 1) := by decide +kernel
theorem dX0_run_64 : decode cX0_run 64 = .ok (.iload 9, 2) := by decide +kernel
theorem dX0_run_66 : decode cX0_run 66 = .ok (.iload 6, 2) := by decide +kernel
theorem dX0_run_68 : decode cX0_run 68 = .ok (.invokevirtual 44, 3) := by decide +kernel
theorem dX0_run_71 : decode cX0_run 71 = .ok (.ifCond .ne 6, 3) := by decide +kernel
theorem dX0_run_74 : decode cX0_run 74 = .ok (.goto 93, 3) := by decide +kernel
theorem dX0_run_77 : decode cX0_run 77 = .ok (.aload_n 1, 1) := by decide +kernel
theorem dX0_run_78 : decode cX0_run 78 = .ok (.lload_n 3, 1) := by decide +kernel
theorem dX0_run_79 : decode cX0_run 79 = .ok (.iload 9, 2) := by decide +kernel
theorem dX0_run_81 : decode cX0_run 81 = .ok (.invokevirtual 48, 3) := by decide +kernel
theorem dX0_run_84 : decode cX0_run 84 = .ok (.ifCond .eq 14, 3) := by decide +kernel
theorem dX0_run_87 : decode cX0_run 87 = .ok (.aload_n 1, 1) := by decide +kernel
theorem dX0_run_88 : decode cX0_run 88 = .ok (.lload_n 3, 1) := by decide +kernel
theorem dX0_run_89 : decode cX0_run 89 = .ok (.iload 9, 2) := by decide +kernel
theorem dX0_run_91 : decode cX0_run 91 = .ok (.invokevirtual 52, 3) := by decide +kernel
theorem dX0_run_94 : decode cX0_run 94 = .ok (.lstore_n 3, 1) := by decide +kernel
theorem dX0_run_95 : decode cX0_run 95 = .ok (.goto 66, 3) := by decide +kernel
theorem dX0_run_98 : decode cX0_run 98 = .ok (.aload_n 2, 1) := by decide +kernel
theorem dX0_run_99 : decode cX0_run 99 = .ok (.iload 7, 2) := by decide +kernel
theorem dX0_run_101 : decode cX0_run 101 = .ok (.invokevirtual 56, 3) := by decide +kernel
theorem dX0_run_104 : decode cX0_run 104 = .ok (.ifCond .ne 5, 3) := by decide +kernel
theorem dX0_run_107 : decode cX0_run 107 = .ok (.iconst 0, 1) := by decide +kernel
theorem dX0_run_108 : decode cX0_run 108 = .ok (.ireturn, 1) := by decide +kernel
theorem dX0_run_109 : decode cX0_run 109 = .ok (.aload_n 2, 1) := by decide +kernel
theorem dX0_run_110 : decode cX0_run 110 = .ok (.iload 7, 2) := by decide +kernel
theorem dX0_run_112 : decode cX0_run 112 = .ok (.invokevirtual 62, 3) := by decide +kernel
theorem dX0_run_115 : decode cX0_run 115 = .ok (.istore 10, 2) := by decide +kernel
theorem dX0_run_117 : decode cX0_run 117 = .ok (.iinc 7 1, 3) := by decide +kernel
theorem dX0_run_120 : decode cX0_run 120 = .ok (.iload 10, 2) := by decide +kernel
theorem dX0_run_122 : decode cX0_run 122 = .ok (.iconst 1, 1) := by decide +kernel
theorem dX0_run_123 : decode cX0_run 123 = .ok (.if_icmp .lt 18, 3) := by decide +kernel
theorem dX0_run_126 : decode cX0_run 126 = .ok (.iload 10, 2) := by decide +kernel
theorem dX0_run_128 : decode cX0_run 128 = .ok (.aload_n 1, 1) := by decide +kernel
theorem dX0_run_129 : decode cX0_run 129 = .ok (.iload 9, 2) := by decide +kernel
theorem dX0_run_131 : decode cX0_run 131 = .ok (.invokevirtual 66, 3) := by decide +kernel
theorem dX0_run_134 : decode cX0_run 134 = .ok (.if_icmp .gt 7, 3) := by decide +kernel
theorem dX0_run_137 : decode cX0_run 137 = .ok (.iconst 1, 1) := by decide +kernel
theorem dX0_run_138 : decode cX0_run 138 = .ok (.goto 4, 3) := by decide +kernel
theorem dX0_run_141 : decode cX0_run 141 = .ok (.iconst 0, 1) := by decide +kernel
theorem dX0_run_142 : decode cX0_run 142 = .ok (.istore 11, 2) := by decide +kernel
theorem dX0_run_144 : decode cX0_run 144 = .ok (.iload 11, 2) := by decide +kernel
theorem dX0_run_146 : decode cX0_run 146 = .ok (.ifCond .eq 13, 3) := by decide +kernel
theorem dX0_run_149 : decode cX0_run 149 = .ok (.aload_n 1, 1) := by decide +kernel
theorem dX0_run_150 : decode cX0_run 150 = .ok (.lload_n 3, 1) := by decide +kernel
theorem dX0_run_151 : decode cX0_run 151 = .ok (.iload 9, 2) := by decide +kernel
theorem dX0_run_153 : decode cX0_run 153 = .ok (.invokevirtual 69, 3) := by decide +kernel
theorem dX0_run_156 : decode cX0_run 156 = .ok (.goto 4, 3) := by decide +kernel
theorem dX0_run_159 : decode cX0_run 159 = .ok (.lload_n 3, 1) := by decide +kernel
theorem dX0_run_160 : decode cX0_run 160 = .ok (.lstore_n 3, 1) := by decide +kernel
theorem dX0_run_161 : decode cX0_run 161 = .ok (.lload_n 3, 1) := by decide +kernel
theorem dX0_run_162 : decode cX0_run 162 = .ok (.invokestatic 31, 3) := by decide +kernel
theorem dX0_run_165 : decode cX0_run 165 = .ok (.istore 5, 2) := by decide +kernel
theorem dX0_run_167 : decode cX0_run 167 = .ok (.iinc 8 1, 3) := by decide +kernel
theorem dX0_run_170 : decode cX0_run 170 = .ok (.goto (-132), 3) := by decide +kernel
theorem dX0_run_173 : decode cX0_run 173 = .ok (.goto (-156), 3) := by decide +kernel
theorem dX0_run_176 : decode cX0_run 176 = .ok (.aload_n 0, 1) := by decide +kernel
theorem dX0_run_177 : decode cX0_run 177 = .ok (.iload 5, 2) := by decide +kernel
theorem dX0_run_179 : decode cX0_run 179 = .ok (.iconst (-1), 1) := by decide +kernel
theorem dX0_run_180 : decode cX0_run 180 = .ok (.if_icmp .ne 7, 3) := by decide +kernel
theorem dX0_run_183 : decode cX0_run 183 = .ok (.iconst 2, 1) := by decide +kernel
theorem dX0_run_184 : decode cX0_run 184 = .ok (.goto 5, 3) := by decide +kernel
theorem dX0_run_187 : decode cX0_run 187 = .ok (.iload 5, 2) := by decide +kernel
theorem dX0_run_189 : decode cX0_run 189 = .ok (.putfield 9, 3) := by decide +kernel
theorem dX0_run_192 : decode cX0_run 192 = .ok (.aload_n 0, 1) := by decide +kernel
theorem dX0_run_193 : decode cX0_run 193 = .ok (.iload 7, 2) := by decide +kernel
theorem dX0_run_195 : decode cX0_run 195 = .ok (.putfield 15, 3) := by decide +kernel
theorem dX0_run_198 : decode cX0_run 198 = .ok (.aload_n 0, 1) := by decide +kernel
theorem dX0_run_199 : decode cX0_run 199 = .ok (.iload 6, 2) := by decide +kernel
theorem dX0_run_201 : decode cX0_run 201 = .ok (.putfield 18, 3) := by decide +kernel
theorem dX0_run_204 : decode cX0_run 204 = .ok (.aload_n 0, 1) := by decide +kernel
theorem dX0_run_205 : decode cX0_run 205 = .ok (.aload_n 1, 1) := by decide +kernel
theorem dX0_run_206 : decode cX0_run 206 = .ok (.lload_n 3, 1) := by decide +kernel
theorem dX0_run_207 : decode cX0_run 207 = .ok (.invokevirtual 72, 3) := by decide +kernel
theorem dX0_run_210 : decode cX0_run 210 = .ok (.iconst 1, 1) := by decide +kernel
theorem dX0_run_211 : decode cX0_run 211 = .ok (.ireturn, 1) := by decide +kernel
theorem dX0_keepLives_0 : decode cX0_keepLives 0 = .ok (.iconst 0, 1) := by decide +kernel
theorem dX0_keepLives_1 : decode cX0_keepLives 1 = .ok (.istore 4, 2) := by decide +kernel
theorem dX0_keepLives_3 : decode cX0_keepLives 3 = .ok (.iload 4, 2) := by decide +kernel
theorem dX0_keepLives_5 : decode cX0_keepLives 5 = .ok (.aload_n 0, 1) := by decide +kernel
theorem dX0_keepLives_6 : decode cX0_keepLives 6 = .ok (.getfield 21, 3) := by decide +kernel
theorem dX0_keepLives_9 : decode cX0_keepLives 9 = .ok (.arraylength, 1) := by decide +kernel
theorem dX0_keepLives_10 : decode cX0_keepLives 10 = .ok (.if_icmp .ge 18, 3) := by decide +kernel
theorem dX0_keepLives_13 : decode cX0_keepLives 13 = .ok (.aload_n 0, 1) := by decide +kernel
theorem dX0_keepLives_14 : decode cX0_keepLives 14 = .ok (.getfield 21, 3) := by decide +kernel
theorem dX0_keepLives_17 : decode cX0_keepLives 17 = .ok (.iload 4, 2) := by decide +kernel
theorem dX0_keepLives_19 : decode cX0_keepLives 19 = .ok (.bipush (-2), 2) := by decide +kernel
theorem dX0_keepLives_21 : decode cX0_keepLives 21 = .ok (.iastore, 1) := by decide +kernel
theorem dX0_keepLives_22 : decode cX0_keepLives 22 = .ok (.iinc 4 1, 3) := by decide +kernel
theorem dX0_keepLives_25 : decode cX0_keepLives 25 = .ok (.goto (-22), 3) := by decide +kernel
theorem dX0_keepLives_28 : decode cX0_keepLives 28 = .ok (.iconst 0, 1) := by decide +kernel
theorem dX0_keepLives_29 : decode cX0_keepLives 29 = .ok (.istore 4, 2) := by decide +kernel
theorem dX0_keepLives_31 : decode cX0_keepLives 31 = .ok (.iload 4, 2) := by decide +kernel
theorem dX0_keepLives_33 : decode cX0_keepLives 33 = .ok (.aload_n 1, 1) := by decide +kernel
theorem dX0_keepLives_34 : decode cX0_keepLives 34 = .ok (.getfield 38, 3) := by decide +kernel
theorem dX0_keepLives_37 : decode cX0_keepLives 37 = .ok (.if_icmp .ge 34, 3) := by decide +kernel
theorem dX0_keepLives_40 : decode cX0_keepLives 40 = .ok (.aload_n 1, 1) := by decide +kernel
theorem dX0_keepLives_41 : decode cX0_keepLives 41 = .ok (.getfield 41, 3) := by decide +kernel
theorem dX0_keepLives_44 : decode cX0_keepLives 44 = .ok (.iload 4, 2) := by decide +kernel
theorem dX0_keepLives_46 : decode cX0_keepLives 46 = .ok (.iaload, 1) := by decide +kernel
theorem dX0_keepLives_47 : decode cX0_keepLives 47 = .ok (.istore 5, 2) := by decide +kernel
theorem dX0_keepLives_49 : decode cX0_keepLives 49 = .ok (.aload_n 0, 1) := by decide +kernel
theorem dX0_keepLives_50 : decode cX0_keepLives 50 = .ok (.getfield 21, 3) := by decide +kernel
theorem dX0_keepLives_53 : decode cX0_keepLives 53 = .ok (.iload 5, 2) := by decide +kernel
theorem dX0_keepLives_55 : decode cX0_keepLives 55 = .ok (.lload_n 2, 1) := by decide +kernel
theorem dX0_keepLives_56 : decode cX0_keepLives 56 = .ok (.iload 5, 2) := by decide +kernel
theorem dX0_keepLives_58 : decode cX0_keepLives 58 = .ok (.invokestatic 76, 3) := by decide +kernel
theorem dX0_keepLives_61 : decode cX0_keepLives 61 = .ok (.invokestatic 80, 3) := by decide +kernel
theorem dX0_keepLives_64 : decode cX0_keepLives 64 = .ok (.iastore, 1) := by decide +kernel
theorem dX0_keepLives_65 : decode cX0_keepLives 65 = .ok (.iinc 4 1, 3) := by decide +kernel
theorem dX0_keepLives_68 : decode cX0_keepLives 68 = .ok (.goto (-37), 3) := by decide +kernel
theorem dX0_keepLives_71 : decode cX0_keepLives 71 = .ok (.return_, 1) := by decide +kernel
theorem dX1_init_0 : decode cX1_init 0 = .ok (.aload_n 0, 1) := by decide +kernel
theorem dX1_init_1 : decode cX1_init 1 = .ok (.invokespecial 3, 3) := by decide +kernel
theorem dX1_init_4 : decode cX1_init 4 = .ok (.aload_n 0, 1) := by decide +kernel
theorem dX1_init_5 : decode cX1_init 5 = .ok (.bipush 6, 2) := by decide +kernel
theorem dX1_init_7 : decode cX1_init 7 = .ok (.anewarray 9, 3) := by decide +kernel
theorem dX1_init_10 : decode cX1_init 10 = .ok (.putfield 11, 3) := by decide +kernel
theorem dX1_init_13 : decode cX1_init 13 = .ok (.aload_n 0, 1) := by decide +kernel
theorem dX1_init_14 : decode cX1_init 14 = .ok (.bipush 6, 2) := by decide +kernel
theorem dX1_init_16 : decode cX1_init 16 = .ok (.newarray .int, 2) := by decide +kernel
theorem dX1_init_18 : decode cX1_init 18 = .ok (.putfield 17, 3) := by decide +kernel
theorem dX1_init_21 : decode cX1_init 21 = .ok (.aload_n 0, 1) := by decide +kernel
theorem dX1_init_22 : decode cX1_init 22 = .ok (.bipush 6, 2) := by decide +kernel
theorem dX1_init_24 : decode cX1_init 24 = .ok (.newarray .int, 2) := by decide +kernel
theorem dX1_init_26 : decode cX1_init 26 = .ok (.putfield 21, 3) := by decide +kernel
theorem dX1_init_29 : decode cX1_init 29 = .ok (.aload_n 0, 1) := by decide +kernel
theorem dX1_init_30 : decode cX1_init 30 = .ok (.iconst 0, 1) := by decide +kernel
theorem dX1_init_31 : decode cX1_init 31 = .ok (.putfield 24, 3) := by decide +kernel
theorem dX1_init_34 : decode cX1_init 34 = .ok (.aload_n 0, 1) := by decide +kernel
theorem dX1_init_35 : decode cX1_init 35 = .ok (.iconst 1, 1) := by decide +kernel
theorem dX1_init_36 : decode cX1_init 36 = .ok (.putfield 28, 3) := by decide +kernel
theorem dX1_init_39 : decode cX1_init 39 = .ok (.aload_n 0, 1) := by decide +kernel
theorem dX1_init_40 : decode cX1_init 40 = .ok (.iconst 1, 1) := by decide +kernel
theorem dX1_init_41 : decode cX1_init 41 = .ok (.putfield 31, 3) := by decide +kernel
theorem dX1_init_44 : decode cX1_init 44 = .ok (.iconst 0, 1) := by decide +kernel
theorem dX1_init_45 : decode cX1_init 45 = .ok (.istore_n 1, 1) := by decide +kernel
theorem dX1_init_46 : decode cX1_init 46 = .ok (.iload_n 1, 1) := by decide +kernel
theorem dX1_init_47 : decode cX1_init 47 = .ok (.aload_n 0, 1) := by decide +kernel
theorem dX1_init_48 : decode cX1_init 48 = .ok (.getfield 11, 3) := by decide +kernel
theorem dX1_init_51 : decode cX1_init 51 = .ok (.arraylength, 1) := by decide +kernel
theorem dX1_init_52 : decode cX1_init 52 = .ok (.if_icmp .ge 22, 3) := by decide +kernel
theorem dX1_init_55 : decode cX1_init 55 = .ok (.aload_n 0, 1) := by decide +kernel
theorem dX1_init_56 : decode cX1_init 56 = .ok (.getfield 11, 3) := by decide +kernel
theorem dX1_init_59 : decode cX1_init 59 = .ok (.iload_n 1, 1) := by decide +kernel
theorem dX1_init_60 : decode cX1_init 60 = .ok (.new 9, 3) := by decide +kernel
theorem dX1_init_63 : decode cX1_init 63 = .ok (.dup, 1) := by decide +kernel
theorem dX1_init_64 : decode cX1_init 64 = .ok (.invokespecial 34, 3) := by decide +kernel
theorem dX1_init_67 : decode cX1_init 67 = .ok (.aastore, 1) := by decide +kernel
theorem dX1_init_68 : decode cX1_init 68 = .ok (.iinc 1 1, 3) := by decide +kernel
theorem dX1_init_71 : decode cX1_init 71 = .ok (.goto (-25), 3) := by decide +kernel
theorem dX1_init_74 : decode cX1_init 74 = .ok (.return_, 1) := by decide +kernel
theorem dX2_init_0 : decode cX2_init 0 = .ok (.aload_n 0, 1) := by decide +kernel
theorem dX2_init_1 : decode cX2_init 1 = .ok (.invokespecial 3, 3) := by decide +kernel
theorem dX2_init_4 : decode cX2_init 4 = .ok (.aload_n 0, 1) := by decide +kernel
theorem dX2_init_5 : decode cX2_init 5 = .ok (.bipush 6, 2) := by decide +kernel
theorem dX2_init_7 : decode cX2_init 7 = .ok (.newarray .int, 2) := by decide +kernel
theorem dX2_init_9 : decode cX2_init 9 = .ok (.putfield 9, 3) := by decide +kernel
theorem dX2_init_12 : decode cX2_init 12 = .ok (.aload_n 0, 1) := by decide +kernel
theorem dX2_init_13 : decode cX2_init 13 = .ok (.bipush 6, 2) := by decide +kernel
theorem dX2_init_15 : decode cX2_init 15 = .ok (.newarray .int, 2) := by decide +kernel
theorem dX2_init_17 : decode cX2_init 17 = .ok (.putfield 15, 3) := by decide +kernel
theorem dX2_init_20 : decode cX2_init 20 = .ok (.aload_n 0, 1) := by decide +kernel
theorem dX2_init_21 : decode cX2_init 21 = .ok (.bipush 6, 2) := by decide +kernel
theorem dX2_init_23 : decode cX2_init 23 = .ok (.newarray .int, 2) := by decide +kernel
theorem dX2_init_25 : decode cX2_init 25 = .ok (.putfield 18, 3) := by decide +kernel
theorem dX2_init_28 : decode cX2_init 28 = .ok (.aload_n 0, 1) := by decide +kernel
theorem dX2_init_29 : decode cX2_init 29 = .ok (.bipush 6, 2) := by decide +kernel
theorem dX2_init_31 : decode cX2_init 31 = .ok (.newarray .int, 2) := by decide +kernel
theorem dX2_init_33 : decode cX2_init 33 = .ok (.putfield 21, 3) := by decide +kernel
theorem dX2_init_36 : decode cX2_init 36 = .ok (.aload_n 0, 1) := by decide +kernel
theorem dX2_init_37 : decode cX2_init 37 = .ok (.bipush 6, 2) := by decide +kernel
theorem dX2_init_39 : decode cX2_init 39 = .ok (.newarray .int, 2) := by decide +kernel
theorem dX2_init_41 : decode cX2_init 41 = .ok (.putfield 24, 3) := by decide +kernel
theorem dX2_init_44 : decode cX2_init 44 = .ok (.aload_n 0, 1) := by decide +kernel
theorem dX2_init_45 : decode cX2_init 45 = .ok (.bipush 6, 2) := by decide +kernel
theorem dX2_init_47 : decode cX2_init 47 = .ok (.newarray .int, 2) := by decide +kernel
theorem dX2_init_49 : decode cX2_init 49 = .ok (.putfield 27, 3) := by decide +kernel
theorem dX2_init_52 : decode cX2_init 52 = .ok (.aload_n 0, 1) := by decide +kernel
theorem dX2_init_53 : decode cX2_init 53 = .ok (.bipush 6, 2) := by decide +kernel
theorem dX2_init_55 : decode cX2_init 55 = .ok (.newarray .int, 2) := by decide +kernel
theorem dX2_init_57 : decode cX2_init 57 = .ok (.putfield 30, 3) := by decide +kernel
theorem dX2_init_60 : decode cX2_init 60 = .ok (.aload_n 0, 1) := by decide +kernel
theorem dX2_init_61 : decode cX2_init 61 = .ok (.iconst 0, 1) := by decide +kernel
theorem dX2_init_62 : decode cX2_init 62 = .ok (.putfield 33, 3) := by decide +kernel
theorem dX2_init_65 : decode cX2_init 65 = .ok (.aload_n 0, 1) := by decide +kernel
theorem dX2_init_66 : decode cX2_init 66 = .ok (.iconst 1, 1) := by decide +kernel
theorem dX2_init_67 : decode cX2_init 67 = .ok (.putfield 37, 3) := by decide +kernel
theorem dX2_init_70 : decode cX2_init 70 = .ok (.aload_n 0, 1) := by decide +kernel
theorem dX2_init_71 : decode cX2_init 71 = .ok (.iconst 0, 1) := by decide +kernel
theorem dX2_init_72 : decode cX2_init 72 = .ok (.putfield 40, 3) := by decide +kernel
theorem dX2_init_75 : decode cX2_init 75 = .ok (.aload_n 0, 1) := by decide +kernel
theorem dX2_init_76 : decode cX2_init 76 = .ok (.iconst (-1), 1) := by decide +kernel
theorem dX2_init_77 : decode cX2_init 77 = .ok (.putfield 43, 3) := by decide +kernel
theorem dX2_init_80 : decode cX2_init 80 = .ok (.return_, 1) := by decide +kernel
theorem dX2_open_0 : decode cX2_open 0 = .ok (.aload_n 0, 1) := by decide +kernel
theorem dX2_open_1 : decode cX2_open 1 = .ok (.iload_n 1, 1) := by decide +kernel
theorem dX2_open_2 : decode cX2_open 2 = .ok (.putfield 37, 3) := by decide +kernel
theorem dX2_open_5 : decode cX2_open 5 = .ok (.aload_n 0, 1) := by decide +kernel
theorem dX2_open_6 : decode cX2_open 6 = .ok (.iload_n 2, 1) := by decide +kernel
theorem dX2_open_7 : decode cX2_open 7 = .ok (.putfield 40, 3) := by decide +kernel
theorem dX2_open_10 : decode cX2_open 10 = .ok (.aload_n 0, 1) := by decide +kernel
theorem dX2_open_11 : decode cX2_open 11 = .ok (.iload_n 3, 1) := by decide +kernel
theorem dX2_open_12 : decode cX2_open 12 = .ok (.putfield 43, 3) := by decide +kernel
theorem dX2_open_15 : decode cX2_open 15 = .ok (.aload_n 0, 1) := by decide +kernel
theorem dX2_open_16 : decode cX2_open 16 = .ok (.iconst 0, 1) := by decide +kernel
theorem dX2_open_17 : decode cX2_open 17 = .ok (.putfield 33, 3) := by decide +kernel
theorem dX2_open_20 : decode cX2_open 20 = .ok (.return_, 1) := by decide +kernel
theorem dX2_seat_0 : decode cX2_seat 0 = .ok (.iload_n 1, 1) := by decide +kernel
theorem dX2_seat_1 : decode cX2_seat 1 = .ok (.ifCond .lt 18, 3) := by decide +kernel
theorem dX2_seat_4 : decode cX2_seat 4 = .ok (.iload_n 1, 1) := by decide +kernel
theorem dX2_seat_5 : decode cX2_seat 5 = .ok (.bipush 6, 2) := by decide +kernel
theorem dX2_seat_7 : decode cX2_seat 7 = .ok (.if_icmp .ge 12, 3) := by decide +kernel
theorem dX2_seat_10 : decode cX2_seat 10 = .ok (.aload_n 0, 1) := by decide +kernel
theorem dX2_seat_11 : decode cX2_seat 11 = .ok (.getfield 33, 3) := by decide +kernel
theorem dX2_seat_14 : decode cX2_seat 14 = .ok (.bipush 6, 2) := by decide +kernel
theorem dX2_seat_16 : decode cX2_seat 16 = .ok (.if_icmp .lt 4, 3) := by decide +kernel
theorem dX2_seat_19 : decode cX2_seat 19 = .ok (.return_, 1) := by decide +kernel
theorem dX2_seat_20 : decode cX2_seat 20 = .ok (.aload_n 0, 1) := by decide +kernel
theorem dX2_seat_21 : decode cX2_seat 21 = .ok (.getfield 9, 3) := by decide +kernel
theorem dX2_seat_24 : decode cX2_seat 24 = .ok (.iload_n 1, 1) := by decide +kernel
theorem dX2_seat_25 : decode cX2_seat 25 = .ok (.aload_n 2, 1) := by decide +kernel
theorem dX2_seat_26 : decode cX2_seat 26 = .ok (.iload_n 3, 1) := by decide +kernel
theorem dX2_seat_27 : decode cX2_seat 27 = .ok (.iconst 0, 1) := by decide +kernel
theorem dX2_seat_28 : decode cX2_seat 28 = .ok (.invokevirtual 46, 3) := by decide +kernel
theorem dX2_seat_31 : decode cX2_seat 31 = .ok (.iastore, 1) := by decide +kernel
theorem dX2_seat_32 : decode cX2_seat 32 = .ok (.aload_n 0, 1) := by decide +kernel
theorem dX2_seat_33 : decode cX2_seat 33 = .ok (.getfield 15, 3) := by decide +kernel
theorem dX2_seat_36 : decode cX2_seat 36 = .ok (.iload_n 1, 1) := by decide +kernel
theorem dX2_seat_37 : decode cX2_seat 37 = .ok (.aload_n 2, 1) := by decide +kernel
theorem dX2_seat_38 : decode cX2_seat 38 = .ok (.iload_n 3, 1) := by decide +kernel
theorem dX2_seat_39 : decode cX2_seat 39 = .ok (.iconst 1, 1) := by decide +kernel
theorem dX2_seat_40 : decode cX2_seat 40 = .ok (.invokevirtual 46, 3) := by decide +kernel
theorem dX2_seat_43 : decode cX2_seat 43 = .ok (.iastore, 1) := by decide +kernel
theorem dX2_seat_44 : decode cX2_seat 44 = .ok (.aload_n 0, 1) := by decide +kernel
theorem dX2_seat_45 : decode cX2_seat 45 = .ok (.getfield 18, 3) := by decide +kernel
theorem dX2_seat_48 : decode cX2_seat 48 = .ok (.iload_n 1, 1) := by decide +kernel
theorem dX2_seat_49 : decode cX2_seat 49 = .ok (.aload_n 2, 1) := by decide +kernel
theorem dX2_seat_50 : decode cX2_seat 50 = .ok (.iload_n 3, 1) := by decide +kernel
theorem dX2_seat_51 : decode cX2_seat 51 = .ok (.iconst 2, 1) := by decide +kernel
theorem dX2_seat_52 : decode cX2_seat 52 = .ok (.invokevirtual 46, 3) := by decide +kernel
theorem dX2_seat_55 : decode cX2_seat 55 = .ok (.iastore, 1) := by decide +kernel
theorem dX2_seat_56 : decode cX2_seat 56 = .ok (.aload_n 0, 1) := by decide +kernel
theorem dX2_seat_57 : decode cX2_seat 57 = .ok (.getfield 21, 3) := by decide +kernel
theorem dX2_seat_60 : decode cX2_seat 60 = .ok (.iload_n 1, 1) := by decide +kernel
theorem dX2_seat_61 : decode cX2_seat 61 = .ok (.aload_n 2, 1) := by decide +kernel
theorem dX2_seat_62 : decode cX2_seat 62 = .ok (.iload_n 3, 1) := by decide +kernel
theorem dX2_seat_63 : decode cX2_seat 63 = .ok (.iconst 3, 1) := by decide +kernel
theorem dX2_seat_64 : decode cX2_seat 64 = .ok (.invokevirtual 46, 3) := by decide +kernel
theorem dX2_seat_67 : decode cX2_seat 67 = .ok (.iload 4, 2) := by decide +kernel
theorem dX2_seat_69 : decode cX2_seat 69 = .ok (.iadd, 1) := by decide +kernel
theorem dX2_seat_70 : decode cX2_seat 70 = .ok (.iastore, 1) := by decide +kernel
theorem dX2_seat_71 : decode cX2_seat 71 = .ok (.aload_n 0, 1) := by decide +kernel
theorem dX2_seat_72 : decode cX2_seat 72 = .ok (.getfield 24, 3) := by decide +kernel
theorem dX2_seat_75 : decode cX2_seat 75 = .ok (.iload_n 1, 1) := by decide +kernel
theorem dX2_seat_76 : decode cX2_seat 76 = .ok (.aload_n 2, 1) := by decide +kernel
theorem dX2_seat_77 : decode cX2_seat 77 = .ok (.iload_n 3, 1) := by decide +kernel
theorem dX2_seat_78 : decode cX2_seat 78 = .ok (.iconst 4, 1) := by decide +kernel
theorem dX2_seat_79 : decode cX2_seat 79 = .ok (.invokevirtual 46, 3) := by decide +kernel
theorem dX2_seat_82 : decode cX2_seat 82 = .ok (.iastore, 1) := by decide +kernel
theorem dX2_seat_83 : decode cX2_seat 83 = .ok (.aload_n 0, 1) := by decide +kernel
theorem dX2_seat_84 : decode cX2_seat 84 = .ok (.getfield 27, 3) := by decide +kernel
theorem dX2_seat_87 : decode cX2_seat 87 = .ok (.iload_n 1, 1) := by decide +kernel
theorem dX2_seat_88 : decode cX2_seat 88 = .ok (.aload_n 2, 1) := by decide +kernel
theorem dX2_seat_89 : decode cX2_seat 89 = .ok (.iload_n 3, 1) := by decide +kernel
theorem dX2_seat_90 : decode cX2_seat 90 = .ok (.iconst 5, 1) := by decide +kernel
theorem dX2_seat_91 : decode cX2_seat 91 = .ok (.invokevirtual 46, 3) := by decide +kernel
theorem dX2_seat_94 : decode cX2_seat 94 = .ok (.iastore, 1) := by decide +kernel
theorem dX2_seat_95 : decode cX2_seat 95 = .ok (.aload_n 0, 1) := by decide +kernel
theorem dX2_seat_96 : decode cX2_seat 96 = .ok (.getfield 33, 3) := by decide +kernel
theorem dX2_seat_99 : decode cX2_seat 99 = .ok (.istore 5, 2) := by decide +kernel
theorem dX2_seat_101 : decode cX2_seat 101 = .ok (.iload 5, 2) := by decide +kernel
theorem dX2_seat_103 : decode cX2_seat 103 = .ok (.ifCond .le 48, 3) := by decide +kernel
theorem dX2_seat_106 : decode cX2_seat 106 = .ok (.aload_n 0, 1) := by decide +kernel
theorem dX2_seat_107 : decode cX2_seat 107 = .ok (.getfield 27, 3) := by decide +kernel
theorem dX2_seat_110 : decode cX2_seat 110 = .ok (.aload_n 0, 1) := by decide +kernel
theorem dX2_seat_111 : decode cX2_seat 111 = .ok (.getfield 30, 3) := by decide +kernel
theorem dX2_seat_114 : decode cX2_seat 114 = .ok (.iload 5, 2) := by decide +kernel
theorem dX2_seat_116 : decode cX2_seat 116 = .ok (.iconst 1, 1) := by decide +kernel
theorem dX2_seat_117 : decode cX2_seat 117 = .ok (.isub, 1) := by decide +kernel
theorem dX2_seat_118 : decode cX2_seat 118 = .ok (.iaload, 1) := by decide +kernel
theorem dX2_seat_119 : decode cX2_seat 119 = .ok (.iaload, 1) := by decide +kernel
theorem dX2_seat_120 : decode cX2_seat 120 = .ok (.aload_n 0, 1) := by decide +kernel
theorem dX2_seat_121 : decode cX2_seat 121 = .ok (.getfield 27, 3) := by decide +kernel
theorem dX2_seat_124 : decode cX2_seat 124 = .ok (.iload_n 1, 1) := by decide +kernel
theorem dX2_seat_125 : decode cX2_seat 125 = .ok (.iaload, 1) := by decide +kernel
theorem dX2_seat_126 : decode cX2_seat 126 = .ok (.if_icmp .ge 25, 3) := by decide +kernel
theorem dX2_seat_129 : decode cX2_seat 129 = .ok (.aload_n 0, 1) := by decide +kernel
theorem dX2_seat_130 : decode cX2_seat 130 = .ok (.getfield 30, 3) := by decide +kernel
theorem dX2_seat_133 : decode cX2_seat 133 = .ok (.iload 5, 2) := by decide +kernel
theorem dX2_seat_135 : decode cX2_seat 135 = .ok (.aload_n 0, 1) := by decide +kernel
theorem dX2_seat_136 : decode cX2_seat 136 = .ok (.getfield 30, 3) := by decide +kernel
theorem dX2_seat_139 : decode cX2_seat 139 = .ok (.iload 5, 2) := by decide +kernel
theorem dX2_seat_141 : decode cX2_seat 141 = .ok (.iconst 1, 1) := by decide +kernel
theorem dX2_seat_142 : decode cX2_seat 142 = .ok (.isub, 1) := by decide +kernel
theorem dX2_seat_143 : decode cX2_seat 143 = .ok (.iaload, 1) := by decide +kernel
theorem dX2_seat_144 : decode cX2_seat 144 = .ok (.iastore, 1) := by decide +kernel
theorem dX2_seat_145 : decode cX2_seat 145 = .ok (.iinc 5 (-1), 3) := by decide +kernel
theorem dX2_seat_148 : decode cX2_seat 148 = .ok (.goto (-47), 3) := by decide +kernel
theorem dX2_seat_151 : decode cX2_seat 151 = .ok (.aload_n 0, 1) := by decide +kernel
theorem dX2_seat_152 : decode cX2_seat 152 = .ok (.getfield 30, 3) := by decide +kernel
theorem dX2_seat_155 : decode cX2_seat 155 = .ok (.iload 5, 2) := by decide +kernel
theorem dX2_seat_157 : decode cX2_seat 157 = .ok (.iload_n 1, 1) := by decide +kernel
theorem dX2_seat_158 : decode cX2_seat 158 = .ok (.iastore, 1) := by decide +kernel
theorem dX2_seat_159 : decode cX2_seat 159 = .ok (.aload_n 0, 1) := by decide +kernel
theorem dX2_seat_160 : decode cX2_seat 160 = .ok (.dup, 1) := by decide +kernel
theorem dX2_seat_161 : decode cX2_seat 161 = .ok (.getfield 33, 3) := by decide +kernel
theorem dX2_seat_164 : decode cX2_seat 164 = .ok (.iconst 1, 1) := by decide +kernel
theorem dX2_seat_165 : decode cX2_seat 165 = .ok (.iadd, 1) := by decide +kernel
theorem dX2_seat_166 : decode cX2_seat 166 = .ok (.putfield 33, 3) := by decide +kernel
theorem dX2_seat_169 : decode cX2_seat 169 = .ok (.return_, 1) := by decide +kernel
theorem dX2_beginning_0 : decode cX2_beginning 0 = .ok (.lconst 0, 1) := by decide +kernel
theorem dX2_beginning_1 : decode cX2_beginning 1 = .ok (.lstore_n 1, 1) := by decide +kernel
theorem dX2_beginning_2 : decode cX2_beginning 2 = .ok (.iconst 0, 1) := by decide +kernel
theorem dX2_beginning_3 : decode cX2_beginning 3 = .ok (.istore_n 3, 1) := by decide +kernel
theorem dX2_beginning_4 : decode cX2_beginning 4 = .ok (.iload_n 3, 1) := by decide +kernel
theorem dX2_beginning_5 : decode cX2_beginning 5 = .ok (.aload_n 0, 1) := by decide +kernel
theorem dX2_beginning_6 : decode cX2_beginning 6 = .ok (.getfield 33, 3) := by decide +kernel
theorem dX2_beginning_9 : decode cX2_beginning 9 = .ok (.if_icmp .ge 37, 3) := by decide +kernel
theorem dX2_beginning_12 : decode cX2_beginning 12 = .ok (.aload_n 0, 1) := by decide +kernel
theorem dX2_beginning_13 : decode cX2_beginning 13 = .ok (.getfield 30, 3) := by decide +kernel
theorem dX2_beginning_16 : decode cX2_beginning 16 = .ok (.iload_n 3, 1) := by decide +kernel
theorem dX2_beginning_17 : decode cX2_beginning 17 = .ok (.iaload, 1) := by decide +kernel
theorem dX2_beginning_18 : decode cX2_beginning 18 = .ok (.istore 4, 2) := by decide +kernel
theorem dX2_beginning_20 : decode cX2_beginning 20 = .ok (.lload_n 1, 1) := by decide +kernel
theorem dX2_beginning_21 : decode cX2_beginning 21 = .ok (.aload_n 0, 1) := by decide +kernel
theorem dX2_beginning_22 : decode cX2_beginning 22 = .ok (.getfield 15, 3) := by decide +kernel
theorem dX2_beginning_25 : decode cX2_beginning 25 = .ok (.iload 4, 2) := by decide +kernel
theorem dX2_beginning_27 : decode cX2_beginning 27 = .ok (.iaload, 1) := by decide +kernel
theorem dX2_beginning_28 : decode cX2_beginning 28 = .ok (.bipush 32, 2) := by decide +kernel
theorem dX2_beginning_30 : decode cX2_beginning 30 = .ok (.iadd, 1) := by decide +kernel
theorem dX2_beginning_31 : decode cX2_beginning 31 = .ok (.i2l, 1) := by decide +kernel
theorem dX2_beginning_32 : decode cX2_beginning 32 = .ok (.bipush 6, 2) := by decide +kernel
theorem dX2_beginning_34 : decode cX2_beginning 34 = .ok (.iload 4, 2) := by decide +kernel
theorem dX2_beginning_36 : decode cX2_beginning 36 = .ok (.imul, 1) := by decide +kernel
theorem dX2_beginning_37 : decode cX2_beginning 37 = .ok (.lshl, 1) := by decide +kernel
theorem dX2_beginning_38 : decode cX2_beginning 38 = .ok (.lor, 1) := by decide +kernel
theorem dX2_beginning_39 : decode cX2_beginning 39 = .ok (.lstore_n 1, 1) := by decide +kernel
theorem dX2_beginning_40 : decode cX2_beginning 40 = .ok (.iinc 3 1, 3) := by decide +kernel
theorem dX2_beginning_43 : decode cX2_beginning 43 = .ok (.goto (-39), 3) := by decide +kernel
theorem dX2_beginning_46 : decode cX2_beginning 46 = .ok (.lload_n 1, 1) := by decide +kernel
theorem dX2_beginning_47 : decode cX2_beginning 47 = .ok (.lreturn, 1) := by decide +kernel
theorem dX2_winner_0 : decode cX2_winner 0 = .ok (.lload_n 0, 1) := by decide +kernel
theorem dX2_winner_1 : decode cX2_winner 1 = .ok (.ldc2_w 52, 3) := by decide +kernel
theorem dX2_winner_4 : decode cX2_winner 4 = .ok (.land, 1) := by decide +kernel
theorem dX2_winner_5 : decode cX2_winner 5 = .ok (.lconst 0, 1) := by decide +kernel
theorem dX2_winner_6 : decode cX2_winner 6 = .ok (.lcmp, 1) := by decide +kernel
theorem dX2_winner_7 : decode cX2_winner 7 = .ok (.ifCond .ne 5, 3) := by decide +kernel
theorem dX2_winner_10 : decode cX2_winner 10 = .ok (.iconst 1, 1) := by decide +kernel
theorem dX2_winner_11 : decode cX2_winner 11 = .ok (.ireturn, 1) := by decide +kernel
theorem dX2_winner_12 : decode cX2_winner 12 = .ok (.lload_n 0, 1) := by decide +kernel
theorem dX2_winner_13 : decode cX2_winner 13 = .ok (.ldc2_w 54, 3) := by decide +kernel
theorem dX2_winner_16 : decode cX2_winner 16 = .ok (.land, 1) := by decide +kernel
theorem dX2_winner_17 : decode cX2_winner 17 = .ok (.lconst 0, 1) := by decide +kernel
theorem dX2_winner_18 : decode cX2_winner 18 = .ok (.lcmp, 1) := by decide +kernel
theorem dX2_winner_19 : decode cX2_winner 19 = .ok (.ifCond .ne 7, 3) := by decide +kernel
theorem dX2_winner_22 : decode cX2_winner 22 = .ok (.iconst 0, 1) := by decide +kernel
theorem dX2_winner_23 : decode cX2_winner 23 = .ok (.goto 4, 3) := by decide +kernel
theorem dX2_winner_26 : decode cX2_winner 26 = .ok (.iconst (-1), 1) := by decide +kernel
theorem dX2_winner_27 : decode cX2_winner 27 = .ok (.ireturn, 1) := by decide +kernel
theorem dX2_part_0 : decode cX2_part 0 = .ok (.lload_n 0, 1) := by decide +kernel
theorem dX2_part_1 : decode cX2_part 1 = .ok (.bipush 6, 2) := by decide +kernel
theorem dX2_part_3 : decode cX2_part 3 = .ok (.iload_n 2, 1) := by decide +kernel
theorem dX2_part_4 : decode cX2_part 4 = .ok (.imul, 1) := by decide +kernel
theorem dX2_part_5 : decode cX2_part 5 = .ok (.lushr, 1) := by decide +kernel
theorem dX2_part_6 : decode cX2_part 6 = .ok (.l2i, 1) := by decide +kernel
theorem dX2_part_7 : decode cX2_part 7 = .ok (.bipush 63, 2) := by decide +kernel
theorem dX2_part_9 : decode cX2_part 9 = .ok (.iand, 1) := by decide +kernel
theorem dX2_part_10 : decode cX2_part 10 = .ok (.ireturn, 1) := by decide +kernel
theorem dX2_lifeOf_0 : decode cX2_lifeOf 0 = .ok (.iload_n 0, 1) := by decide +kernel
theorem dX2_lifeOf_1 : decode cX2_lifeOf 1 = .ok (.bipush 31, 2) := by decide +kernel
theorem dX2_lifeOf_3 : decode cX2_lifeOf 3 = .ok (.iand, 1) := by decide +kernel
theorem dX2_lifeOf_4 : decode cX2_lifeOf 4 = .ok (.ireturn, 1) := by decide +kernel
theorem dX2_hasTurn_0 : decode cX2_hasTurn 0 = .ok (.iload 4, 2) := by decide +kernel
theorem dX2_hasTurn_2 : decode cX2_hasTurn 2 = .ok (.iconst 1, 1) := by decide +kernel
theorem dX2_hasTurn_3 : decode cX2_hasTurn 3 = .ok (.if_icmp .ne 17, 3) := by decide +kernel
theorem dX2_hasTurn_6 : decode cX2_hasTurn 6 = .ok (.iload_n 3, 1) := by decide +kernel
theorem dX2_hasTurn_7 : decode cX2_hasTurn 7 = .ok (.iconst 3, 1) := by decide +kernel
theorem dX2_hasTurn_8 : decode cX2_hasTurn 8 = .ok (.idiv, 1) := by decide +kernel
theorem dX2_hasTurn_9 : decode cX2_hasTurn 9 = .ok (.aload_n 0, 1) := by decide +kernel
theorem dX2_hasTurn_10 : decode cX2_hasTurn 10 = .ok (.getfield 43, 3) := by decide +kernel
theorem dX2_hasTurn_13 : decode cX2_hasTurn 13 = .ok (.if_icmp .ne 7, 3) := by decide +kernel
theorem dX2_hasTurn_16 : decode cX2_hasTurn 16 = .ok (.iconst 1, 1) := by decide +kernel
theorem dX2_hasTurn_17 : decode cX2_hasTurn 17 = .ok (.goto 4, 3) := by decide +kernel
theorem dX2_hasTurn_20 : decode cX2_hasTurn 20 = .ok (.iconst 0, 1) := by decide +kernel
theorem dX2_hasTurn_21 : decode cX2_hasTurn 21 = .ok (.istore 5, 2) := by decide +kernel
theorem dX2_hasTurn_23 : decode cX2_hasTurn 23 = .ok (.lload_n 1, 1) := by decide +kernel
theorem dX2_hasTurn_24 : decode cX2_hasTurn 24 = .ok (.iload_n 3, 1) := by decide +kernel
theorem dX2_hasTurn_25 : decode cX2_hasTurn 25 = .ok (.invokestatic 56, 3) := by decide +kernel
theorem dX2_hasTurn_28 : decode cX2_hasTurn 28 = .ok (.bipush 32, 2) := by decide +kernel
theorem dX2_hasTurn_30 : decode cX2_hasTurn 30 = .ok (.if_icmp .lt 12, 3) := by decide +kernel
theorem dX2_hasTurn_33 : decode cX2_hasTurn 33 = .ok (.iload 5, 2) := by decide +kernel
theorem dX2_hasTurn_35 : decode cX2_hasTurn 35 = .ok (.ifCond .ne 7, 3) := by decide +kernel
theorem dX2_hasTurn_38 : decode cX2_hasTurn 38 = .ok (.iconst 1, 1) := by decide +kernel
theorem dX2_hasTurn_39 : decode cX2_hasTurn 39 = .ok (.goto 4, 3) := by decide +kernel
theorem dX2_hasTurn_42 : decode cX2_hasTurn 42 = .ok (.iconst 0, 1) := by decide +kernel
theorem dX2_hasTurn_43 : decode cX2_hasTurn 43 = .ok (.ireturn, 1) := by decide +kernel
theorem dX2_flees_0 : decode cX2_flees 0 = .ok (.lload_n 1, 1) := by decide +kernel
theorem dX2_flees_1 : decode cX2_flees 1 = .ok (.iload_n 3, 1) := by decide +kernel
theorem dX2_flees_2 : decode cX2_flees 2 = .ok (.invokestatic 56, 3) := by decide +kernel
theorem dX2_flees_5 : decode cX2_flees 5 = .ok (.invokestatic 60, 3) := by decide +kernel
theorem dX2_flees_8 : decode cX2_flees 8 = .ok (.aload_n 0, 1) := by decide +kernel
theorem dX2_flees_9 : decode cX2_flees 9 = .ok (.getfield 24, 3) := by decide +kernel
theorem dX2_flees_12 : decode cX2_flees 12 = .ok (.iload_n 3, 1) := by decide +kernel
theorem dX2_flees_13 : decode cX2_flees 13 = .ok (.iaload, 1) := by decide +kernel
theorem dX2_flees_14 : decode cX2_flees 14 = .ok (.if_icmp .gt 7, 3) := by decide +kernel
theorem dX2_flees_17 : decode cX2_flees 17 = .ok (.iconst 1, 1) := by decide +kernel
theorem dX2_flees_18 : decode cX2_flees 18 = .ok (.goto 4, 3) := by decide +kernel
theorem dX2_flees_21 : decode cX2_flees 21 = .ok (.iconst 0, 1) := by decide +kernel
theorem dX2_flees_22 : decode cX2_flees 22 = .ok (.ireturn, 1) := by decide +kernel
theorem dX2_afterFlight_0 : decode cX2_afterFlight 0 = .ok (.lload_n 1, 1) := by decide +kernel
theorem dX2_afterFlight_1 : decode cX2_afterFlight 1 = .ok (.ldc2_w 64, 3) := by decide +kernel
theorem dX2_afterFlight_4 : decode cX2_afterFlight 4 = .ok (.bipush 6, 2) := by decide +kernel
theorem dX2_afterFlight_6 : decode cX2_afterFlight 6 = .ok (.iload_n 3, 1) := by decide +kernel
theorem dX2_afterFlight_7 : decode cX2_afterFlight 7 = .ok (.imul, 1) := by decide +kernel
theorem dX2_afterFlight_8 : decode cX2_afterFlight 8 = .ok (.lshl, 1) := by decide +kernel
theorem dX2_afterFlight_9 : decode cX2_afterFlight 9 = .ok (.ldc2_w 66, 3) := by decide +kernel
theorem dX2_afterFlight_12 : decode cX2_afterFlight 12 = .ok (.lxor, 1) := by decide +kernel
theorem dX2_afterFlight_13 : decode cX2_afterFlight 13 = .ok (.land, 1) := by decide +kernel
theorem dX2_afterFlight_14 : decode cX2_afterFlight 14 = .ok (.lreturn, 1) := by decide +kernel
theorem dX2_hits_0 : decode cX2_hits 0 = .ok (.aload_n 0, 1) := by decide +kernel
theorem dX2_hits_1 : decode cX2_hits 1 = .ok (.getfield 18, 3) := by decide +kernel
theorem dX2_hits_4 : decode cX2_hits 4 = .ok (.iload_n 1, 1) := by decide +kernel
theorem dX2_hits_5 : decode cX2_hits 5 = .ok (.iaload, 1) := by decide +kernel
theorem dX2_hits_6 : decode cX2_hits 6 = .ok (.ireturn, 1) := by decide +kernel
theorem dX2_afterHit_0 : decode cX2_afterHit 0 = .ok (.iload_n 3, 1) := by decide +kernel
theorem dX2_afterHit_1 : decode cX2_afterHit 1 = .ok (.iconst 3, 1) := by decide +kernel
theorem dX2_afterHit_2 : decode cX2_afterHit 2 = .ok (.idiv, 1) := by decide +kernel
theorem dX2_afterHit_3 : decode cX2_afterHit 3 = .ok (.istore 4, 2) := by decide +kernel
theorem dX2_afterHit_5 : decode cX2_afterHit 5 = .ok (.aload_n 0, 1) := by decide +kernel
theorem dX2_afterHit_6 : decode cX2_afterHit 6 = .ok (.getfield 9, 3) := by decide +kernel
theorem dX2_afterHit_9 : decode cX2_afterHit 9 = .ok (.iload_n 3, 1) := by decide +kernel
theorem dX2_afterHit_10 : decode cX2_afterHit 10 = .ok (.iaload, 1) := by decide +kernel
theorem dX2_afterHit_11 : decode cX2_afterHit 11 = .ok (.lookupswitch 74 #[(0, 25), (1, 58)], 25) := by decide +kernel
theorem dX2_afterHit_36 : decode cX2_afterHit 36 = .ok (.lload_n 1, 1) := by decide +kernel
theorem dX2_afterHit_37 : decode cX2_afterHit 37 = .ok (.aload_n 0, 1) := by decide +kernel
theorem dX2_afterHit_38 : decode cX2_afterHit 38 = .ok (.lload_n 1, 1) := by decide +kernel
theorem dX2_afterHit_39 : decode cX2_afterHit 39 = .ok (.iconst 1, 1) := by decide +kernel
theorem dX2_afterHit_40 : decode cX2_afterHit 40 = .ok (.iload 4, 2) := by decide +kernel
theorem dX2_afterHit_42 : decode cX2_afterHit 42 = .ok (.isub, 1) := by decide +kernel
theorem dX2_afterHit_43 : decode cX2_afterHit 43 = .ok (.aload_n 0, 1) := by decide +kernel
theorem dX2_afterHit_44 : decode cX2_afterHit 44 = .ok (.getfield 40, 3) := by decide +kernel
theorem dX2_afterHit_47 : decode cX2_afterHit 47 = .ok (.iconst 1, 1) := by decide +kernel
theorem dX2_afterHit_48 : decode cX2_afterHit 48 = .ok (.if_icmp .ne 7, 3) := by decide +kernel
theorem dX2_afterHit_51 : decode cX2_afterHit 51 = .ok (.iconst 1, 1) := by decide +kernel
theorem dX2_afterHit_52 : decode cX2_afterHit 52 = .ok (.goto 4, 3) := by decide +kernel
theorem dX2_afterHit_55 : decode cX2_afterHit 55 = .ok (.iconst 0, 1) := by decide +kernel
theorem dX2_afterHit_56 : decode cX2_afterHit 56 = .ok (.invokevirtual 68, 3) := by decide +kernel
theorem dX2_afterHit_59 : decode cX2_afterHit 59 = .ok (.aload_n 0, 1) := by decide +kernel
theorem dX2_afterHit_60 : decode cX2_afterHit 60 = .ok (.getfield 21, 3) := by decide +kernel
theorem dX2_afterHit_63 : decode cX2_afterHit 63 = .ok (.iload_n 3, 1) := by decide +kernel
theorem dX2_afterHit_64 : decode cX2_afterHit 64 = .ok (.iaload, 1) := by decide +kernel
theorem dX2_afterHit_65 : decode cX2_afterHit 65 = .ok (.invokestatic 72, 3) := by decide +kernel
theorem dX2_afterHit_68 : decode cX2_afterHit 68 = .ok (.lreturn, 1) := by decide +kernel
theorem dX2_afterHit_69 : decode cX2_afterHit 69 = .ok (.aload_n 0, 1) := by decide +kernel
theorem dX2_afterHit_70 : decode cX2_afterHit 70 = .ok (.lload_n 1, 1) := by decide +kernel
theorem dX2_afterHit_71 : decode cX2_afterHit 71 = .ok (.iconst 1, 1) := by decide +kernel
theorem dX2_afterHit_72 : decode cX2_afterHit 72 = .ok (.iload 4, 2) := by decide +kernel
theorem dX2_afterHit_74 : decode cX2_afterHit 74 = .ok (.isub, 1) := by decide +kernel
theorem dX2_afterHit_75 : decode cX2_afterHit 75 = .ok (.aload_n 0, 1) := by decide +kernel
theorem dX2_afterHit_76 : decode cX2_afterHit 76 = .ok (.getfield 21, 3) := by decide +kernel
theorem dX2_afterHit_79 : decode cX2_afterHit 79 = .ok (.iload_n 3, 1) := by decide +kernel
theorem dX2_afterHit_80 : decode cX2_afterHit 80 = .ok (.iaload, 1) := by decide +kernel
theorem dX2_afterHit_81 : decode cX2_afterHit 81 = .ok (.invokevirtual 76, 3) := by decide +kernel
theorem dX2_afterHit_84 : decode cX2_afterHit 84 = .ok (.lreturn, 1) := by decide +kernel
theorem dX2_afterHit_85 : decode cX2_afterHit 85 = .ok (.aload_n 0, 1) := by decide +kernel
theorem dX2_afterHit_86 : decode cX2_afterHit 86 = .ok (.lload_n 1, 1) := by decide +kernel
theorem dX2_afterHit_87 : decode cX2_afterHit 87 = .ok (.aload_n 0, 1) := by decide +kernel
theorem dX2_afterHit_88 : decode cX2_afterHit 88 = .ok (.lload_n 1, 1) := by decide +kernel
theorem dX2_afterHit_89 : decode cX2_afterHit 89 = .ok (.iload 4, 2) := by decide +kernel
theorem dX2_afterHit_91 : decode cX2_afterHit 91 = .ok (.iconst 1, 1) := by decide +kernel
theorem dX2_afterHit_92 : decode cX2_afterHit 92 = .ok (.invokevirtual 68, 3) := by decide +kernel
theorem dX2_afterHit_95 : decode cX2_afterHit 95 = .ok (.aload_n 0, 1) := by decide +kernel
theorem dX2_afterHit_96 : decode cX2_afterHit 96 = .ok (.getfield 21, 3) := by decide +kernel
theorem dX2_afterHit_99 : decode cX2_afterHit 99 = .ok (.iload_n 3, 1) := by decide +kernel
theorem dX2_afterHit_100 : decode cX2_afterHit 100 = .ok (.iaload, 1) := by decide +kernel
theorem dX2_afterHit_101 : decode cX2_afterHit 101 = .ok (.invokevirtual 79, 3) := by decide +kernel
theorem dX2_afterHit_104 : decode cX2_afterHit 104 = .ok (.lreturn, 1) := by decide +kernel
theorem dX2_chosen_0 : decode cX2_chosen 0 = .ok (.iconst (-1), 1) := by decide +kernel
theorem dX2_chosen_1 : decode cX2_chosen 1 = .ok (.istore 5, 2) := by decide +kernel
theorem dX2_chosen_3 : decode cX2_chosen 3 = .ok (.iconst 0, 1) := by decide +kernel
theorem dX2_chosen_4 : decode cX2_chosen 4 = .ok (.istore 6, 2) := by decide +kernel
theorem dX2_chosen_6 : decode cX2_chosen 6 = .ok (.iconst 3, 1) := by decide +kernel
theorem dX2_chosen_7 : decode cX2_chosen 7 = .ok (.iload_n 3, 1) := by decide +kernel
theorem dX2_chosen_8 : decode cX2_chosen 8 = .ok (.imul, 1) := by decide +kernel
theorem dX2_chosen_9 : decode cX2_chosen 9 = .ok (.istore 7, 2) := by decide +kernel
theorem dX2_chosen_11 : decode cX2_chosen 11 = .ok (.iload 7, 2) := by decide +kernel
theorem dX2_chosen_13 : decode cX2_chosen 13 = .ok (.iconst 3, 1) := by decide +kernel
theorem dX2_chosen_14 : decode cX2_chosen 14 = .ok (.iload_n 3, 1) := by decide +kernel
theorem dX2_chosen_15 : decode cX2_chosen 15 = .ok (.imul, 1) := by decide +kernel
theorem dX2_chosen_16 : decode cX2_chosen 16 = .ok (.iconst 3, 1) := by decide +kernel
theorem dX2_chosen_17 : decode cX2_chosen 17 = .ok (.iadd, 1) := by decide +kernel
theorem dX2_chosen_18 : decode cX2_chosen 18 = .ok (.if_icmp .ge 50, 3) := by decide +kernel
theorem dX2_chosen_21 : decode cX2_chosen 21 = .ok (.lload_n 1, 1) := by decide +kernel
theorem dX2_chosen_22 : decode cX2_chosen 22 = .ok (.iload 7, 2) := by decide +kernel
theorem dX2_chosen_24 : decode cX2_chosen 24 = .ok (.invokestatic 56, 3) := by decide +kernel
theorem dX2_chosen_27 : decode cX2_chosen 27 = .ok (.istore 8, 2) := by decide +kernel
theorem dX2_chosen_29 : decode cX2_chosen 29 = .ok (.iload 8, 2) := by decide +kernel
theorem dX2_chosen_31 : decode cX2_chosen 31 = .ok (.bipush 32, 2) := by decide +kernel
theorem dX2_chosen_33 : decode cX2_chosen 33 = .ok (.if_icmp .lt 29, 3) := by decide +kernel
theorem dX2_chosen_36 : decode cX2_chosen 36 = .ok (.iload 5, 2) := by decide +kernel
theorem dX2_chosen_38 : decode cX2_chosen 38 = .ok (.iconst (-1), 1) := by decide +kernel
theorem dX2_chosen_39 : decode cX2_chosen 39 = .ok (.if_icmp .eq 15, 3) := by decide +kernel
theorem dX2_chosen_42 : decode cX2_chosen 42 = .ok (.iload 4, 2) := by decide +kernel
theorem dX2_chosen_44 : decode cX2_chosen 44 = .ok (.ifCond .eq 18, 3) := by decide +kernel
theorem dX2_chosen_47 : decode cX2_chosen 47 = .ok (.iload 8, 2) := by decide +kernel
theorem dX2_chosen_49 : decode cX2_chosen 49 = .ok (.iload 6, 2) := by decide +kernel
theorem dX2_chosen_51 : decode cX2_chosen 51 = .ok (.if_icmp .ge 11, 3) := by decide +kernel
theorem dX2_chosen_54 : decode cX2_chosen 54 = .ok (.iload 7, 2) := by decide +kernel
theorem dX2_chosen_56 : decode cX2_chosen 56 = .ok (.istore 5, 2) := by decide +kernel
theorem dX2_chosen_58 : decode cX2_chosen 58 = .ok (.iload 8, 2) := by decide +kernel
theorem dX2_chosen_60 : decode cX2_chosen 60 = .ok (.istore 6, 2) := by decide +kernel
theorem dX2_chosen_62 : decode cX2_chosen 62 = .ok (.iinc 7 1, 3) := by decide +kernel
theorem dX2_chosen_65 : decode cX2_chosen 65 = .ok (.goto (-54), 3) := by decide +kernel
theorem dX2_chosen_68 : decode cX2_chosen 68 = .ok (.iload 5, 2) := by decide +kernel
theorem dX2_chosen_70 : decode cX2_chosen 70 = .ok (.ireturn, 1) := by decide +kernel
theorem dX2_allStruck_0 : decode cX2_allStruck 0 = .ok (.lload_n 1, 1) := by decide +kernel
theorem dX2_allStruck_1 : decode cX2_allStruck 1 = .ok (.lstore 5, 2) := by decide +kernel
theorem dX2_allStruck_3 : decode cX2_allStruck 3 = .ok (.iconst 3, 1) := by decide +kernel
theorem dX2_allStruck_4 : decode cX2_allStruck 4 = .ok (.iload_n 3, 1) := by decide +kernel
theorem dX2_allStruck_5 : decode cX2_allStruck 5 = .ok (.imul, 1) := by decide +kernel
theorem dX2_allStruck_6 : decode cX2_allStruck 6 = .ok (.istore 7, 2) := by decide +kernel
theorem dX2_allStruck_8 : decode cX2_allStruck 8 = .ok (.iload 7, 2) := by decide +kernel
theorem dX2_allStruck_10 : decode cX2_allStruck 10 = .ok (.iconst 3, 1) := by decide +kernel
theorem dX2_allStruck_11 : decode cX2_allStruck 11 = .ok (.iload_n 3, 1) := by decide +kernel
theorem dX2_allStruck_12 : decode cX2_allStruck 12 = .ok (.imul, 1) := by decide +kernel
theorem dX2_allStruck_13 : decode cX2_allStruck 13 = .ok (.iconst 3, 1) := by decide +kernel
theorem dX2_allStruck_14 : decode cX2_allStruck 14 = .ok (.iadd, 1) := by decide +kernel
theorem dX2_allStruck_15 : decode cX2_allStruck 15 = .ok (.if_icmp .ge 31, 3) := by decide +kernel
theorem dX2_allStruck_18 : decode cX2_allStruck 18 = .ok (.lload_n 1, 1) := by decide +kernel
theorem dX2_allStruck_19 : decode cX2_allStruck 19 = .ok (.iload 7, 2) := by decide +kernel
theorem dX2_allStruck_21 : decode cX2_allStruck 21 = .ok (.invokestatic 56, 3) := by decide +kernel
theorem dX2_allStruck_24 : decode cX2_allStruck 24 = .ok (.bipush 32, 2) := by decide +kernel
theorem dX2_allStruck_26 : decode cX2_allStruck 26 = .ok (.if_icmp .lt 14, 3) := by decide +kernel
theorem dX2_allStruck_29 : decode cX2_allStruck 29 = .ok (.lload 5, 2) := by decide +kernel
theorem dX2_allStruck_31 : decode cX2_allStruck 31 = .ok (.iload 7, 2) := by decide +kernel
theorem dX2_allStruck_33 : decode cX2_allStruck 33 = .ok (.iload 4, 2) := by decide +kernel
theorem dX2_allStruck_35 : decode cX2_allStruck 35 = .ok (.invokestatic 72, 3) := by decide +kernel
theorem dX2_allStruck_38 : decode cX2_allStruck 38 = .ok (.lstore 5, 2) := by decide +kernel
theorem dX2_allStruck_40 : decode cX2_allStruck 40 = .ok (.iinc 7 1, 3) := by decide +kernel
theorem dX2_allStruck_43 : decode cX2_allStruck 43 = .ok (.goto (-35), 3) := by decide +kernel
theorem dX2_allStruck_46 : decode cX2_allStruck 46 = .ok (.lload 5, 2) := by decide +kernel
theorem dX2_allStruck_48 : decode cX2_allStruck 48 = .ok (.lreturn, 1) := by decide +kernel
theorem dX2_struck_0 : decode cX2_struck 0 = .ok (.iload_n 2, 1) := by decide +kernel
theorem dX2_struck_1 : decode cX2_struck 1 = .ok (.ifCond .ge 5, 3) := by decide +kernel
theorem dX2_struck_4 : decode cX2_struck 4 = .ok (.lload_n 0, 1) := by decide +kernel
theorem dX2_struck_5 : decode cX2_struck 5 = .ok (.lreturn, 1) := by decide +kernel
theorem dX2_struck_6 : decode cX2_struck 6 = .ok (.bipush 6, 2) := by decide +kernel
theorem dX2_struck_8 : decode cX2_struck 8 = .ok (.iload_n 2, 1) := by decide +kernel
theorem dX2_struck_9 : decode cX2_struck 9 = .ok (.imul, 1) := by decide +kernel
theorem dX2_struck_10 : decode cX2_struck 10 = .ok (.istore 4, 2) := by decide +kernel
theorem dX2_struck_12 : decode cX2_struck 12 = .ok (.lload_n 0, 1) := by decide +kernel
theorem dX2_struck_13 : decode cX2_struck 13 = .ok (.iload 4, 2) := by decide +kernel
theorem dX2_struck_15 : decode cX2_struck 15 = .ok (.lushr, 1) := by decide +kernel
theorem dX2_struck_16 : decode cX2_struck 16 = .ok (.ldc2_w 82, 3) := by decide +kernel
theorem dX2_struck_19 : decode cX2_struck 19 = .ok (.land, 1) := by decide +kernel
theorem dX2_struck_20 : decode cX2_struck 20 = .ok (.l2i, 1) := by decide +kernel
theorem dX2_struck_21 : decode cX2_struck 21 = .ok (.iload_n 3, 1) := by decide +kernel
theorem dX2_struck_22 : decode cX2_struck 22 = .ok (.if_icmp .gt 7, 3) := by decide +kernel
theorem dX2_struck_25 : decode cX2_struck 25 = .ok (.iconst 1, 1) := by decide +kernel
theorem dX2_struck_26 : decode cX2_struck 26 = .ok (.goto 4, 3) := by decide +kernel
theorem dX2_struck_29 : decode cX2_struck 29 = .ok (.iconst 0, 1) := by decide +kernel
theorem dX2_struck_30 : decode cX2_struck 30 = .ok (.istore 5, 2) := by decide +kernel
theorem dX2_struck_32 : decode cX2_struck 32 = .ok (.iload 5, 2) := by decide +kernel
theorem dX2_struck_34 : decode cX2_struck 34 = .ok (.ifCond .eq 18, 3) := by decide +kernel
theorem dX2_struck_37 : decode cX2_struck 37 = .ok (.lload_n 0, 1) := by decide +kernel
theorem dX2_struck_38 : decode cX2_struck 38 = .ok (.ldc2_w 84, 3) := by decide +kernel
theorem dX2_struck_41 : decode cX2_struck 41 = .ok (.iload 4, 2) := by decide +kernel
theorem dX2_struck_43 : decode cX2_struck 43 = .ok (.lshl, 1) := by decide +kernel
theorem dX2_struck_44 : decode cX2_struck 44 = .ok (.ldc2_w 66, 3) := by decide +kernel
theorem dX2_struck_47 : decode cX2_struck 47 = .ok (.lxor, 1) := by decide +kernel
theorem dX2_struck_48 : decode cX2_struck 48 = .ok (.land, 1) := by decide +kernel
theorem dX2_struck_49 : decode cX2_struck 49 = .ok (.goto 10, 3) := by decide +kernel
theorem dX2_struck_52 : decode cX2_struck 52 = .ok (.lload_n 0, 1) := by decide +kernel
theorem dX2_struck_53 : decode cX2_struck 53 = .ok (.iload_n 3, 1) := by decide +kernel
theorem dX2_struck_54 : decode cX2_struck 54 = .ok (.i2l, 1) := by decide +kernel
theorem dX2_struck_55 : decode cX2_struck 55 = .ok (.iload 4, 2) := by decide +kernel
theorem dX2_struck_57 : decode cX2_struck 57 = .ok (.lshl, 1) := by decide +kernel
theorem dX2_struck_58 : decode cX2_struck 58 = .ok (.lsub, 1) := by decide +kernel
theorem dX2_struck_59 : decode cX2_struck 59 = .ok (.lreturn, 1) := by decide +kernel
theorem dX2_healed_0 : decode cX2_healed 0 = .ok (.iload_n 3, 1) := by decide +kernel
theorem dX2_healed_1 : decode cX2_healed 1 = .ok (.ifCond .lt 9, 3) := by decide +kernel
theorem dX2_healed_4 : decode cX2_healed 4 = .ok (.iload_n 3, 1) := by decide +kernel
theorem dX2_healed_5 : decode cX2_healed 5 = .ok (.bipush 6, 2) := by decide +kernel
theorem dX2_healed_7 : decode cX2_healed 7 = .ok (.if_icmp .lt 5, 3) := by decide +kernel
theorem dX2_healed_10 : decode cX2_healed 10 = .ok (.lload_n 1, 1) := by decide +kernel
theorem dX2_healed_11 : decode cX2_healed 11 = .ok (.lreturn, 1) := by decide +kernel
theorem dX2_healed_12 : decode cX2_healed 12 = .ok (.aload_n 0, 1) := by decide +kernel
theorem dX2_healed_13 : decode cX2_healed 13 = .ok (.getfield 15, 3) := by decide +kernel
theorem dX2_healed_16 : decode cX2_healed 16 = .ok (.iload_n 3, 1) := by decide +kernel
theorem dX2_healed_17 : decode cX2_healed 17 = .ok (.iaload, 1) := by decide +kernel
theorem dX2_healed_18 : decode cX2_healed 18 = .ok (.lload_n 1, 1) := by decide +kernel
theorem dX2_healed_19 : decode cX2_healed 19 = .ok (.iload_n 3, 1) := by decide +kernel
theorem dX2_healed_20 : decode cX2_healed 20 = .ok (.invokestatic 56, 3) := by decide +kernel
theorem dX2_healed_23 : decode cX2_healed 23 = .ok (.invokestatic 60, 3) := by decide +kernel
theorem dX2_healed_26 : decode cX2_healed 26 = .ok (.isub, 1) := by decide +kernel
theorem dX2_healed_27 : decode cX2_healed 27 = .ok (.istore 5, 2) := by decide +kernel
theorem dX2_healed_29 : decode cX2_healed 29 = .ok (.lload_n 1, 1) := by decide +kernel
theorem dX2_healed_30 : decode cX2_healed 30 = .ok (.iload 4, 2) := by decide +kernel
theorem dX2_healed_32 : decode cX2_healed 32 = .ok (.iload 5, 2) := by decide +kernel
theorem dX2_healed_34 : decode cX2_healed 34 = .ok (.invokestatic 86, 3) := by decide +kernel
theorem dX2_healed_37 : decode cX2_healed 37 = .ok (.i2l, 1) := by decide +kernel
theorem dX2_healed_38 : decode cX2_healed 38 = .ok (.bipush 6, 2) := by decide +kernel
theorem dX2_healed_40 : decode cX2_healed 40 = .ok (.iload_n 3, 1) := by decide +kernel
theorem dX2_healed_41 : decode cX2_healed 41 = .ok (.imul, 1) := by decide +kernel
theorem dX2_healed_42 : decode cX2_healed 42 = .ok (.lshl, 1) := by decide +kernel
theorem dX2_healed_43 : decode cX2_healed 43 = .ok (.ladd, 1) := by decide +kernel
theorem dX2_healed_44 : decode cX2_healed 44 = .ok (.lreturn, 1) := by decide +kernel
theorem dX3_init_0 : decode cX3_init 0 = .ok (.aload_n 0, 1) := by decide +kernel
theorem dX3_init_1 : decode cX3_init 1 = .ok (.invokespecial 3, 3) := by decide +kernel
theorem dX3_init_4 : decode cX3_init 4 = .ok (.aload_n 0, 1) := by decide +kernel
theorem dX3_init_5 : decode cX3_init 5 = .ok (.sipush 400, 3) := by decide +kernel
theorem dX3_init_8 : decode cX3_init 8 = .ok (.newarray .long, 2) := by decide +kernel
theorem dX3_init_10 : decode cX3_init 10 = .ok (.putfield 9, 3) := by decide +kernel
theorem dX3_init_13 : decode cX3_init 13 = .ok (.aload_n 0, 1) := by decide +kernel
theorem dX3_init_14 : decode cX3_init 14 = .ok (.sipush 400, 3) := by decide +kernel
theorem dX3_init_17 : decode cX3_init 17 = .ok (.newarray .long, 2) := by decide +kernel
theorem dX3_init_19 : decode cX3_init 19 = .ok (.putfield 15, 3) := by decide +kernel
theorem dX3_init_22 : decode cX3_init 22 = .ok (.aload_n 0, 1) := by decide +kernel
theorem dX3_init_23 : decode cX3_init 23 = .ok (.iconst 0, 1) := by decide +kernel
theorem dX3_init_24 : decode cX3_init 24 = .ok (.putfield 18, 3) := by decide +kernel
theorem dX3_init_27 : decode cX3_init 27 = .ok (.aload_n 0, 1) := by decide +kernel
theorem dX3_init_28 : decode cX3_init 28 = .ok (.sipush 400, 3) := by decide +kernel
theorem dX3_init_31 : decode cX3_init 31 = .ok (.newarray .int, 2) := by decide +kernel
theorem dX3_init_33 : decode cX3_init 33 = .ok (.putfield 22, 3) := by decide +kernel
theorem dX3_init_36 : decode cX3_init 36 = .ok (.aload_n 0, 1) := by decide +kernel
theorem dX3_init_37 : decode cX3_init 37 = .ok (.sipush 1024, 3) := by decide +kernel
theorem dX3_init_40 : decode cX3_init 40 = .ok (.newarray .int, 2) := by decide +kernel
theorem dX3_init_42 : decode cX3_init 42 = .ok (.putfield 26, 3) := by decide +kernel
theorem dX3_init_45 : decode cX3_init 45 = .ok (.return_, 1) := by decide +kernel
theorem dX3_empty_0 : decode cX3_empty 0 = .ok (.iconst 0, 1) := by decide +kernel
theorem dX3_empty_1 : decode cX3_empty 1 = .ok (.istore_n 1, 1) := by decide +kernel
theorem dX3_empty_2 : decode cX3_empty 2 = .ok (.iload_n 1, 1) := by decide +kernel
theorem dX3_empty_3 : decode cX3_empty 3 = .ok (.aload_n 0, 1) := by decide +kernel
theorem dX3_empty_4 : decode cX3_empty 4 = .ok (.getfield 18, 3) := by decide +kernel
theorem dX3_empty_7 : decode cX3_empty 7 = .ok (.if_icmp .ge 21, 3) := by decide +kernel
theorem dX3_empty_10 : decode cX3_empty 10 = .ok (.aload_n 0, 1) := by decide +kernel
theorem dX3_empty_11 : decode cX3_empty 11 = .ok (.getfield 26, 3) := by decide +kernel
theorem dX3_empty_14 : decode cX3_empty 14 = .ok (.aload_n 0, 1) := by decide +kernel
theorem dX3_empty_15 : decode cX3_empty 15 = .ok (.getfield 22, 3) := by decide +kernel
theorem dX3_empty_18 : decode cX3_empty 18 = .ok (.iload_n 1, 1) := by decide +kernel
theorem dX3_empty_19 : decode cX3_empty 19 = .ok (.iaload, 1) := by decide +kernel
theorem dX3_empty_20 : decode cX3_empty 20 = .ok (.iconst 0, 1) := by decide +kernel
theorem dX3_empty_21 : decode cX3_empty 21 = .ok (.iastore, 1) := by decide +kernel
theorem dX3_empty_22 : decode cX3_empty 22 = .ok (.iinc 1 1, 3) := by decide +kernel
theorem dX3_empty_25 : decode cX3_empty 25 = .ok (.goto (-23), 3) := by decide +kernel
theorem dX3_empty_28 : decode cX3_empty 28 = .ok (.aload_n 0, 1) := by decide +kernel
theorem dX3_empty_29 : decode cX3_empty 29 = .ok (.iconst 0, 1) := by decide +kernel
theorem dX3_empty_30 : decode cX3_empty 30 = .ok (.putfield 18, 3) := by decide +kernel
theorem dX3_empty_33 : decode cX3_empty 33 = .ok (.return_, 1) := by decide +kernel
theorem dX3_join_0 : decode cX3_join 0 = .ok (.lload_n 1, 1) := by decide +kernel
theorem dX3_join_1 : decode cX3_join 1 = .ok (.ldc2_w 29, 3) := by decide +kernel
theorem dX3_join_4 : decode cX3_join 4 = .ok (.lmul, 1) := by decide +kernel
theorem dX3_join_5 : decode cX3_join 5 = .ok (.bipush 54, 2) := by decide +kernel
theorem dX3_join_7 : decode cX3_join 7 = .ok (.lushr, 1) := by decide +kernel
theorem dX3_join_8 : decode cX3_join 8 = .ok (.l2i, 1) := by decide +kernel
theorem dX3_join_9 : decode cX3_join 9 = .ok (.istore 5, 2) := by decide +kernel
theorem dX3_join_11 : decode cX3_join 11 = .ok (.iconst 0, 1) := by decide +kernel
theorem dX3_join_12 : decode cX3_join 12 = .ok (.istore 6, 2) := by decide +kernel
theorem dX3_join_14 : decode cX3_join 14 = .ok (.iload 6, 2) := by decide +kernel
theorem dX3_join_16 : decode cX3_join 16 = .ok (.sipush 1024, 3) := by decide +kernel
theorem dX3_join_19 : decode cX3_join 19 = .ok (.if_icmp .ge 74, 3) := by decide +kernel
theorem dX3_join_22 : decode cX3_join 22 = .ok (.aload_n 0, 1) := by decide +kernel
theorem dX3_join_23 : decode cX3_join 23 = .ok (.getfield 26, 3) := by decide +kernel
theorem dX3_join_26 : decode cX3_join 26 = .ok (.iload 5, 2) := by decide +kernel
theorem dX3_join_28 : decode cX3_join 28 = .ok (.iaload, 1) := by decide +kernel
theorem dX3_join_29 : decode cX3_join 29 = .ok (.iconst 1, 1) := by decide +kernel
theorem dX3_join_30 : decode cX3_join 30 = .ok (.isub, 1) := by decide +kernel
theorem dX3_join_31 : decode cX3_join 31 = .ok (.istore 7, 2) := by decide +kernel
theorem dX3_join_33 : decode cX3_join 33 = .ok (.iload 7, 2) := by decide +kernel
theorem dX3_join_35 : decode cX3_join 35 = .ok (.ifCond .lt 28, 3) := by decide +kernel
theorem dX3_join_38 : decode cX3_join 38 = .ok (.aload_n 0, 1) := by decide +kernel
theorem dX3_join_39 : decode cX3_join 39 = .ok (.getfield 9, 3) := by decide +kernel
theorem dX3_join_42 : decode cX3_join 42 = .ok (.iload 7, 2) := by decide +kernel
theorem dX3_join_44 : decode cX3_join 44 = .ok (.laload, 1) := by decide +kernel
theorem dX3_join_45 : decode cX3_join 45 = .ok (.lload_n 1, 1) := by decide +kernel
theorem dX3_join_46 : decode cX3_join 46 = .ok (.lcmp, 1) := by decide +kernel
theorem dX3_join_47 : decode cX3_join 47 = .ok (.ifCond .ne 16, 3) := by decide +kernel
theorem dX3_join_50 : decode cX3_join 50 = .ok (.aload_n 0, 1) := by decide +kernel
theorem dX3_join_51 : decode cX3_join 51 = .ok (.getfield 15, 3) := by decide +kernel
theorem dX3_join_54 : decode cX3_join 54 = .ok (.iload 7, 2) := by decide +kernel
theorem dX3_join_56 : decode cX3_join 56 = .ok (.dup2, 1) := by decide +kernel
theorem dX3_join_57 : decode cX3_join 57 = .ok (.laload, 1) := by decide +kernel
theorem dX3_join_58 : decode cX3_join 58 = .ok (.lload_n 3, 1) := by decide +kernel
theorem dX3_join_59 : decode cX3_join 59 = .ok (.ladd, 1) := by decide +kernel
theorem dX3_join_60 : decode cX3_join 60 = .ok (.lastore, 1) := by decide +kernel
theorem dX3_join_61 : decode cX3_join 61 = .ok (.iconst 1, 1) := by decide +kernel
theorem dX3_join_62 : decode cX3_join 62 = .ok (.ireturn, 1) := by decide +kernel
theorem dX3_join_63 : decode cX3_join 63 = .ok (.iload 7, 2) := by decide +kernel
theorem dX3_join_65 : decode cX3_join 65 = .ok (.ifCond .ge 12, 3) := by decide +kernel
theorem dX3_join_68 : decode cX3_join 68 = .ok (.aload_n 0, 1) := by decide +kernel
theorem dX3_join_69 : decode cX3_join 69 = .ok (.iload 5, 2) := by decide +kernel
theorem dX3_join_71 : decode cX3_join 71 = .ok (.lload_n 1, 1) := by decide +kernel
theorem dX3_join_72 : decode cX3_join 72 = .ok (.lload_n 3, 1) := by decide +kernel
theorem dX3_join_73 : decode cX3_join 73 = .ok (.invokevirtual 31, 3) := by decide +kernel
theorem dX3_join_76 : decode cX3_join 76 = .ok (.ireturn, 1) := by decide +kernel
theorem dX3_join_77 : decode cX3_join 77 = .ok (.iload 5, 2) := by decide +kernel
theorem dX3_join_79 : decode cX3_join 79 = .ok (.iconst 1, 1) := by decide +kernel
theorem dX3_join_80 : decode cX3_join 80 = .ok (.iadd, 1) := by decide +kernel
theorem dX3_join_81 : decode cX3_join 81 = .ok (.sipush 1024, 3) := by decide +kernel
theorem dX3_join_84 : decode cX3_join 84 = .ok (.irem, 1) := by decide +kernel
theorem dX3_join_85 : decode cX3_join 85 = .ok (.istore 5, 2) := by decide +kernel
theorem dX3_join_87 : decode cX3_join 87 = .ok (.iinc 6 1, 3) := by decide +kernel
theorem dX3_join_90 : decode cX3_join 90 = .ok (.goto (-76), 3) := by decide +kernel
theorem dX3_join_93 : decode cX3_join 93 = .ok (.iconst 0, 1) := by decide +kernel
theorem dX3_join_94 : decode cX3_join 94 = .ok (.ireturn, 1) := by decide +kernel
theorem dX3_joinNew_0 : decode cX3_joinNew 0 = .ok (.aload_n 0, 1) := by decide +kernel
theorem dX3_joinNew_1 : decode cX3_joinNew 1 = .ok (.getfield 18, 3) := by decide +kernel
theorem dX3_joinNew_4 : decode cX3_joinNew 4 = .ok (.sipush 400, 3) := by decide +kernel
theorem dX3_joinNew_7 : decode cX3_joinNew 7 = .ok (.if_icmp .lt 5, 3) := by decide +kernel
theorem dX3_joinNew_10 : decode cX3_joinNew 10 = .ok (.iconst 0, 1) := by decide +kernel
theorem dX3_joinNew_11 : decode cX3_joinNew 11 = .ok (.ireturn, 1) := by decide +kernel
theorem dX3_joinNew_12 : decode cX3_joinNew 12 = .ok (.aload_n 0, 1) := by decide +kernel
theorem dX3_joinNew_13 : decode cX3_joinNew 13 = .ok (.getfield 9, 3) := by decide +kernel
theorem dX3_joinNew_16 : decode cX3_joinNew 16 = .ok (.aload_n 0, 1) := by decide +kernel
theorem dX3_joinNew_17 : decode cX3_joinNew 17 = .ok (.getfield 18, 3) := by decide +kernel
theorem dX3_joinNew_20 : decode cX3_joinNew 20 = .ok (.lload_n 2, 1) := by decide +kernel
theorem dX3_joinNew_21 : decode cX3_joinNew 21 = .ok (.lastore, 1) := by decide +kernel
theorem dX3_joinNew_22 : decode cX3_joinNew 22 = .ok (.aload_n 0, 1) := by decide +kernel
theorem dX3_joinNew_23 : decode cX3_joinNew 23 = .ok (.getfield 15, 3) := by decide +kernel
theorem dX3_joinNew_26 : decode cX3_joinNew 26 = .ok (.aload_n 0, 1) := by decide +kernel
theorem dX3_joinNew_27 : decode cX3_joinNew 27 = .ok (.getfield 18, 3) := by decide +kernel
theorem dX3_joinNew_30 : decode cX3_joinNew 30 = .ok (.lload 4, 2) := by decide +kernel
theorem dX3_joinNew_32 : decode cX3_joinNew 32 = .ok (.lastore, 1) := by decide +kernel
theorem dX3_joinNew_33 : decode cX3_joinNew 33 = .ok (.aload_n 0, 1) := by decide +kernel
theorem dX3_joinNew_34 : decode cX3_joinNew 34 = .ok (.getfield 22, 3) := by decide +kernel
theorem dX3_joinNew_37 : decode cX3_joinNew 37 = .ok (.aload_n 0, 1) := by decide +kernel
theorem dX3_joinNew_38 : decode cX3_joinNew 38 = .ok (.getfield 18, 3) := by decide +kernel
theorem dX3_joinNew_41 : decode cX3_joinNew 41 = .ok (.iload_n 1, 1) := by decide +kernel
theorem dX3_joinNew_42 : decode cX3_joinNew 42 = .ok (.iastore, 1) := by decide +kernel
theorem dX3_joinNew_43 : decode cX3_joinNew 43 = .ok (.aload_n 0, 1) := by decide +kernel
theorem dX3_joinNew_44 : decode cX3_joinNew 44 = .ok (.dup, 1) := by decide +kernel
theorem dX3_joinNew_45 : decode cX3_joinNew 45 = .ok (.getfield 18, 3) := by decide +kernel
theorem dX3_joinNew_48 : decode cX3_joinNew 48 = .ok (.iconst 1, 1) := by decide +kernel
theorem dX3_joinNew_49 : decode cX3_joinNew 49 = .ok (.iadd, 1) := by decide +kernel
theorem dX3_joinNew_50 : decode cX3_joinNew 50 = .ok (.putfield 18, 3) := by decide +kernel
theorem dX3_joinNew_53 : decode cX3_joinNew 53 = .ok (.aload_n 0, 1) := by decide +kernel
theorem dX3_joinNew_54 : decode cX3_joinNew 54 = .ok (.getfield 26, 3) := by decide +kernel
theorem dX3_joinNew_57 : decode cX3_joinNew 57 = .ok (.iload_n 1, 1) := by decide +kernel
theorem dX3_joinNew_58 : decode cX3_joinNew 58 = .ok (.aload_n 0, 1) := by decide +kernel
theorem dX3_joinNew_59 : decode cX3_joinNew 59 = .ok (.getfield 18, 3) := by decide +kernel
theorem dX3_joinNew_62 : decode cX3_joinNew 62 = .ok (.iastore, 1) := by decide +kernel
theorem dX3_joinNew_63 : decode cX3_joinNew 63 = .ok (.iconst 1, 1) := by decide +kernel
theorem dX3_joinNew_64 : decode cX3_joinNew 64 = .ok (.ireturn, 1) := by decide +kernel
theorem dX4_init_0 : decode cX4_init 0 = .ok (.aload_n 0, 1) := by decide +kernel
theorem dX4_init_1 : decode cX4_init 1 = .ok (.invokespecial 3, 3) := by decide +kernel
theorem dX4_init_4 : decode cX4_init 4 = .ok (.aload_n 0, 1) := by decide +kernel
theorem dX4_init_5 : decode cX4_init 5 = .ok (.lconst 1, 1) := by decide +kernel
theorem dX4_init_6 : decode cX4_init 6 = .ok (.putfield 9, 3) := by decide +kernel
theorem dX4_init_9 : decode cX4_init 9 = .ok (.aload_n 0, 1) := by decide +kernel
theorem dX4_init_10 : decode cX4_init 10 = .ok (.iconst 0, 1) := by decide +kernel
theorem dX4_init_11 : decode cX4_init 11 = .ok (.putfield 15, 3) := by decide +kernel
theorem dX4_init_14 : decode cX4_init 14 = .ok (.aload_n 0, 1) := by decide +kernel
theorem dX4_init_15 : decode cX4_init 15 = .ok (.iconst 3, 1) := by decide +kernel
theorem dX4_init_16 : decode cX4_init 16 = .ok (.newarray .long, 2) := by decide +kernel
theorem dX4_init_18 : decode cX4_init 18 = .ok (.putfield 19, 3) := by decide +kernel
theorem dX4_init_21 : decode cX4_init 21 = .ok (.aload_n 0, 1) := by decide +kernel
theorem dX4_init_22 : decode cX4_init 22 = .ok (.bipush 7, 2) := by decide +kernel
theorem dX4_init_24 : decode cX4_init 24 = .ok (.newarray .long, 2) := by decide +kernel
theorem dX4_init_26 : decode cX4_init 26 = .ok (.putfield 23, 3) := by decide +kernel
theorem dX4_init_29 : decode cX4_init 29 = .ok (.aload_n 0, 1) := by decide +kernel
theorem dX4_init_30 : decode cX4_init 30 = .ok (.sipush 384, 3) := by decide +kernel
theorem dX4_init_33 : decode cX4_init 33 = .ok (.newarray .long, 2) := by decide +kernel
theorem dX4_init_35 : decode cX4_init 35 = .ok (.putfield 26, 3) := by decide +kernel
theorem dX4_init_38 : decode cX4_init 38 = .ok (.aload_n 0, 1) := by decide +kernel
theorem dX4_init_39 : decode cX4_init 39 = .ok (.new 29, 3) := by decide +kernel
theorem dX4_init_42 : decode cX4_init 42 = .ok (.dup, 1) := by decide +kernel
theorem dX4_init_43 : decode cX4_init 43 = .ok (.invokespecial 31, 3) := by decide +kernel
theorem dX4_init_46 : decode cX4_init 46 = .ok (.putfield 32, 3) := by decide +kernel
theorem dX4_init_49 : decode cX4_init 49 = .ok (.aload_n 0, 1) := by decide +kernel
theorem dX4_init_50 : decode cX4_init 50 = .ok (.new 29, 3) := by decide +kernel
theorem dX4_init_53 : decode cX4_init 53 = .ok (.dup, 1) := by decide +kernel
theorem dX4_init_54 : decode cX4_init 54 = .ok (.invokespecial 31, 3) := by decide +kernel
theorem dX4_init_57 : decode cX4_init 57 = .ok (.putfield 36, 3) := by decide +kernel
theorem dX4_init_60 : decode cX4_init 60 = .ok (.aload_n 0, 1) := by decide +kernel
theorem dX4_init_61 : decode cX4_init 61 = .ok (.lconst 1, 1) := by decide +kernel
theorem dX4_init_62 : decode cX4_init 62 = .ok (.putfield 39, 3) := by decide +kernel
theorem dX4_init_65 : decode cX4_init 65 = .ok (.return_, 1) := by decide +kernel
theorem dX4_reckon_0 : decode cX4_reckon 0 = .ok (.aload_n 1, 1) := by decide +kernel
theorem dX4_reckon_1 : decode cX4_reckon 1 = .ok (.getfield 42, 3) := by decide +kernel
theorem dX4_reckon_4 : decode cX4_reckon 4 = .ok (.aload_n 1, 1) := by decide +kernel
theorem dX4_reckon_5 : decode cX4_reckon 5 = .ok (.getfield 47, 3) := by decide +kernel
theorem dX4_reckon_8 : decode cX4_reckon 8 = .ok (.imul, 1) := by decide +kernel
theorem dX4_reckon_9 : decode cX4_reckon 9 = .ok (.istore_n 2, 1) := by decide +kernel
theorem dX4_reckon_10 : decode cX4_reckon 10 = .ok (.iload_n 2, 1) := by decide +kernel
theorem dX4_reckon_11 : decode cX4_reckon 11 = .ok (.bipush 22, 2) := by decide +kernel
theorem dX4_reckon_13 : decode cX4_reckon 13 = .ok (.if_icmp .le 5, 3) := by decide +kernel
theorem dX4_reckon_16 : decode cX4_reckon 16 = .ok (.iconst 0, 1) := by decide +kernel
theorem dX4_reckon_17 : decode cX4_reckon 17 = .ok (.ireturn, 1) := by decide +kernel
theorem dX4_reckon_18 : decode cX4_reckon 18 = .ok (.aload_n 0, 1) := by decide +kernel
theorem dX4_reckon_19 : decode cX4_reckon 19 = .ok (.invokevirtual 50, 3) := by decide +kernel
theorem dX4_reckon_22 : decode cX4_reckon 22 = .ok (.aload_n 0, 1) := by decide +kernel
theorem dX4_reckon_23 : decode cX4_reckon 23 = .ok (.iload_n 2, 1) := by decide +kernel
theorem dX4_reckon_24 : decode cX4_reckon 24 = .ok (.invokestatic 53, 3) := by decide +kernel
theorem dX4_reckon_27 : decode cX4_reckon 27 = .ok (.putfield 9, 3) := by decide +kernel
theorem dX4_reckon_30 : decode cX4_reckon 30 = .ok (.aload_n 0, 1) := by decide +kernel
theorem dX4_reckon_31 : decode cX4_reckon 31 = .ok (.aload_n 0, 1) := by decide +kernel
theorem dX4_reckon_32 : decode cX4_reckon 32 = .ok (.getfield 9, 3) := by decide +kernel
theorem dX4_reckon_35 : decode cX4_reckon 35 = .ok (.putfield 39, 3) := by decide +kernel
theorem dX4_reckon_38 : decode cX4_reckon 38 = .ok (.aload_n 1, 1) := by decide +kernel
theorem dX4_reckon_39 : decode cX4_reckon 39 = .ok (.invokevirtual 57, 3) := by decide +kernel
theorem dX4_reckon_42 : decode cX4_reckon 42 = .ok (.lstore_n 3, 1) := by decide +kernel
theorem dX4_reckon_43 : decode cX4_reckon 43 = .ok (.lload_n 3, 1) := by decide +kernel
theorem dX4_reckon_44 : decode cX4_reckon 44 = .ok (.invokestatic 61, 3) := by decide +kernel
theorem dX4_reckon_47 : decode cX4_reckon 47 = .ok (.istore 5, 2) := by decide +kernel
theorem dX4_reckon_49 : decode cX4_reckon 49 = .ok (.iload 5, 2) := by decide +kernel
theorem dX4_reckon_51 : decode cX4_reckon 51 = .ok (.iconst (-1), 1) := by decide +kernel
theorem dX4_reckon_52 : decode cX4_reckon 52 = .ok (.if_icmp .eq 23, 3) := by decide +kernel
theorem dX4_reckon_55 : decode cX4_reckon 55 = .ok (.aload_n 0, 1) := by decide +kernel
theorem dX4_reckon_56 : decode cX4_reckon 56 = .ok (.lconst 1, 1) := by decide +kernel
theorem dX4_reckon_57 : decode cX4_reckon 57 = .ok (.putfield 39, 3) := by decide +kernel
theorem dX4_reckon_60 : decode cX4_reckon 60 = .ok (.aload_n 0, 1) := by decide +kernel
theorem dX4_reckon_61 : decode cX4_reckon 61 = .ok (.aload_n 1, 1) := by decide +kernel
theorem dX4_reckon_62 : decode cX4_reckon 62 = .ok (.lload_n 3, 1) := by decide +kernel
theorem dX4_reckon_63 : decode cX4_reckon 63 = .ok (.aload_n 0, 1) := by decide +kernel
theorem dX4_reckon_64 : decode cX4_reckon 64 = .ok (.getfield 9, 3) := by decide +kernel
theorem dX4_reckon_67 : decode cX4_reckon 67 = .ok (.iload 5, 2) := by decide +kernel
theorem dX4_reckon_69 : decode cX4_reckon 69 = .ok (.iconst 0, 1) := by decide +kernel
theorem dX4_reckon_70 : decode cX4_reckon 70 = .ok (.invokevirtual 65, 3) := by decide +kernel
theorem dX4_reckon_73 : decode cX4_reckon 73 = .ok (.iconst 1, 1) := by decide +kernel
theorem dX4_reckon_74 : decode cX4_reckon 74 = .ok (.ireturn, 1) := by decide +kernel
theorem dX4_reckon_75 : decode cX4_reckon 75 = .ok (.aload_n 0, 1) := by decide +kernel
theorem dX4_reckon_76 : decode cX4_reckon 76 = .ok (.getfield 32, 3) := by decide +kernel
theorem dX4_reckon_79 : decode cX4_reckon 79 = .ok (.lload_n 3, 1) := by decide +kernel
theorem dX4_reckon_80 : decode cX4_reckon 80 = .ok (.lconst 1, 1) := by decide +kernel
theorem dX4_reckon_81 : decode cX4_reckon 81 = .ok (.invokevirtual 69, 3) := by decide +kernel
theorem dX4_reckon_84 : decode cX4_reckon 84 = .ok (.pop, 1) := by decide +kernel
theorem dX4_reckon_85 : decode cX4_reckon 85 = .ok (.iconst 1, 1) := by decide +kernel
theorem dX4_reckon_86 : decode cX4_reckon 86 = .ok (.istore 6, 2) := by decide +kernel
theorem dX4_reckon_88 : decode cX4_reckon 88 = .ok (.iload 6, 2) := by decide +kernel
theorem dX4_reckon_90 : decode cX4_reckon 90 = .ok (.aload_n 1, 1) := by decide +kernel
theorem dX4_reckon_91 : decode cX4_reckon 91 = .ok (.getfield 42, 3) := by decide +kernel
theorem dX4_reckon_94 : decode cX4_reckon 94 = .ok (.if_icmp .gt 105, 3) := by decide +kernel
theorem dX4_reckon_97 : decode cX4_reckon 97 = .ok (.iconst 0, 1) := by decide +kernel
theorem dX4_reckon_98 : decode cX4_reckon 98 = .ok (.istore 7, 2) := by decide +kernel
theorem dX4_reckon_100 : decode cX4_reckon 100 = .ok (.iload 7, 2) := by decide +kernel
theorem dX4_reckon_102 : decode cX4_reckon 102 = .ok (.aload_n 1, 1) := by decide +kernel
theorem dX4_reckon_103 : decode cX4_reckon 103 = .ok (.getfield 47, 3) := by decide +kernel
theorem dX4_reckon_106 : decode cX4_reckon 106 = .ok (.if_icmp .ge 87, 3) := by decide +kernel
theorem dX4_reckon_109 : decode cX4_reckon 109 = .ok (.aload_n 0, 1) := by decide +kernel
