theorem dX0_init_0 : decode cX0_init 0 = .ok (.aload_n 0, 1) := by decide +kernel
theorem dX0_init_1 : decode cX0_init 1 = .ok (.invokespecial 3, 3) := by decide +kernel
theorem dX0_init_4 : decode cX0_init 4 = .ok (.aload_n 0, 1) := by decide +kernel
theorem dX0_init_5 : decode cX0_init 5 = .ok (.iconst 0, 1) := by decide +kernel
theorem dX0_init_6 : decode cX0_init 6 = .ok (.putfield 9, 3) := by decide +kernel
theorem dX0_init_9 : decode cX0_init 9 = .ok (.aload_n 0, 1) := by decide +kernel
theorem dX0_init_10 : decode cX0_init 10 = .ok (.iconst 0, 1) := by decide +kernel
theorem dX0_init_11 : decode cX0_init 11 = .ok (.putfield 15, 3) := by decide +kernel
theorem dX0_init_14 : decode cX0_init 14 = .ok (.aload_n 0, 1) := by decide +kernel
theorem dX0_init_15 : decode cX0_init 15 = .ok (.iconst 0, 1) := by decide +kernel
theorem dX0_init_16 : decode cX0_init 16 = .ok (.putfield 18, 3) := by decide +kernel
theorem dX0_init_19 : decode cX0_init 19 = .ok (.aload_n 0, 1) := by decide +kernel
theorem dX0_init_20 : decode cX0_init 20 = .ok (.bipush 6, 2) := by decide +kernel
theorem dX0_init_22 : decode cX0_init 22 = .ok (.newarray .int, 2) := by decide +kernel
theorem dX0_init_24 : decode cX0_init 24 = .ok (.dup, 1) := by decide +kernel
theorem dX0_init_25 : decode cX0_init 25 = .ok (.iconst 0, 1) := by decide +kernel
theorem dX0_init_26 : decode cX0_init 26 = .ok (.bipush (-2), 2) := by decide +kernel
theorem dX0_init_28 : decode cX0_init 28 = .ok (.iastore, 1) := by decide +kernel
theorem dX0_init_29 : decode cX0_init 29 = .ok (.dup, 1) := by decide +kernel
theorem dX0_init_30 : decode cX0_init 30 = .ok (.iconst 1, 1) := by decide +kernel
theorem dX0_init_31 : decode cX0_init 31 = .ok (.bipush (-2), 2) := by decide +kernel
theorem dX0_init_33 : decode cX0_init 33 = .ok (.iastore, 1) := by decide +kernel
theorem dX0_init_34 : decode cX0_init 34 = .ok (.dup, 1) := by decide +kernel
theorem dX0_init_35 : decode cX0_init 35 = .ok (.iconst 2, 1) := by decide +kernel
theorem dX0_init_36 : decode cX0_init 36 = .ok (.bipush (-2), 2) := by decide +kernel
theorem dX0_init_38 : decode cX0_init 38 = .ok (.iastore, 1) := by decide +kernel
theorem dX0_init_39 : decode cX0_init 39 = .ok (.dup, 1) := by decide +kernel
theorem dX0_init_40 : decode cX0_init 40 = .ok (.iconst 3, 1) := by decide +kernel
theorem dX0_init_41 : decode cX0_init 41 = .ok (.bipush (-2), 2) := by decide +kernel
theorem dX0_init_43 : decode cX0_init 43 = .ok (.iastore, 1) := by decide +kernel
theorem dX0_init_44 : decode cX0_init 44 = .ok (.dup, 1) := by decide +kernel
theorem dX0_init_45 : decode cX0_init 45 = .ok (.iconst 4, 1) := by decide +kernel
theorem dX0_init_46 : decode cX0_init 46 = .ok (.bipush (-2), 2) := by decide +kernel
theorem dX0_init_48 : decode cX0_init 48 = .ok (.iastore, 1) := by decide +kernel
theorem dX0_init_49 : decode cX0_init 49 = .ok (.dup, 1) := by decide +kernel
theorem dX0_init_50 : decode cX0_init 50 = .ok (.iconst 5, 1) := by decide +kernel
theorem dX0_init_51 : decode cX0_init 51 = .ok (.bipush (-2), 2) := by decide +kernel
theorem dX0_init_53 : decode cX0_init 53 = .ok (.iastore, 1) := by decide +kernel
theorem dX0_init_54 : decode cX0_init 54 = .ok (.putfield 21, 3) := by decide +kernel
theorem dX0_init_57 : decode cX0_init 57 = .ok (.return_, 1) := by decide +kernel
theorem dX0_run_0 : decode cX0_run 0 = .ok (.aload_n 1, 1) := by decide +kernel
theorem dX0_run_1 : decode cX0_run 1 = .ok (.invokevirtual 25, 3) := by decide +kernel
theorem dX0_run_4 : decode cX0_run 4 = .ok (.lstore_n 3, 1) := by decide +kernel
theorem dX0_run_5 : decode cX0_run 5 = .ok (.lload_n 3, 1) := by decide +kernel
theorem dX0_run_6 : decode cX0_run 6 = .ok (.invokestatic 31, 3) := by decide +kernel
theorem dX0_run_9 : decode cX0_run 9 = .ok (.istore 5, 2) := by decide +kernel
theorem dX0_run_11 : decode cX0_run 11 = .ok (.iconst 0, 1) := by decide +kernel
theorem dX0_run_12 : decode cX0_run 12 = .ok (.istore 6, 2) := by decide +kernel
theorem dX0_run_14 : decode cX0_run 14 = .ok (.iconst 0, 1) := by decide +kernel
theorem dX0_run_15 : decode cX0_run 15 = .ok (.istore 7, 2) := by decide +kernel
theorem dX0_run_17 : decode cX0_run 17 = .ok (.iload 5, 2) := by decide +kernel
theorem dX0_run_19 : decode cX0_run 19 = .ok (.iconst (-1), 1) := by decide +kernel
theorem dX0_run_20 : decode cX0_run 20 = .ok (.if_icmp .ne 156, 3) := by decide +kernel
theorem dX0_run_23 : decode cX0_run 23 = .ok (.iload 6, 2) := by decide +kernel
theorem dX0_run_25 : decode cX0_run 25 = .ok (.aload_n 1, 1) := by decide +kernel
theorem dX0_run_26 : decode cX0_run 26 = .ok (.getfield 35, 3) := by decide +kernel
theorem dX0_run_29 : decode cX0_run 29 = .ok (.if_icmp .ge 147, 3) := by decide +kernel
theorem dX0_run_32 : decode cX0_run 32 = .ok (.iinc 6 1, 3) := by decide +kernel
theorem dX0_run_35 : decode cX0_run 35 = .ok (.iconst 0, 1) := by decide +kernel
theorem dX0_run_36 : decode cX0_run 36 = .ok (.istore 8, 2) := by decide +kernel
theorem dX0_run_38 : decode cX0_run 38 = .ok (.iload 8, 2) := by decide +kernel
theorem dX0_run_40 : decode cX0_run 40 = .ok (.aload_n 1, 1) := by decide +kernel
theorem dX0_run_41 : decode cX0_run 41 = .ok (.getfield 38, 3) := by decide +kernel
theorem dX0_run_44 : decode cX0_run 44 = .ok (.if_icmp .ge 129, 3) := by decide +kernel
theorem dX0_run_47 : decode cX0_run 47 = .ok (.iload 5, 2) := by decide +kernel
theorem dX0_run_49 : decode cX0_run 49 = .ok (.iconst (-1), 1) := by decide +kernel
theorem dX0_run_50 : decode cX0_run 50 = .ok (.if_icmp .ne 123, 3) := by decide +kernel
theorem dX0_run_53 : decode cX0_run 53 = .ok (.aload_n 1, 1) := by decide +kernel
theorem dX0_run_54 : decode cX0_run 54 = .ok (.getfield 41, 3) := by decide +kernel
theorem dX0_run_57 : decode cX0_run 57 = .ok (.iload 8, 2) := by decide +kernel
theorem dX0_run_59 : decode cX0_run 59 = .ok (.iaload, 1) := by decide +kernel
theorem dX0_run_60 : decode cX0_run 60 = .ok (.istore 9, 2) := by decide +kernel
theorem dX0_run_62 : decode cX0_run 62 = .ok (.aload_n 1, 1) := by decide +kernel
theorem dX0_run_63 : decode cX0_run 63 = .ok (.lload_n 3, 1) := by decide +kernel
theorem dX0_run_64 : decode cX0_run 64 = .ok (.iload 9, 2) := by decide +kernel
theorem dX0_run_66 : decode cX0_run 66 = .ok (.iload 6, 2) := by decide +kernel
theorem dX0_run_68 : decode cX0_run 68 = .ok (.invokevirtual 44, 3) := by decide +kernel
theorem dX0_run_71 : decode cX0_run 71 = .ok (.ifCond .ne 6, 3) := by decide +kernel
theorem dX0_run_74 : decode cX0_run 74 = .ok (.goto 93, 3) := by decide +kernel
theorem dX0_run_77 : decode cX0_run 77 = .ok (.aload_n 1, 1) := by decide +kernel
theorem dX0_run_78 : decode cX0_run 78 = .ok (.lload_n 3, 1) := by decide +kernel
theorem dX0_run_79 : decode cX0_run 79 = .ok (.iload 9, 2) := by decide +kernel
theorem dX0_run_81 : decode cX0_run 81 = .ok (.invokevirtual 48, 3) := by decide +kernel
theorem dX0_run_84 : decode cX0_run 84 = .ok (.ifCond .eq 14, 3) := by decide +kernel
theorem dX0_run_87 : decode cX0_run 87 = .ok (.aload_n 1, 1) := by decide +kernel
theorem dX0_run_88 : decode cX0_run 88 = .ok (.lload_n 3, 1) := by decide +kernel
theorem dX0_run_89 : decode cX0_run 89 = .ok (.iload 9, 2) := by decide +kernel
theorem dX0_run_91 : decode cX0_run 91 = .ok (.invokevirtual 52, 3) := by decide +kernel
theorem dX0_run_94 : decode cX0_run 94 = .ok (.lstore_n 3, 1) := by decide +kernel
theorem dX0_run_95 : decode cX0_run 95 = .ok (.goto 66, 3) := by decide +kernel
theorem dX0_run_98 : decode cX0_run 98 = .ok (.aload_n 2, 1) := by decide +kernel
theorem dX0_run_99 : decode cX0_run 99 = .ok (.iload 7, 2) := by decide +kernel
theorem dX0_run_101 : decode cX0_run 101 = .ok (.invokevirtual 56, 3) := by decide +kernel
theorem dX0_run_104 : decode cX0_run 104 = .ok (.ifCond .ne 5, 3) := by decide +kernel
theorem dX0_run_107 : decode cX0_run 107 = .ok (.iconst 0, 1) := by decide +kernel
theorem dX0_run_108 : decode cX0_run 108 = .ok (.ireturn, 1) := by decide +kernel
theorem dX0_run_109 : decode cX0_run 109 = .ok (.aload_n 2, 1) := by decide +kernel
theorem dX0_run_110 : decode cX0_run 110 = .ok (.iload 7, 2) := by decide +kernel
theorem dX0_run_112 : decode cX0_run 112 = .ok (.invokevirtual 62, 3) := by decide +kernel
theorem dX0_run_115 : decode cX0_run 115 = .ok (.istore 10, 2) := by decide +kernel
theorem dX0_run_117 : decode cX0_run 117 = .ok (.iinc 7 1, 3) := by decide +kernel
theorem dX0_run_120 : decode cX0_run 120 = .ok (.iload 10, 2) := by decide +kernel
theorem dX0_run_122 : decode cX0_run 122 = .ok (.iconst 1, 1) := by decide +kernel
theorem dX0_run_123 : decode cX0_run 123 = .ok (.if_icmp .lt 18, 3) := by decide +kernel
theorem dX0_run_126 : decode cX0_run 126 = .ok (.iload 10, 2) := by decide +kernel
theorem dX0_run_128 : decode cX0_run 128 = .ok (.aload_n 1, 1) := by decide +kernel
theorem dX0_run_129 : decode cX0_run 129 = .ok (.iload 9, 2) := by decide +kernel
theorem dX0_run_131 : decode cX0_run 131 = .ok (.invokevirtual 66, 3) := by decide +kernel
theorem dX0_run_134 : decode cX0_run 134 = .ok (.if_icmp .gt 7, 3) := by decide +kernel
theorem dX0_run_137 : decode cX0_run 137 = .ok (.iconst 1, 1) := by decide +kernel
theorem dX0_run_138 : decode cX0_run 138 = .ok (.goto 4, 3) := by decide +kernel
theorem dX0_run_141 : decode cX0_run 141 = .ok (.iconst 0, 1) := by decide +kernel
theorem dX0_run_142 : decode cX0_run 142 = .ok (.istore 11, 2) := by decide +kernel
theorem dX0_run_144 : decode cX0_run 144 = .ok (.iload 11, 2) := by decide +kernel
theorem dX0_run_146 : decode cX0_run 146 = .ok (.ifCond .eq 13, 3) := by decide +kernel
theorem dX0_run_149 : decode cX0_run 149 = .ok (.aload_n 1, 1) := by decide +kernel
theorem dX0_run_150 : decode cX0_run 150 = .ok (.lload_n 3, 1) := by decide +kernel
theorem dX0_run_151 : decode cX0_run 151 = .ok (.iload 9, 2) := by decide +kernel
theorem dX0_run_153 : decode cX0_run 153 = .ok (.invokevirtual 69, 3) := by decide +kernel
theorem dX0_run_156 : decode cX0_run 156 = .ok (.goto 4, 3) := by decide +kernel
theorem dX0_run_159 : decode cX0_run 159 = .ok (.lload_n 3, 1) := by decide +kernel
theorem dX0_run_160 : decode cX0_run 160 = .ok (.lstore_n 3, 1) := by decide +kernel
theorem dX0_run_161 : decode cX0_run 161 = .ok (.lload_n 3, 1) := by decide +kernel
theorem dX0_run_162 : decode cX0_run 162 = .ok (.invokestatic 31, 3) := by decide +kernel
theorem dX0_run_165 : decode cX0_run 165 = .ok (.istore 5, 2) := by decide +kernel
theorem dX0_run_167 : decode cX0_run 167 = .ok (.iinc 8 1, 3) := by decide +kernel
theorem dX0_run_170 : decode cX0_run 170 = .ok (.goto (-132), 3) := by decide +kernel
theorem dX0_run_173 : decode cX0_run 173 = .ok (.goto (-156), 3) := by decide +kernel
theorem dX0_run_176 : decode cX0_run 176 = .ok (.aload_n 0, 1) := by decide +kernel
theorem dX0_run_177 : decode cX0_run 177 = .ok (.iload 5, 2) := by decide +kernel
theorem dX0_run_179 : decode cX0_run 179 = .ok (.iconst (-1), 1) := by decide +kernel
theorem dX0_run_180 : decode cX0_run 180 = .ok (.if_icmp .ne 7, 3) := by decide +kernel
theorem dX0_run_183 : decode cX0_run 183 = .ok (.iconst 2, 1) := by decide +kernel
theorem dX0_run_184 : decode cX0_run 184 = .ok (.goto 5, 3) := by decide +kernel
theorem dX0_run_187 : decode cX0_run 187 = .ok (.iload 5, 2) := by decide +kernel
theorem dX0_run_189 : decode cX0_run 189 = .ok (.putfield 9, 3) := by decide +kernel
theorem dX0_run_192 : decode cX0_run 192 = .ok (.aload_n 0, 1) := by decide +kernel
theorem dX0_run_193 : decode cX0_run 193 = .ok (.iload 7, 2) := by decide +kernel
theorem dX0_run_195 : decode cX0_run 195 = .ok (.putfield 15, 3) := by decide +kernel
theorem dX0_run_198 : decode cX0_run 198 = .ok (.aload_n 0, 1) := by decide +kernel
theorem dX0_run_199 : decode cX0_run 199 = .ok (.iload 6, 2) := by decide +kernel
theorem dX0_run_201 : decode cX0_run 201 = .ok (.putfield 18, 3) := by decide +kernel
theorem dX0_run_204 : decode cX0_run 204 = .ok (.aload_n 0, 1) := by decide +kernel
theorem dX0_run_205 : decode cX0_run 205 = .ok (.aload_n 1, 1) := by decide +kernel
theorem dX0_run_206 : decode cX0_run 206 = .ok (.lload_n 3, 1) := by decide +kernel
theorem dX0_run_207 : decode cX0_run 207 = .ok (.invokevirtual 72, 3) := by decide +kernel
theorem dX0_run_210 : decode cX0_run 210 = .ok (.iconst 1, 1) := by decide +kernel
theorem dX0_run_211 : decode cX0_run 211 = .ok (.ireturn, 1) := by decide +kernel
theorem dX0_keepLives_0 : decode cX0_keepLives 0 = .ok (.iconst 0, 1) := by decide +kernel
theorem dX0_keepLives_1 : decode cX0_keepLives 1 = .ok (.istore 4, 2) := by decide +kernel
theorem dX0_keepLives_3 : decode cX0_keepLives 3 = .ok (.iload 4, 2) := by decide +kernel
theorem dX0_keepLives_5 : decode cX0_keepLives 5 = .ok (.aload_n 0, 1) := by decide +kernel
theorem dX0_keepLives_6 : decode cX0_keepLives 6 = .ok (.getfield 21, 3) := by decide +kernel
theorem dX0_keepLives_9 : decode cX0_keepLives 9 = .ok (.arraylength, 1) := by decide +kernel
theorem dX0_keepLives_10 : decode cX0_keepLives 10 = .ok (.if_icmp .ge 18, 3) := by decide +kernel
theorem dX0_keepLives_13 : decode cX0_keepLives 13 = .ok (.aload_n 0, 1) := by decide +kernel
theorem dX0_keepLives_14 : decode cX0_keepLives 14 = .ok (.getfield 21, 3) := by decide +kernel
theorem dX0_keepLives_17 : decode cX0_keepLives 17 = .ok (.iload 4, 2) := by decide +kernel
theorem dX0_keepLives_19 : decode cX0_keepLives 19 = .ok (.bipush (-2), 2) := by decide +kernel
theorem dX0_keepLives_21 : decode cX0_keepLives 21 = .ok (.iastore, 1) := by decide +kernel
theorem dX0_keepLives_22 : decode cX0_keepLives 22 = .ok (.iinc 4 1, 3) := by decide +kernel
theorem dX0_keepLives_25 : decode cX0_keepLives 25 = .ok (.goto (-22), 3) := by decide +kernel
theorem dX0_keepLives_28 : decode cX0_keepLives 28 = .ok (.iconst 0, 1) := by decide +kernel
theorem dX0_keepLives_29 : decode cX0_keepLives 29 = .ok (.istore 4, 2) := by decide +kernel
theorem dX0_keepLives_31 : decode cX0_keepLives 31 = .ok (.iload 4, 2) := by decide +kernel
theorem dX0_keepLives_33 : decode cX0_keepLives 33 = .ok (.aload_n 1, 1) := by decide +kernel
theorem dX0_keepLives_34 : decode cX0_keepLives 34 = .ok (.getfield 38, 3) := by decide +kernel
theorem dX0_keepLives_37 : decode cX0_keepLives 37 = .ok (.if_icmp .ge 34, 3) := by decide +kernel
theorem dX0_keepLives_40 : decode cX0_keepLives 40 = .ok (.aload_n 1, 1) := by decide +kernel
theorem dX0_keepLives_41 : decode cX0_keepLives 41 = .ok (.getfield 41, 3) := by decide +kernel
theorem dX0_keepLives_44 : decode cX0_keepLives 44 = .ok (.iload 4, 2) := by decide +kernel
theorem dX0_keepLives_46 : decode cX0_keepLives 46 = .ok (.iaload, 1) := by decide +kernel
theorem dX0_keepLives_47 : decode cX0_keepLives 47 = .ok (.istore 5, 2) := by decide +kernel
theorem dX0_keepLives_49 : decode cX0_keepLives 49 = .ok (.aload_n 0, 1) := by decide +kernel
theorem dX0_keepLives_50 : decode cX0_keepLives 50 = .ok (.getfield 21, 3) := by decide +kernel
theorem dX0_keepLives_53 : decode cX0_keepLives 53 = .ok (.iload 5, 2) := by decide +kernel
theorem dX0_keepLives_55 : decode cX0_keepLives 55 = .ok (.lload_n 2, 1) := by decide +kernel
theorem dX0_keepLives_56 : decode cX0_keepLives 56 = .ok (.iload 5, 2) := by decide +kernel
theorem dX0_keepLives_58 : decode cX0_keepLives 58 = .ok (.invokestatic 76, 3) := by decide +kernel
theorem dX0_keepLives_61 : decode cX0_keepLives 61 = .ok (.invokestatic 80, 3) := by decide +kernel
theorem dX0_keepLives_64 : decode cX0_keepLives 64 = .ok (.iastore, 1) := by decide +kernel
theorem dX0_keepLives_65 : decode cX0_keepLives 65 = .ok (.iinc 4 1, 3) := by decide +kernel
theorem dX0_keepLives_68 : decode cX0_keepLives 68 = .ok (.goto (-37), 3) := by decide +kernel
theorem dX0_keepLives_71 : decode cX0_keepLives 71 = .ok (.return_, 1) := by decide +kernel
theorem dX1_init_0 : decode cX1_init 0 = .ok (.aload_n 0, 1) := by decide +kernel
theorem dX1_init_1 : decode cX1_init 1 = .ok (.invokespecial 3, 3) := by decide +kernel
theorem dX1_init_4 : decode cX1_init 4 = .ok (.aload_n 0, 1) := by decide +kernel
theorem dX1_init_5 : decode cX1_init 5 = .ok (.bipush 6, 2) := by decide +kernel
theorem dX1_init_7 : decode cX1_init 7 = .ok (.anewarray 9, 3) := by decide +kernel
theorem dX1_init_10 : decode cX1_init 10 = .ok (.putfield 11, 3) := by decide +kernel
theorem dX1_init_13 : decode cX1_init 13 = .ok (.aload_n 0, 1) := by decide +kernel
theorem dX1_init_14 : decode cX1_init 14 = .ok (.bipush 6, 2) := by decide +kernel
theorem dX1_init_16 : decode cX1_init 16 = .ok (.newarray .int, 2) := by decide +kernel
theorem dX1_init_18 : decode cX1_init 18 = .ok (.putfield 17, 3) := by decide +kernel
theorem dX1_init_21 : decode cX1_init 21 = .ok (.aload_n 0, 1) := by decide +kernel
theorem dX1_init_22 : decode cX1_init 22 = .ok (.bipush 6, 2) := by decide +kernel
theorem dX1_init_24 : decode cX1_init 24 = .ok (.newarray .int, 2) := by decide +kernel
theorem dX1_init_26 : decode cX1_init 26 = .ok (.putfield 21, 3) := by decide +kernel
theorem dX1_init_29 : decode cX1_init 29 = .ok (.aload_n 0, 1) := by decide +kernel
theorem dX1_init_30 : decode cX1_init 30 = .ok (.iconst 0, 1) := by decide +kernel
theorem dX1_init_31 : decode cX1_init 31 = .ok (.putfield 24, 3) := by decide +kernel
theorem dX1_init_34 : decode cX1_init 34 = .ok (.aload_n 0, 1) := by decide +kernel
theorem dX1_init_35 : decode cX1_init 35 = .ok (.iconst 1, 1) := by decide +kernel
theorem dX1_init_36 : decode cX1_init 36 = .ok (.putfield 28, 3) := by decide +kernel
theorem dX1_init_39 : decode cX1_init 39 = .ok (.aload_n 0, 1) := by decide +kernel
theorem dX1_init_40 : decode cX1_init 40 = .ok (.iconst 1, 1) := by decide +kernel
theorem dX1_init_41 : decode cX1_init 41 = .ok (.putfield 31, 3) := by decide +kernel
theorem dX1_init_44 : decode cX1_init 44 = .ok (.iconst 0, 1) := by decide +kernel
theorem dX1_init_45 : decode cX1_init 45 = .ok (.istore_n 1, 1) := by decide +kernel
theorem dX1_init_46 : decode cX1_init 46 = .ok (.iload_n 1, 1) := by decide +kernel
theorem dX1_init_47 : decode cX1_init 47 = .ok (.aload_n 0, 1) := by decide +kernel
theorem dX1_init_48 : decode cX1_init 48 = .ok (.getfield 11, 3) := by decide +kernel
theorem dX1_init_51 : decode cX1_init 51 = .ok (.arraylength, 1) := by decide +kernel
theorem dX1_init_52 : decode cX1_init 52 = .ok (.if_icmp .ge 22, 3) := by decide +kernel
theorem dX1_init_55 : decode cX1_init 55 = .ok (.aload_n 0, 1) := by decide +kernel
theorem dX1_init_56 : decode cX1_init 56 = .ok (.getfield 11, 3) := by decide +kernel
theorem dX1_init_59 : decode cX1_init 59 = .ok (.iload_n 1, 1) := by decide +kernel
theorem dX1_init_60 : decode cX1_init 60 = .ok (.new 9, 3) := by decide +kernel
theorem dX1_init_63 : decode cX1_init 63 = .ok (.dup, 1) := by decide +kernel
theorem dX1_init_64 : decode cX1_init 64 = .ok (.invokespecial 34, 3) := by decide +kernel
theorem dX1_init_67 : decode cX1_init 67 = .ok (.aastore, 1) := by decide +kernel
theorem dX1_init_68 : decode cX1_init 68 = .ok (.iinc 1 1, 3) := by decide +kernel
theorem dX1_init_71 : decode cX1_init 71 = .ok (.goto (-25), 3) := by decide +kernel
theorem dX1_init_74 : decode cX1_init 74 = .ok (.return_, 1) := by decide +kernel
theorem dX1_sumOf_0 : decode cX1_sumOf 0 = .ok (.iconst 0, 1) := by decide +kernel
theorem dX1_sumOf_1 : decode cX1_sumOf 1 = .ok (.istore_n 2, 1) := by decide +kernel
theorem dX1_sumOf_2 : decode cX1_sumOf 2 = .ok (.iconst 0, 1) := by decide +kernel
theorem dX1_sumOf_3 : decode cX1_sumOf 3 = .ok (.istore_n 3, 1) := by decide +kernel
theorem dX1_sumOf_4 : decode cX1_sumOf 4 = .ok (.iload_n 3, 1) := by decide +kernel
theorem dX1_sumOf_5 : decode cX1_sumOf 5 = .ok (.aload_n 0, 1) := by decide +kernel
theorem dX1_sumOf_6 : decode cX1_sumOf 6 = .ok (.getfield 24, 3) := by decide +kernel
theorem dX1_sumOf_9 : decode cX1_sumOf 9 = .ok (.if_icmp .ge 36, 3) := by decide +kernel
theorem dX1_sumOf_12 : decode cX1_sumOf 12 = .ok (.iload_n 2, 1) := by decide +kernel
theorem dX1_sumOf_13 : decode cX1_sumOf 13 = .ok (.iload_n 1, 1) := by decide +kernel
theorem dX1_sumOf_14 : decode cX1_sumOf 14 = .ok (.iload_n 3, 1) := by decide +kernel
theorem dX1_sumOf_15 : decode cX1_sumOf 15 = .ok (.ishr, 1) := by decide +kernel
theorem dX1_sumOf_16 : decode cX1_sumOf 16 = .ok (.iconst 1, 1) := by decide +kernel
theorem dX1_sumOf_17 : decode cX1_sumOf 17 = .ok (.iand, 1) := by decide +kernel
theorem dX1_sumOf_18 : decode cX1_sumOf 18 = .ok (.iconst 1, 1) := by decide +kernel
theorem dX1_sumOf_19 : decode cX1_sumOf 19 = .ok (.if_icmp .ne 12, 3) := by decide +kernel
theorem dX1_sumOf_22 : decode cX1_sumOf 22 = .ok (.aload_n 0, 1) := by decide +kernel
theorem dX1_sumOf_23 : decode cX1_sumOf 23 = .ok (.getfield 21, 3) := by decide +kernel
theorem dX1_sumOf_26 : decode cX1_sumOf 26 = .ok (.iload_n 3, 1) := by decide +kernel
theorem dX1_sumOf_27 : decode cX1_sumOf 27 = .ok (.iaload, 1) := by decide +kernel
theorem dX1_sumOf_28 : decode cX1_sumOf 28 = .ok (.goto 9, 3) := by decide +kernel
theorem dX1_sumOf_31 : decode cX1_sumOf 31 = .ok (.aload_n 0, 1) := by decide +kernel
theorem dX1_sumOf_32 : decode cX1_sumOf 32 = .ok (.getfield 17, 3) := by decide +kernel
theorem dX1_sumOf_35 : decode cX1_sumOf 35 = .ok (.iload_n 3, 1) := by decide +kernel
theorem dX1_sumOf_36 : decode cX1_sumOf 36 = .ok (.iaload, 1) := by decide +kernel
theorem dX1_sumOf_37 : decode cX1_sumOf 37 = .ok (.iadd, 1) := by decide +kernel
theorem dX1_sumOf_38 : decode cX1_sumOf 38 = .ok (.istore_n 2, 1) := by decide +kernel
theorem dX1_sumOf_39 : decode cX1_sumOf 39 = .ok (.iinc 3 1, 3) := by decide +kernel
theorem dX1_sumOf_42 : decode cX1_sumOf 42 = .ok (.goto (-38), 3) := by decide +kernel
theorem dX1_sumOf_45 : decode cX1_sumOf 45 = .ok (.iload_n 2, 1) := by decide +kernel
theorem dX1_sumOf_46 : decode cX1_sumOf 46 = .ok (.ireturn, 1) := by decide +kernel
theorem dX1_bestUse_0 : decode cX1_bestUse 0 = .ok (.iconst 0, 1) := by decide +kernel
theorem dX1_bestUse_1 : decode cX1_bestUse 1 = .ok (.istore_n 1, 1) := by decide +kernel
theorem dX1_bestUse_2 : decode cX1_bestUse 2 = .ok (.aload_n 0, 1) := by decide +kernel
theorem dX1_bestUse_3 : decode cX1_bestUse 3 = .ok (.iconst 0, 1) := by decide +kernel
theorem dX1_bestUse_4 : decode cX1_bestUse 4 = .ok (.invokevirtual 35, 3) := by decide +kernel
theorem dX1_bestUse_7 : decode cX1_bestUse 7 = .ok (.istore_n 2, 1) := by decide +kernel
theorem dX1_bestUse_8 : decode cX1_bestUse 8 = .ok (.iconst 1, 1) := by decide +kernel
theorem dX1_bestUse_9 : decode cX1_bestUse 9 = .ok (.istore_n 3, 1) := by decide +kernel
theorem dX1_bestUse_10 : decode cX1_bestUse 10 = .ok (.iload_n 3, 1) := by decide +kernel
theorem dX1_bestUse_11 : decode cX1_bestUse 11 = .ok (.iconst 1, 1) := by decide +kernel
theorem dX1_bestUse_12 : decode cX1_bestUse 12 = .ok (.aload_n 0, 1) := by decide +kernel
theorem dX1_bestUse_13 : decode cX1_bestUse 13 = .ok (.getfield 24, 3) := by decide +kernel
theorem dX1_bestUse_16 : decode cX1_bestUse 16 = .ok (.ishl, 1) := by decide +kernel
theorem dX1_bestUse_17 : decode cX1_bestUse 17 = .ok (.if_icmp .ge 67, 3) := by decide +kernel
theorem dX1_bestUse_20 : decode cX1_bestUse 20 = .ok (.aload_n 0, 1) := by decide +kernel
theorem dX1_bestUse_21 : decode cX1_bestUse 21 = .ok (.iload_n 3, 1) := by decide +kernel
theorem dX1_bestUse_22 : decode cX1_bestUse 22 = .ok (.invokevirtual 35, 3) := by decide +kernel
theorem dX1_bestUse_25 : decode cX1_bestUse 25 = .ok (.istore 4, 2) := by decide +kernel
theorem dX1_bestUse_27 : decode cX1_bestUse 27 = .ok (.iload_n 3, 1) := by decide +kernel
theorem dX1_bestUse_28 : decode cX1_bestUse 28 = .ok (.invokestatic 39, 3) := by decide +kernel
theorem dX1_bestUse_31 : decode cX1_bestUse 31 = .ok (.iload_n 1, 1) := by decide +kernel
theorem dX1_bestUse_32 : decode cX1_bestUse 32 = .ok (.invokestatic 39, 3) := by decide +kernel
theorem dX1_bestUse_35 : decode cX1_bestUse 35 = .ok (.if_icmp .ge 7, 3) := by decide +kernel
theorem dX1_bestUse_38 : decode cX1_bestUse 38 = .ok (.iconst 1, 1) := by decide +kernel
theorem dX1_bestUse_39 : decode cX1_bestUse 39 = .ok (.goto 4, 3) := by decide +kernel
theorem dX1_bestUse_42 : decode cX1_bestUse 42 = .ok (.iconst 0, 1) := by decide +kernel
theorem dX1_bestUse_43 : decode cX1_bestUse 43 = .ok (.istore 5, 2) := by decide +kernel
theorem dX1_bestUse_45 : decode cX1_bestUse 45 = .ok (.iload_n 3, 1) := by decide +kernel
theorem dX1_bestUse_46 : decode cX1_bestUse 46 = .ok (.invokestatic 39, 3) := by decide +kernel
theorem dX1_bestUse_49 : decode cX1_bestUse 49 = .ok (.aload_n 0, 1) := by decide +kernel
theorem dX1_bestUse_50 : decode cX1_bestUse 50 = .ok (.getfield 28, 3) := by decide +kernel
theorem dX1_bestUse_53 : decode cX1_bestUse 53 = .ok (.if_icmp .gt 25, 3) := by decide +kernel
theorem dX1_bestUse_56 : decode cX1_bestUse 56 = .ok (.iload 4, 2) := by decide +kernel
theorem dX1_bestUse_58 : decode cX1_bestUse 58 = .ok (.iload_n 2, 1) := by decide +kernel
theorem dX1_bestUse_59 : decode cX1_bestUse 59 = .ok (.if_icmp .gt 14, 3) := by decide +kernel
theorem dX1_bestUse_62 : decode cX1_bestUse 62 = .ok (.iload 4, 2) := by decide +kernel
theorem dX1_bestUse_64 : decode cX1_bestUse 64 = .ok (.iload_n 2, 1) := by decide +kernel
theorem dX1_bestUse_65 : decode cX1_bestUse 65 = .ok (.if_icmp .ne 13, 3) := by decide +kernel
theorem dX1_bestUse_68 : decode cX1_bestUse 68 = .ok (.iload 5, 2) := by decide +kernel
theorem dX1_bestUse_70 : decode cX1_bestUse 70 = .ok (.ifCond .eq 8, 3) := by decide +kernel
theorem dX1_bestUse_73 : decode cX1_bestUse 73 = .ok (.iload_n 3, 1) := by decide +kernel
theorem dX1_bestUse_74 : decode cX1_bestUse 74 = .ok (.istore_n 1, 1) := by decide +kernel
theorem dX1_bestUse_75 : decode cX1_bestUse 75 = .ok (.iload 4, 2) := by decide +kernel
theorem dX1_bestUse_77 : decode cX1_bestUse 77 = .ok (.istore_n 2, 1) := by decide +kernel
theorem dX1_bestUse_78 : decode cX1_bestUse 78 = .ok (.iinc 3 1, 3) := by decide +kernel
theorem dX1_bestUse_81 : decode cX1_bestUse 81 = .ok (.goto (-71), 3) := by decide +kernel
theorem dX1_bestUse_84 : decode cX1_bestUse 84 = .ok (.iload_n 1, 1) := by decide +kernel
theorem dX1_bestUse_85 : decode cX1_bestUse 85 = .ok (.ireturn, 1) := by decide +kernel
theorem dX2_init_0 : decode cX2_init 0 = .ok (.aload_n 0, 1) := by decide +kernel
theorem dX2_init_1 : decode cX2_init 1 = .ok (.invokespecial 3, 3) := by decide +kernel
theorem dX2_init_4 : decode cX2_init 4 = .ok (.aload_n 0, 1) := by decide +kernel
theorem dX2_init_5 : decode cX2_init 5 = .ok (.bipush 6, 2) := by decide +kernel
theorem dX2_init_7 : decode cX2_init 7 = .ok (.newarray .int, 2) := by decide +kernel
theorem dX2_init_9 : decode cX2_init 9 = .ok (.putfield 9, 3) := by decide +kernel
theorem dX2_init_12 : decode cX2_init 12 = .ok (.aload_n 0, 1) := by decide +kernel
theorem dX2_init_13 : decode cX2_init 13 = .ok (.bipush 6, 2) := by decide +kernel
theorem dX2_init_15 : decode cX2_init 15 = .ok (.newarray .int, 2) := by decide +kernel
theorem dX2_init_17 : decode cX2_init 17 = .ok (.putfield 15, 3) := by decide +kernel
theorem dX2_init_20 : decode cX2_init 20 = .ok (.aload_n 0, 1) := by decide +kernel
theorem dX2_init_21 : decode cX2_init 21 = .ok (.bipush 6, 2) := by decide +kernel
theorem dX2_init_23 : decode cX2_init 23 = .ok (.newarray .int, 2) := by decide +kernel
theorem dX2_init_25 : decode cX2_init 25 = .ok (.putfield 18, 3) := by decide +kernel
theorem dX2_init_28 : decode cX2_init 28 = .ok (.aload_n 0, 1) := by decide +kernel
theorem dX2_init_29 : decode cX2_init 29 = .ok (.bipush 6, 2) := by decide +kernel
theorem dX2_init_31 : decode cX2_init 31 = .ok (.newarray .int, 2) := by decide +kernel
theorem dX2_init_33 : decode cX2_init 33 = .ok (.putfield 21, 3) := by decide +kernel
theorem dX2_init_36 : decode cX2_init 36 = .ok (.aload_n 0, 1) := by decide +kernel
theorem dX2_init_37 : decode cX2_init 37 = .ok (.bipush 6, 2) := by decide +kernel
theorem dX2_init_39 : decode cX2_init 39 = .ok (.newarray .int, 2) := by decide +kernel
theorem dX2_init_41 : decode cX2_init 41 = .ok (.putfield 24, 3) := by decide +kernel
theorem dX2_init_44 : decode cX2_init 44 = .ok (.aload_n 0, 1) := by decide +kernel
theorem dX2_init_45 : decode cX2_init 45 = .ok (.bipush 6, 2) := by decide +kernel
theorem dX2_init_47 : decode cX2_init 47 = .ok (.newarray .int, 2) := by decide +kernel
theorem dX2_init_49 : decode cX2_init 49 = .ok (.putfield 27, 3) := by decide +kernel
theorem dX2_init_52 : decode cX2_init 52 = .ok (.aload_n 0, 1) := by decide +kernel
theorem dX2_init_53 : decode cX2_init 53 = .ok (.bipush 6, 2) := by decide +kernel
theorem dX2_init_55 : decode cX2_init 55 = .ok (.newarray .int, 2) := by decide +kernel
theorem dX2_init_57 : decode cX2_init 57 = .ok (.putfield 30, 3) := by decide +kernel
theorem dX2_init_60 : decode cX2_init 60 = .ok (.aload_n 0, 1) := by decide +kernel
theorem dX2_init_61 : decode cX2_init 61 = .ok (.iconst 0, 1) := by decide +kernel
theorem dX2_init_62 : decode cX2_init 62 = .ok (.putfield 33, 3) := by decide +kernel
theorem dX2_init_65 : decode cX2_init 65 = .ok (.aload_n 0, 1) := by decide +kernel
theorem dX2_init_66 : decode cX2_init 66 = .ok (.iconst 1, 1) := by decide +kernel
theorem dX2_init_67 : decode cX2_init 67 = .ok (.putfield 37, 3) := by decide +kernel
theorem dX2_init_70 : decode cX2_init 70 = .ok (.aload_n 0, 1) := by decide +kernel
theorem dX2_init_71 : decode cX2_init 71 = .ok (.iconst 0, 1) := by decide +kernel
theorem dX2_init_72 : decode cX2_init 72 = .ok (.putfield 40, 3) := by decide +kernel
theorem dX2_init_75 : decode cX2_init 75 = .ok (.aload_n 0, 1) := by decide +kernel
theorem dX2_init_76 : decode cX2_init 76 = .ok (.iconst (-1), 1) := by decide +kernel
theorem dX2_init_77 : decode cX2_init 77 = .ok (.putfield 43, 3) := by decide +kernel
theorem dX2_init_80 : decode cX2_init 80 = .ok (.return_, 1) := by decide +kernel
theorem dX2_open_0 : decode cX2_open 0 = .ok (.aload_n 0, 1) := by decide +kernel
theorem dX2_open_1 : decode cX2_open 1 = .ok (.iload_n 1, 1) := by decide +kernel
theorem dX2_open_2 : decode cX2_open 2 = .ok (.putfield 37, 3) := by decide +kernel
theorem dX2_open_5 : decode cX2_open 5 = .ok (.aload_n 0, 1) := by decide +kernel
theorem dX2_open_6 : decode cX2_open 6 = .ok (.iload_n 2, 1) := by decide +kernel
theorem dX2_open_7 : decode cX2_open 7 = .ok (.putfield 40, 3) := by decide +kernel
theorem dX2_open_10 : decode cX2_open 10 = .ok (.aload_n 0, 1) := by decide +kernel
theorem dX2_open_11 : decode cX2_open 11 = .ok (.iload_n 3, 1) := by decide +kernel
theorem dX2_open_12 : decode cX2_open 12 = .ok (.putfield 43, 3) := by decide +kernel
theorem dX2_open_15 : decode cX2_open 15 = .ok (.aload_n 0, 1) := by decide +kernel
theorem dX2_open_16 : decode cX2_open 16 = .ok (.iconst 0, 1) := by decide +kernel
theorem dX2_open_17 : decode cX2_open 17 = .ok (.putfield 33, 3) := by decide +kernel
theorem dX2_open_20 : decode cX2_open 20 = .ok (.return_, 1) := by decide +kernel
theorem dX2_seat_0 : decode cX2_seat 0 = .ok (.iload_n 1, 1) := by decide +kernel
theorem dX2_seat_1 : decode cX2_seat 1 = .ok (.ifCond .lt 18, 3) := by decide +kernel
theorem dX2_seat_4 : decode cX2_seat 4 = .ok (.iload_n 1, 1) := by decide +kernel
theorem dX2_seat_5 : decode cX2_seat 5 = .ok (.bipush 6, 2) := by decide +kernel
theorem dX2_seat_7 : decode cX2_seat 7 = .ok (.if_icmp .ge 12, 3) := by decide +kernel
theorem dX2_seat_10 : decode cX2_seat 10 = .ok (.aload_n 0, 1) := by decide +kernel
theorem dX2_seat_11 : decode cX2_seat 11 = .ok (.getfield 33, 3) := by decide +kernel
theorem dX2_seat_14 : decode cX2_seat 14 = .ok (.bipush 6, 2) := by decide +kernel
theorem dX2_seat_16 : decode cX2_seat 16 = .ok (.if_icmp .lt 4, 3) := by decide +kernel
theorem dX2_seat_19 : decode cX2_seat 19 = .ok (.return_, 1) := by decide +kernel
theorem dX2_seat_20 : decode cX2_seat 20 = .ok (.aload_n 0, 1) := by decide +kernel
theorem dX2_seat_21 : decode cX2_seat 21 = .ok (.getfield 9, 3) := by decide +kernel
theorem dX2_seat_24 : decode cX2_seat 24 = .ok (.iload_n 1, 1) := by decide +kernel
theorem dX2_seat_25 : decode cX2_seat 25 = .ok (.aload_n 2, 1) := by decide +kernel
theorem dX2_seat_26 : decode cX2_seat 26 = .ok (.iload_n 3, 1) := by decide +kernel
theorem dX2_seat_27 : decode cX2_seat 27 = .ok (.iconst 0, 1) := by decide +kernel
theorem dX2_seat_28 : decode cX2_seat 28 = .ok (.invokevirtual 46, 3) := by decide +kernel
theorem dX2_seat_31 : decode cX2_seat 31 = .ok (.iastore, 1) := by decide +kernel
theorem dX2_seat_32 : decode cX2_seat 32 = .ok (.aload_n 0, 1) := by decide +kernel
theorem dX2_seat_33 : decode cX2_seat 33 = .ok (.getfield 15, 3) := by decide +kernel
theorem dX2_seat_36 : decode cX2_seat 36 = .ok (.iload_n 1, 1) := by decide +kernel
theorem dX2_seat_37 : decode cX2_seat 37 = .ok (.aload_n 2, 1) := by decide +kernel
theorem dX2_seat_38 : decode cX2_seat 38 = .ok (.iload_n 3, 1) := by decide +kernel
theorem dX2_seat_39 : decode cX2_seat 39 = .ok (.iconst 1, 1) := by decide +kernel
theorem dX2_seat_40 : decode cX2_seat 40 = .ok (.invokevirtual 46, 3) := by decide +kernel
theorem dX2_seat_43 : decode cX2_seat 43 = .ok (.iastore, 1) := by decide +kernel
theorem dX2_seat_44 : decode cX2_seat 44 = .ok (.aload_n 0, 1) := by decide +kernel
theorem dX2_seat_45 : decode cX2_seat 45 = .ok (.getfield 18, 3) := by decide +kernel
theorem dX2_seat_48 : decode cX2_seat 48 = .ok (.iload_n 1, 1) := by decide +kernel
theorem dX2_seat_49 : decode cX2_seat 49 = .ok (.aload_n 2, 1) := by decide +kernel
theorem dX2_seat_50 : decode cX2_seat 50 = .ok (.iload_n 3, 1) := by decide +kernel
theorem dX2_seat_51 : decode cX2_seat 51 = .ok (.iconst 2, 1) := by decide +kernel
theorem dX2_seat_52 : decode cX2_seat 52 = .ok (.invokevirtual 46, 3) := by decide +kernel
theorem dX2_seat_55 : decode cX2_seat 55 = .ok (.iastore, 1) := by decide +kernel
theorem dX2_seat_56 : decode cX2_seat 56 = .ok (.aload_n 0, 1) := by decide +kernel
theorem dX2_seat_57 : decode cX2_seat 57 = .ok (.getfield 21, 3) := by decide +kernel
theorem dX2_seat_60 : decode cX2_seat 60 = .ok (.iload_n 1, 1) := by decide +kernel
theorem dX2_seat_61 : decode cX2_seat 61 = .ok (.aload_n 2, 1) := by decide +kernel
theorem dX2_seat_62 : decode cX2_seat 62 = .ok (.iload_n 3, 1) := by decide +kernel
theorem dX2_seat_63 : decode cX2_seat 63 = .ok (.iconst 3, 1) := by decide +kernel
theorem dX2_seat_64 : decode cX2_seat 64 = .ok (.invokevirtual 46, 3) := by decide +kernel
theorem dX2_seat_67 : decode cX2_seat 67 = .ok (.iload 4, 2) := by decide +kernel
theorem dX2_seat_69 : decode cX2_seat 69 = .ok (.iadd, 1) := by decide +kernel
theorem dX2_seat_70 : decode cX2_seat 70 = .ok (.iastore, 1) := by decide +kernel
theorem dX2_seat_71 : decode cX2_seat 71 = .ok (.aload_n 0, 1) := by decide +kernel
theorem dX2_seat_72 : decode cX2_seat 72 = .ok (.getfield 24, 3) := by decide +kernel
theorem dX2_seat_75 : decode cX2_seat 75 = .ok (.iload_n 1, 1) := by decide +kernel
theorem dX2_seat_76 : decode cX2_seat 76 = .ok (.aload_n 2, 1) := by decide +kernel
theorem dX2_seat_77 : decode cX2_seat 77 = .ok (.iload_n 3, 1) := by decide +kernel
theorem dX2_seat_78 : decode cX2_seat 78 = .ok (.iconst 4, 1) := by decide +kernel
theorem dX2_seat_79 : decode cX2_seat 79 = .ok (.invokevirtual 46, 3) := by decide +kernel
theorem dX2_seat_82 : decode cX2_seat 82 = .ok (.iastore, 1) := by decide +kernel
theorem dX2_seat_83 : decode cX2_seat 83 = .ok (.aload_n 0, 1) := by decide +kernel
theorem dX2_seat_84 : decode cX2_seat 84 = .ok (.getfield 27, 3) := by decide +kernel
theorem dX2_seat_87 : decode cX2_seat 87 = .ok (.iload_n 1, 1) := by decide +kernel
theorem dX2_seat_88 : decode cX2_seat 88 = .ok (.aload_n 2, 1) := by decide +kernel
theorem dX2_seat_89 : decode cX2_seat 89 = .ok (.iload_n 3, 1) := by decide +kernel
theorem dX2_seat_90 : decode cX2_seat 90 = .ok (.iconst 5, 1) := by decide +kernel
theorem dX2_seat_91 : decode cX2_seat 91 = .ok (.invokevirtual 46, 3) := by decide +kernel
theorem dX2_seat_94 : decode cX2_seat 94 = .ok (.iastore, 1) := by decide +kernel
theorem dX2_seat_95 : decode cX2_seat 95 = .ok (.aload_n 0, 1) := by decide +kernel
theorem dX2_seat_96 : decode cX2_seat 96 = .ok (.getfield 33, 3) := by decide +kernel
theorem dX2_seat_99 : decode cX2_seat 99 = .ok (.istore 5, 2) := by decide +kernel
theorem dX2_seat_101 : decode cX2_seat 101 = .ok (.iload 5, 2) := by decide +kernel
theorem dX2_seat_103 : decode cX2_seat 103 = .ok (.ifCond .le 48, 3) := by decide +kernel
theorem dX2_seat_106 : decode cX2_seat 106 = .ok (.aload_n 0, 1) := by decide +kernel
theorem dX2_seat_107 : decode cX2_seat 107 = .ok (.getfield 27, 3) := by decide +kernel
theorem dX2_seat_110 : decode cX2_seat 110 = .ok (.aload_n 0, 1) := by decide +kernel
theorem dX2_seat_111 : decode cX2_seat 111 = .ok (.getfield 30, 3) := by decide +kernel
theorem dX2_seat_114 : decode cX2_seat 114 = .ok (.iload 5, 2) := by decide +kernel
theorem dX2_seat_116 : decode cX2_seat 116 = .ok (.iconst 1, 1) := by decide +kernel
theorem dX2_seat_117 : decode cX2_seat 117 = .ok (.isub, 1) := by decide +kernel
theorem dX2_seat_118 : decode cX2_seat 118 = .ok (.iaload, 1) := by decide +kernel
theorem dX2_seat_119 : decode cX2_seat 119 = .ok (.iaload, 1) := by decide +kernel
theorem dX2_seat_120 : decode cX2_seat 120 = .ok (.aload_n 0, 1) := by decide +kernel
theorem dX2_seat_121 : decode cX2_seat 121 = .ok (.getfield 27, 3) := by decide +kernel
theorem dX2_seat_124 : decode cX2_seat 124 = .ok (.iload_n 1, 1) := by decide +kernel
theorem dX2_seat_125 : decode cX2_seat 125 = .ok (.iaload, 1) := by decide +kernel
theorem dX2_seat_126 : decode cX2_seat 126 = .ok (.if_icmp .ge 25, 3) := by decide +kernel
theorem dX2_seat_129 : decode cX2_seat 129 = .ok (.aload_n 0, 1) := by decide +kernel
theorem dX2_seat_130 : decode cX2_seat 130 = .ok (.getfield 30, 3) := by decide +kernel
theorem dX2_seat_133 : decode cX2_seat 133 = .ok (.iload 5, 2) := by decide +kernel
theorem dX2_seat_135 : decode cX2_seat 135 = .ok (.aload_n 0, 1) := by decide +kernel
theorem dX2_seat_136 : decode cX2_seat 136 = .ok (.getfield 30, 3) := by decide +kernel
theorem dX2_seat_139 : decode cX2_seat 139 = .ok (.iload 5, 2) := by decide +kernel
theorem dX2_seat_141 : decode cX2_seat 141 = .ok (.iconst 1, 1) := by decide +kernel
theorem dX2_seat_142 : decode cX2_seat 142 = .ok (.isub, 1) := by decide +kernel
theorem dX2_seat_143 : decode cX2_seat 143 = .ok (.iaload, 1) := by decide +kernel
theorem dX2_seat_144 : decode cX2_seat 144 = .ok (.iastore, 1) := by decide +kernel
theorem dX2_seat_145 : decode cX2_seat 145 = .ok (.iinc 5 (-1), 3) := by decide +kernel
theorem dX2_seat_148 : decode cX2_seat 148 = .ok (.goto (-47), 3) := by decide +kernel
theorem dX2_seat_151 : decode cX2_seat 151 = .ok (.aload_n 0, 1) := by decide +kernel
theorem dX2_seat_152 : decode cX2_seat 152 = .ok (.getfield 30, 3) := by decide +kernel
theorem dX2_seat_155 : decode cX2_seat 155 = .ok (.iload 5, 2) := by decide +kernel
theorem dX2_seat_157 : decode cX2_seat 157 = .ok (.iload_n 1, 1) := by decide +kernel
theorem dX2_seat_158 : decode cX2_seat 158 = .ok (.iastore, 1) := by decide +kernel
theorem dX2_seat_159 : decode cX2_seat 159 = .ok (.aload_n 0, 1) := by decide +kernel
theorem dX2_seat_160 : decode cX2_seat 160 = .ok (.dup, 1) := by decide +kernel
theorem dX2_seat_161 : decode cX2_seat 161 = .ok (.getfield 33, 3) := by decide +kernel
theorem dX2_seat_164 : decode cX2_seat 164 = .ok (.iconst 1, 1) := by decide +kernel
theorem dX2_seat_165 : decode cX2_seat 165 = .ok (.iadd, 1) := by decide +kernel
theorem dX2_seat_166 : decode cX2_seat 166 = .ok (.putfield 33, 3) := by decide +kernel
theorem dX2_seat_169 : decode cX2_seat 169 = .ok (.return_, 1) := by decide +kernel
theorem dX2_beginning_0 : decode cX2_beginning 0 = .ok (.lconst 0, 1) := by decide +kernel
theorem dX2_beginning_1 : decode cX2_beginning 1 = .ok (.lstore_n 1, 1) := by decide +kernel
theorem dX2_beginning_2 : decode cX2_beginning 2 = .ok (.iconst 0, 1) := by decide +kernel
theorem dX2_beginning_3 : decode cX2_beginning 3 = .ok (.istore_n 3, 1) := by decide +kernel
theorem dX2_beginning_4 : decode cX2_beginning 4 = .ok (.iload_n 3, 1) := by decide +kernel
theorem dX2_beginning_5 : decode cX2_beginning 5 = .ok (.aload_n 0, 1) := by decide +kernel
theorem dX2_beginning_6 : decode cX2_beginning 6 = .ok (.getfield 33, 3) := by decide +kernel
theorem dX2_beginning_9 : decode cX2_beginning 9 = .ok (.if_icmp .ge 37, 3) := by decide +kernel
theorem dX2_beginning_12 : decode cX2_beginning 12 = .ok (.aload_n 0, 1) := by decide +kernel
theorem dX2_beginning_13 : decode cX2_beginning 13 = .ok (.getfield 30, 3) := by decide +kernel
theorem dX2_beginning_16 : decode cX2_beginning 16 = .ok (.iload_n 3, 1) := by decide +kernel
theorem dX2_beginning_17 : decode cX2_beginning 17 = .ok (.iaload, 1) := by decide +kernel
theorem dX2_beginning_18 : decode cX2_beginning 18 = .ok (.istore 4, 2) := by decide +kernel
theorem dX2_beginning_20 : decode cX2_beginning 20 = .ok (.lload_n 1, 1) := by decide +kernel
theorem dX2_beginning_21 : decode cX2_beginning 21 = .ok (.aload_n 0, 1) := by decide +kernel
theorem dX2_beginning_22 : decode cX2_beginning 22 = .ok (.getfield 15, 3) := by decide +kernel
theorem dX2_beginning_25 : decode cX2_beginning 25 = .ok (.iload 4, 2) := by decide +kernel
theorem dX2_beginning_27 : decode cX2_beginning 27 = .ok (.iaload, 1) := by decide +kernel
theorem dX2_beginning_28 : decode cX2_beginning 28 = .ok (.bipush 32, 2) := by decide +kernel
theorem dX2_beginning_30 : decode cX2_beginning 30 = .ok (.iadd, 1) := by decide +kernel
theorem dX2_beginning_31 : decode cX2_beginning 31 = .ok (.i2l, 1) := by decide +kernel
theorem dX2_beginning_32 : decode cX2_beginning 32 = .ok (.bipush 6, 2) := by decide +kernel
theorem dX2_beginning_34 : decode cX2_beginning 34 = .ok (.iload 4, 2) := by decide +kernel
theorem dX2_beginning_36 : decode cX2_beginning 36 = .ok (.imul, 1) := by decide +kernel
theorem dX2_beginning_37 : decode cX2_beginning 37 = .ok (.lshl, 1) := by decide +kernel
theorem dX2_beginning_38 : decode cX2_beginning 38 = .ok (.lor, 1) := by decide +kernel
theorem dX2_beginning_39 : decode cX2_beginning 39 = .ok (.lstore_n 1, 1) := by decide +kernel
theorem dX2_beginning_40 : decode cX2_beginning 40 = .ok (.iinc 3 1, 3) := by decide +kernel
theorem dX2_beginning_43 : decode cX2_beginning 43 = .ok (.goto (-39), 3) := by decide +kernel
theorem dX2_beginning_46 : decode cX2_beginning 46 = .ok (.lload_n 1, 1) := by decide +kernel
theorem dX2_beginning_47 : decode cX2_beginning 47 = .ok (.lreturn, 1) := by decide +kernel
theorem dX2_winner_0 : decode cX2_winner 0 = .ok (.lload_n 0, 1) := by decide +kernel
theorem dX2_winner_1 : decode cX2_winner 1 = .ok (.ldc2_w 52, 3) := by decide +kernel
theorem dX2_winner_4 : decode cX2_winner 4 = .ok (.land, 1) := by decide +kernel
theorem dX2_winner_5 : decode cX2_winner 5 = .ok (.lconst 0, 1) := by decide +kernel
theorem dX2_winner_6 : decode cX2_winner 6 = .ok (.lcmp, 1) := by decide +kernel
theorem dX2_winner_7 : decode cX2_winner 7 = .ok (.ifCond .ne 5, 3) := by decide +kernel
theorem dX2_winner_10 : decode cX2_winner 10 = .ok (.iconst 1, 1) := by decide +kernel
theorem dX2_winner_11 : decode cX2_winner 11 = .ok (.ireturn, 1) := by decide +kernel
theorem dX2_winner_12 : decode cX2_winner 12 = .ok (.lload_n 0, 1) := by decide +kernel
theorem dX2_winner_13 : decode cX2_winner 13 = .ok (.ldc2_w 54, 3) := by decide +kernel
theorem dX2_winner_16 : decode cX2_winner 16 = .ok (.land, 1) := by decide +kernel
theorem dX2_winner_17 : decode cX2_winner 17 = .ok (.lconst 0, 1) := by decide +kernel
theorem dX2_winner_18 : decode cX2_winner 18 = .ok (.lcmp, 1) := by decide +kernel
theorem dX2_winner_19 : decode cX2_winner 19 = .ok (.ifCond .ne 7, 3) := by decide +kernel
theorem dX2_winner_22 : decode cX2_winner 22 = .ok (.iconst 0, 1) := by decide +kernel
theorem dX2_winner_23 : decode cX2_winner 23 = .ok (.goto 4, 3) := by decide +kernel
theorem dX2_winner_26 : decode cX2_winner 26 = .ok (.iconst (-1), 1) := by decide +kernel
theorem dX2_winner_27 : decode cX2_winner 27 = .ok (.ireturn, 1) := by decide +kernel
theorem dX2_part_0 : decode cX2_part 0 = .ok (.lload_n 0, 1) := by decide +kernel
theorem dX2_part_1 : decode cX2_part 1 = .ok (.bipush 6, 2) := by decide +kernel
theorem dX2_part_3 : decode cX2_part 3 = .ok (.iload_n 2, 1) := by decide +kernel
theorem dX2_part_4 : decode cX2_part 4 = .ok (.imul, 1) := by decide +kernel
theorem dX2_part_5 : decode cX2_part 5 = .ok (.lushr, 1) := by decide +kernel
theorem dX2_part_6 : decode cX2_part 6 = .ok (.l2i, 1) := by decide +kernel
theorem dX2_part_7 : decode cX2_part 7 = .ok (.bipush 63, 2) := by decide +kernel
theorem dX2_part_9 : decode cX2_part 9 = .ok (.iand, 1) := by decide +kernel
theorem dX2_part_10 : decode cX2_part 10 = .ok (.ireturn, 1) := by decide +kernel
theorem dX2_lifeOf_0 : decode cX2_lifeOf 0 = .ok (.iload_n 0, 1) := by decide +kernel
theorem dX2_lifeOf_1 : decode cX2_lifeOf 1 = .ok (.bipush 31, 2) := by decide +kernel
theorem dX2_lifeOf_3 : decode cX2_lifeOf 3 = .ok (.iand, 1) := by decide +kernel
theorem dX2_lifeOf_4 : decode cX2_lifeOf 4 = .ok (.ireturn, 1) := by decide +kernel
theorem dX2_hasTurn_0 : decode cX2_hasTurn 0 = .ok (.iload 4, 2) := by decide +kernel
theorem dX2_hasTurn_2 : decode cX2_hasTurn 2 = .ok (.iconst 1, 1) := by decide +kernel
theorem dX2_hasTurn_3 : decode cX2_hasTurn 3 = .ok (.if_icmp .ne 17, 3) := by decide +kernel
theorem dX2_hasTurn_6 : decode cX2_hasTurn 6 = .ok (.iload_n 3, 1) := by decide +kernel
theorem dX2_hasTurn_7 : decode cX2_hasTurn 7 = .ok (.iconst 3, 1) := by decide +kernel
theorem dX2_hasTurn_8 : decode cX2_hasTurn 8 = .ok (.idiv, 1) := by decide +kernel
theorem dX2_hasTurn_9 : decode cX2_hasTurn 9 = .ok (.aload_n 0, 1) := by decide +kernel
theorem dX2_hasTurn_10 : decode cX2_hasTurn 10 = .ok (.getfield 43, 3) := by decide +kernel
theorem dX2_hasTurn_13 : decode cX2_hasTurn 13 = .ok (.if_icmp .ne 7, 3) := by decide +kernel
theorem dX2_hasTurn_16 : decode cX2_hasTurn 16 = .ok (.iconst 1, 1) := by decide +kernel
theorem dX2_hasTurn_17 : decode cX2_hasTurn 17 = .ok (.goto 4, 3) := by decide +kernel
theorem dX2_hasTurn_20 : decode cX2_hasTurn 20 = .ok (.iconst 0, 1) := by decide +kernel
theorem dX2_hasTurn_21 : decode cX2_hasTurn 21 = .ok (.istore 5, 2) := by decide +kernel
theorem dX2_hasTurn_23 : decode cX2_hasTurn 23 = .ok (.lload_n 1, 1) := by decide +kernel
theorem dX2_hasTurn_24 : decode cX2_hasTurn 24 = .ok (.iload_n 3, 1) := by decide +kernel
theorem dX2_hasTurn_25 : decode cX2_hasTurn 25 = .ok (.invokestatic 56, 3) := by decide +kernel
theorem dX2_hasTurn_28 : decode cX2_hasTurn 28 = .ok (.bipush 32, 2) := by decide +kernel
theorem dX2_hasTurn_30 : decode cX2_hasTurn 30 = .ok (.if_icmp .lt 12, 3) := by decide +kernel
theorem dX2_hasTurn_33 : decode cX2_hasTurn 33 = .ok (.iload 5, 2) := by decide +kernel
theorem dX2_hasTurn_35 : decode cX2_hasTurn 35 = .ok (.ifCond .ne 7, 3) := by decide +kernel
theorem dX2_hasTurn_38 : decode cX2_hasTurn 38 = .ok (.iconst 1, 1) := by decide +kernel
theorem dX2_hasTurn_39 : decode cX2_hasTurn 39 = .ok (.goto 4, 3) := by decide +kernel
theorem dX2_hasTurn_42 : decode cX2_hasTurn 42 = .ok (.iconst 0, 1) := by decide +kernel
theorem dX2_hasTurn_43 : decode cX2_hasTurn 43 = .ok (.ireturn, 1) := by decide +kernel
theorem dX2_flees_0 : decode cX2_flees 0 = .ok (.lload_n 1, 1) := by decide +kernel
theorem dX2_flees_1 : decode cX2_flees 1 = .ok (.iload_n 3, 1) := by decide +kernel
theorem dX2_flees_2 : decode cX2_flees 2 = .ok (.invokestatic 56, 3) := by decide +kernel
theorem dX2_flees_5 : decode cX2_flees 5 = .ok (.invokestatic 60, 3) := by decide +kernel
theorem dX2_flees_8 : decode cX2_flees 8 = .ok (.aload_n 0, 1) := by decide +kernel
theorem dX2_flees_9 : decode cX2_flees 9 = .ok (.getfield 24, 3) := by decide +kernel
theorem dX2_flees_12 : decode cX2_flees 12 = .ok (.iload_n 3, 1) := by decide +kernel
theorem dX2_flees_13 : decode cX2_flees 13 = .ok (.iaload, 1) := by decide +kernel
theorem dX2_flees_14 : decode cX2_flees 14 = .ok (.if_icmp .gt 7, 3) := by decide +kernel
theorem dX2_flees_17 : decode cX2_flees 17 = .ok (.iconst 1, 1) := by decide +kernel
theorem dX2_flees_18 : decode cX2_flees 18 = .ok (.goto 4, 3) := by decide +kernel
theorem dX2_flees_21 : decode cX2_flees 21 = .ok (.iconst 0, 1) := by decide +kernel
theorem dX2_flees_22 : decode cX2_flees 22 = .ok (.ireturn, 1) := by decide +kernel
theorem dX2_afterFlight_0 : decode cX2_afterFlight 0 = .ok (.lload_n 1, 1) := by decide +kernel
theorem dX2_afterFlight_1 : decode cX2_afterFlight 1 = .ok (.ldc2_w 64, 3) := by decide +kernel
theorem dX2_afterFlight_4 : decode cX2_afterFlight 4 = .ok (.bipush 6, 2) := by decide +kernel
theorem dX2_afterFlight_6 : decode cX2_afterFlight 6 = .ok (.iload_n 3, 1) := by decide +kernel
theorem dX2_afterFlight_7 : decode cX2_afterFlight 7 = .ok (.imul, 1) := by decide +kernel
theorem dX2_afterFlight_8 : decode cX2_afterFlight 8 = .ok (.lshl, 1) := by decide +kernel
theorem dX2_afterFlight_9 : decode cX2_afterFlight 9 = .ok (.ldc2_w 66, 3) := by decide +kernel
theorem dX2_afterFlight_12 : decode cX2_afterFlight 12 = .ok (.lxor, 1) := by decide +kernel
theorem dX2_afterFlight_13 : decode cX2_afterFlight 13 = .ok (.land, 1) := by decide +kernel
theorem dX2_afterFlight_14 : decode cX2_afterFlight 14 = .ok (.lreturn, 1) := by decide +kernel
theorem dX2_hits_0 : decode cX2_hits 0 = .ok (.aload_n 0, 1) := by decide +kernel
theorem dX2_hits_1 : decode cX2_hits 1 = .ok (.getfield 18, 3) := by decide +kernel
theorem dX2_hits_4 : decode cX2_hits 4 = .ok (.iload_n 1, 1) := by decide +kernel
theorem dX2_hits_5 : decode cX2_hits 5 = .ok (.iaload, 1) := by decide +kernel
theorem dX2_hits_6 : decode cX2_hits 6 = .ok (.ireturn, 1) := by decide +kernel
theorem dX2_afterHit_0 : decode cX2_afterHit 0 = .ok (.iload_n 3, 1) := by decide +kernel
theorem dX2_afterHit_1 : decode cX2_afterHit 1 = .ok (.iconst 3, 1) := by decide +kernel
theorem dX2_afterHit_2 : decode cX2_afterHit 2 = .ok (.idiv, 1) := by decide +kernel
theorem dX2_afterHit_3 : decode cX2_afterHit 3 = .ok (.istore 4, 2) := by decide +kernel
theorem dX2_afterHit_5 : decode cX2_afterHit 5 = .ok (.aload_n 0, 1) := by decide +kernel
theorem dX2_afterHit_6 : decode cX2_afterHit 6 = .ok (.getfield 9, 3) := by decide +kernel
theorem dX2_afterHit_9 : decode cX2_afterHit 9 = .ok (.iload_n 3, 1) := by decide +kernel
theorem dX2_afterHit_10 : decode cX2_afterHit 10 = .ok (.iaload, 1) := by decide +kernel
theorem dX2_afterHit_11 : decode cX2_afterHit 11 = .ok (.lookupswitch 74 #[(0, 25), (1, 58)], 25) := by decide +kernel
theorem dX2_afterHit_36 : decode cX2_afterHit 36 = .ok (.lload_n 1, 1) := by decide +kernel
theorem dX2_afterHit_37 : decode cX2_afterHit 37 = .ok (.aload_n 0, 1) := by decide +kernel
theorem dX2_afterHit_38 : decode cX2_afterHit 38 = .ok (.lload_n 1, 1) := by decide +kernel
theorem dX2_afterHit_39 : decode cX2_afterHit 39 = .ok (.iconst 1, 1) := by decide +kernel
theorem dX2_afterHit_40 : decode cX2_afterHit 40 = .ok (.iload 4, 2) := by decide +kernel
theorem dX2_afterHit_42 : decode cX2_afterHit 42 = .ok (.isub, 1) := by decide +kernel
theorem dX2_afterHit_43 : decode cX2_afterHit 43 = .ok (.aload_n 0, 1) := by decide +kernel
theorem dX2_afterHit_44 : decode cX2_afterHit 44 = .ok (.getfield 40, 3) := by decide +kernel
theorem dX2_afterHit_47 : decode cX2_afterHit 47 = .ok (.iconst 1, 1) := by decide +kernel
theorem dX2_afterHit_48 : decode cX2_afterHit 48 = .ok (.if_icmp .ne 7, 3) := by decide +kernel
theorem dX2_afterHit_51 : decode cX2_afterHit 51 = .ok (.iconst 1, 1) := by decide +kernel
theorem dX2_afterHit_52 : decode cX2_afterHit 52 = .ok (.goto 4, 3) := by decide +kernel
theorem dX2_afterHit_55 : decode cX2_afterHit 55 = .ok (.iconst 0, 1) := by decide +kernel
theorem dX2_afterHit_56 : decode cX2_afterHit 56 = .ok (.invokevirtual 68, 3) := by decide +kernel
theorem dX2_afterHit_59 : decode cX2_afterHit 59 = .ok (.aload_n 0, 1) := by decide +kernel
theorem dX2_afterHit_60 : decode cX2_afterHit 60 = .ok (.getfield 21, 3) := by decide +kernel
theorem dX2_afterHit_63 : decode cX2_afterHit 63 = .ok (.iload_n 3, 1) := by decide +kernel
theorem dX2_afterHit_64 : decode cX2_afterHit 64 = .ok (.iaload, 1) := by decide +kernel
theorem dX2_afterHit_65 : decode cX2_afterHit 65 = .ok (.invokestatic 72, 3) := by decide +kernel
theorem dX2_afterHit_68 : decode cX2_afterHit 68 = .ok (.lreturn, 1) := by decide +kernel
theorem dX2_afterHit_69 : decode cX2_afterHit 69 = .ok (.aload_n 0, 1) := by decide +kernel
theorem dX2_afterHit_70 : decode cX2_afterHit 70 = .ok (.lload_n 1, 1) := by decide +kernel
theorem dX2_afterHit_71 : decode cX2_afterHit 71 = .ok (.iconst 1, 1) := by decide +kernel
theorem dX2_afterHit_72 : decode cX2_afterHit 72 = .ok (.iload 4, 2) := by decide +kernel
theorem dX2_afterHit_74 : decode cX2_afterHit 74 = .ok (.isub, 1) := by decide +kernel
theorem dX2_afterHit_75 : decode cX2_afterHit 75 = .ok (.aload_n 0, 1) := by decide +kernel
theorem dX2_afterHit_76 : decode cX2_afterHit 76 = .ok (.getfield 21, 3) := by decide +kernel
theorem dX2_afterHit_79 : decode cX2_afterHit 79 = .ok (.iload_n 3, 1) := by decide +kernel
theorem dX2_afterHit_80 : decode cX2_afterHit 80 = .ok (.iaload, 1) := by decide +kernel
theorem dX2_afterHit_81 : decode cX2_afterHit 81 = .ok (.invokevirtual 76, 3) := by decide +kernel
theorem dX2_afterHit_84 : decode cX2_afterHit 84 = .ok (.lreturn, 1) := by decide +kernel
theorem dX2_afterHit_85 : decode cX2_afterHit 85 = .ok (.aload_n 0, 1) := by decide +kernel
theorem dX2_afterHit_86 : decode cX2_afterHit 86 = .ok (.lload_n 1, 1) := by decide +kernel
theorem dX2_afterHit_87 : decode cX2_afterHit 87 = .ok (.aload_n 0, 1) := by decide +kernel
theorem dX2_afterHit_88 : decode cX2_afterHit 88 = .ok (.lload_n 1, 1) := by decide +kernel
theorem dX2_afterHit_89 : decode cX2_afterHit 89 = .ok (.iload 4, 2) := by decide +kernel
theorem dX2_afterHit_91 : decode cX2_afterHit 91 = .ok (.iconst 1, 1) := by decide +kernel
theorem dX2_afterHit_92 : decode cX2_afterHit 92 = .ok (.invokevirtual 68, 3) := by decide +kernel
theorem dX2_afterHit_95 : decode cX2_afterHit 95 = .ok (.aload_n 0, 1) := by decide +kernel
theorem dX2_afterHit_96 : decode cX2_afterHit 96 = .ok (.getfield 21, 3) := by decide +kernel
theorem dX2_afterHit_99 : decode cX2_afterHit 99 = .ok (.iload_n 3, 1) := by decide +kernel
theorem dX2_afterHit_100 : decode cX2_afterHit 100 = .ok (.iaload, 1) := by decide +kernel
theorem dX2_afterHit_101 : decode cX2_afterHit 101 = .ok (.invokevirtual 79, 3) := by decide +kernel
theorem dX2_afterHit_104 : decode cX2_afterHit 104 = .ok (.lreturn, 1) := by decide +kernel
theorem dX2_chosen_0 : decode cX2_chosen 0 = .ok (.iconst (-1), 1) := by decide +kernel
theorem dX2_chosen_1 : decode cX2_chosen 1 = .ok (.istore 5, 2) := by decide +kernel
theorem dX2_chosen_3 : decode cX2_chosen 3 = .ok (.iconst 0, 1) := by decide +kernel
theorem dX2_chosen_4 : decode cX2_chosen 4 = .ok (.istore 6, 2) := by decide +kernel
theorem dX2_chosen_6 : decode cX2_chosen 6 = .ok (.iconst 3, 1) := by decide +kernel
theorem dX2_chosen_7 : decode cX2_chosen 7 = .ok (.iload_n 3, 1) := by decide +kernel
theorem dX2_chosen_8 : decode cX2_chosen 8 = .ok (.imul, 1) := by decide +kernel
theorem dX2_chosen_9 : decode cX2_chosen 9 = .ok (.istore 7, 2) := by decide +kernel
theorem dX2_chosen_11 : decode cX2_chosen 11 = .ok (.iload 7, 2) := by decide +kernel
theorem dX2_chosen_13 : decode cX2_chosen 13 = .ok (.iconst 3, 1) := by decide +kernel
theorem dX2_chosen_14 : decode cX2_chosen 14 = .ok (.iload_n 3, 1) := by decide +kernel
theorem dX2_chosen_15 : decode cX2_chosen 15 = .ok (.imul, 1) := by decide +kernel
theorem dX2_chosen_16 : decode cX2_chosen 16 = .ok (.iconst 3, 1) := by decide +kernel
theorem dX2_chosen_17 : decode cX2_chosen 17 = .ok (.iadd, 1) := by decide +kernel
theorem dX2_chosen_18 : decode cX2_chosen 18 = .ok (.if_icmp .ge 50, 3) := by decide +kernel
theorem dX2_chosen_21 : decode cX2_chosen 21 = .ok (.lload_n 1, 1) := by decide +kernel
theorem dX2_chosen_22 : decode cX2_chosen 22 = .ok (.iload 7, 2) := by decide +kernel
theorem dX2_chosen_24 : decode cX2_chosen 24 = .ok (.invokestatic 56, 3) := by decide +kernel
theorem dX2_chosen_27 : decode cX2_chosen 27 = .ok (.istore 8, 2) := by decide +kernel
theorem dX2_chosen_29 : decode cX2_chosen 29 = .ok (.iload 8, 2) := by decide +kernel
theorem dX2_chosen_31 : decode cX2_chosen 31 = .ok (.bipush 32, 2) := by decide +kernel
theorem dX2_chosen_33 : decode cX2_chosen 33 = .ok (.if_icmp .lt 29, 3) := by decide +kernel
theorem dX2_chosen_36 : decode cX2_chosen 36 = .ok (.iload 5, 2) := by decide +kernel
theorem dX2_chosen_38 : decode cX2_chosen 38 = .ok (.iconst (-1), 1) := by decide +kernel
theorem dX2_chosen_39 : decode cX2_chosen 39 = .ok (.if_icmp .eq 15, 3) := by decide +kernel
theorem dX2_chosen_42 : decode cX2_chosen 42 = .ok (.iload 4, 2) := by decide +kernel
theorem dX2_chosen_44 : decode cX2_chosen 44 = .ok (.ifCond .eq 18, 3) := by decide +kernel
theorem dX2_chosen_47 : decode cX2_chosen 47 = .ok (.iload 8, 2) := by decide +kernel
theorem dX2_chosen_49 : decode cX2_chosen 49 = .ok (.iload 6, 2) := by decide +kernel
theorem dX2_chosen_51 : decode cX2_chosen 51 = .ok (.if_icmp .ge 11, 3) := by decide +kernel
theorem dX2_chosen_54 : decode cX2_chosen 54 = .ok (.iload 7, 2) := by decide +kernel
theorem dX2_chosen_56 : decode cX2_chosen 56 = .ok (.istore 5, 2) := by decide +kernel
theorem dX2_chosen_58 : decode cX2_chosen 58 = .ok (.iload 8, 2) := by decide +kernel
theorem dX2_chosen_60 : decode cX2_chosen 60 = .ok (.istore 6, 2) := by decide +kernel
theorem dX2_chosen_62 : decode cX2_chosen 62 = .ok (.iinc 7 1, 3) := by decide +kernel
theorem dX2_chosen_65 : decode cX2_chosen 65 = .ok (.goto (-54), 3) := by decide +kernel
theorem dX2_chosen_68 : decode cX2_chosen 68 = .ok (.iload 5, 2) := by decide +kernel
theorem dX2_chosen_70 : decode cX2_chosen 70 = .ok (.ireturn, 1) := by decide +kernel
theorem dX2_allStruck_0 : decode cX2_allStruck 0 = .ok (.lload_n 1, 1) := by decide +kernel
theorem dX2_allStruck_1 : decode cX2_allStruck 1 = .ok (.lstore 5, 2) := by decide +kernel
theorem dX2_allStruck_3 : decode cX2_allStruck 3 = .ok (.iconst 3, 1) := by decide +kernel
theorem dX2_allStruck_4 : decode cX2_allStruck 4 = .ok (.iload_n 3, 1) := by decide +kernel
theorem dX2_allStruck_5 : decode cX2_allStruck 5 = .ok (.imul, 1) := by decide +kernel
theorem dX2_allStruck_6 : decode cX2_allStruck 6 = .ok (.istore 7, 2) := by decide +kernel
theorem dX2_allStruck_8 : decode cX2_allStruck 8 = .ok (.iload 7, 2) := by decide +kernel
theorem dX2_allStruck_10 : decode cX2_allStruck 10 = .ok (.iconst 3, 1) := by decide +kernel
theorem dX2_allStruck_11 : decode cX2_allStruck 11 = .ok (.iload_n 3, 1) := by decide +kernel
theorem dX2_allStruck_12 : decode cX2_allStruck 12 = .ok (.imul, 1) := by decide +kernel
theorem dX2_allStruck_13 : decode cX2_allStruck 13 = .ok (.iconst 3, 1) := by decide +kernel
theorem dX2_allStruck_14 : decode cX2_allStruck 14 = .ok (.iadd, 1) := by decide +kernel
theorem dX2_allStruck_15 : decode cX2_allStruck 15 = .ok (.if_icmp .ge 31, 3) := by decide +kernel
theorem dX2_allStruck_18 : decode cX2_allStruck 18 = .ok (.lload_n 1, 1) := by decide +kernel
theorem dX2_allStruck_19 : decode cX2_allStruck 19 = .ok (.iload 7, 2) := by decide +kernel
theorem dX2_allStruck_21 : decode cX2_allStruck 21 = .ok (.invokestatic 56, 3) := by decide +kernel
theorem dX2_allStruck_24 : decode cX2_allStruck 24 = .ok (.bipush 32, 2) := by decide +kernel
theorem dX2_allStruck_26 : decode cX2_allStruck 26 = .ok (.if_icmp .lt 14, 3) := by decide +kernel
theorem dX2_allStruck_29 : decode cX2_allStruck 29 = .ok (.lload 5, 2) := by decide +kernel
theorem dX2_allStruck_31 : decode cX2_allStruck 31 = .ok (.iload 7, 2) := by decide +kernel
theorem dX2_allStruck_33 : decode cX2_allStruck 33 = .ok (.iload 4, 2) := by decide +kernel
theorem dX2_allStruck_35 : decode cX2_allStruck 35 = .ok (.invokestatic 72, 3) := by decide +kernel
theorem dX2_allStruck_38 : decode cX2_allStruck 38 = .ok (.lstore 5, 2) := by decide +kernel
theorem dX2_allStruck_40 : decode cX2_allStruck 40 = .ok (.iinc 7 1, 3) := by decide +kernel
theorem dX2_allStruck_43 : decode cX2_allStruck 43 = .ok (.goto (-35), 3) := by decide +kernel
theorem dX2_allStruck_46 : decode cX2_allStruck 46 = .ok (.lload 5, 2) := by decide +kernel
theorem dX2_allStruck_48 : decode cX2_allStruck 48 = .ok (.lreturn, 1) := by decide +kernel
theorem dX2_struck_0 : decode cX2_struck 0 = .ok (.iload_n 2, 1) := by decide +kernel
theorem dX2_struck_1 : decode cX2_struck 1 = .ok (.ifCond .ge 5, 3) := by decide +kernel
theorem dX2_struck_4 : decode cX2_struck 4 = .ok (.lload_n 0, 1) := by decide +kernel
theorem dX2_struck_5 : decode cX2_struck 5 = .ok (.lreturn, 1) := by decide +kernel
theorem dX2_struck_6 : decode cX2_struck 6 = .ok (.bipush 6, 2) := by decide +kernel
theorem dX2_struck_8 : decode cX2_struck 8 = .ok (.iload_n 2, 1) := by decide +kernel
theorem dX2_struck_9 : decode cX2_struck 9 = .ok (.imul, 1) := by decide +kernel
theorem dX2_struck_10 : decode cX2_struck 10 = .ok (.istore 4, 2) := by decide +kernel
theorem dX2_struck_12 : decode cX2_struck 12 = .ok (.lload_n 0, 1) := by decide +kernel
theorem dX2_struck_13 : decode cX2_struck 13 = .ok (.iload 4, 2) := by decide +kernel
theorem dX2_struck_15 : decode cX2_struck 15 = .ok (.lushr, 1) := by decide +kernel
theorem dX2_struck_16 : decode cX2_struck 16 = .ok (.ldc2_w 82, 3) := by decide +kernel
theorem dX2_struck_19 : decode cX2_struck 19 = .ok (.land, 1) := by decide +kernel
theorem dX2_struck_20 : decode cX2_struck 20 = .ok (.l2i, 1) := by decide +kernel
theorem dX2_struck_21 : decode cX2_struck 21 = .ok (.iload_n 3, 1) := by decide +kernel
theorem dX2_struck_22 : decode cX2_struck 22 = .ok (.if_icmp .gt 7, 3) := by decide +kernel
theorem dX2_struck_25 : decode cX2_struck 25 = .ok (.iconst 1, 1) := by decide +kernel
theorem dX2_struck_26 : decode cX2_struck 26 = .ok (.goto 4, 3) := by decide +kernel
theorem dX2_struck_29 : decode cX2_struck 29 = .ok (.iconst 0, 1) := by decide +kernel
theorem dX2_struck_30 : decode cX2_struck 30 = .ok (.istore 5, 2) := by decide +kernel
theorem dX2_struck_32 : decode cX2_struck 32 = .ok (.iload 5, 2) := by decide +kernel
theorem dX2_struck_34 : decode cX2_struck 34 = .ok (.ifCond .eq 18, 3) := by decide +kernel
theorem dX2_struck_37 : decode cX2_struck 37 = .ok (.lload_n 0, 1) := by decide +kernel
theorem dX2_struck_38 : decode cX2_struck 38 = .ok (.ldc2_w 84, 3) := by decide +kernel
theorem dX2_struck_41 : decode cX2_struck 41 = .ok (.iload 4, 2) := by decide +kernel
theorem dX2_struck_43 : decode cX2_struck 43 = .ok (.lshl, 1) := by decide +kernel
theorem dX2_struck_44 : decode cX2_struck 44 = .ok (.ldc2_w 66, 3) := by decide +kernel
theorem dX2_struck_47 : decode cX2_struck 47 = .ok (.lxor, 1) := by decide +kernel
theorem dX2_struck_48 : decode cX2_struck 48 = .ok (.land, 1) := by decide +kernel
theorem dX2_struck_49 : decode cX2_struck 49 = .ok (.goto 10, 3) := by decide +kernel
theorem dX2_struck_52 : decode cX2_struck 52 = .ok (.lload_n 0, 1) := by decide +kernel
theorem dX2_struck_53 : decode cX2_struck 53 = .ok (.iload_n 3, 1) := by decide +kernel
theorem dX2_struck_54 : decode cX2_struck 54 = .ok (.i2l, 1) := by decide +kernel
theorem dX2_struck_55 : decode cX2_struck 55 = .ok (.iload 4, 2) := by decide +kernel
theorem dX2_struck_57 : decode cX2_struck 57 = .ok (.lshl, 1) := by decide +kernel
theorem dX2_struck_58 : decode cX2_struck 58 = .ok (.lsub, 1) := by decide +kernel
theorem dX2_struck_59 : decode cX2_struck 59 = .ok (.lreturn, 1) := by decide +kernel
theorem dX2_healed_0 : decode cX2_healed 0 = .ok (.iload_n 3, 1) := by decide +kernel
theorem dX2_healed_1 : decode cX2_healed 1 = .ok (.ifCond .lt 9, 3) := by decide +kernel
theorem dX2_healed_4 : decode cX2_healed 4 = .ok (.iload_n 3, 1) := by decide +kernel
theorem dX2_healed_5 : decode cX2_healed 5 = .ok (.bipush 6, 2) := by decide +kernel
theorem dX2_healed_7 : decode cX2_healed 7 = .ok (.if_icmp .lt 5, 3) := by decide +kernel
theorem dX2_healed_10 : decode cX2_healed 10 = .ok (.lload_n 1, 1) := by decide +kernel
theorem dX2_healed_11 : decode cX2_healed 11 = .ok (.lreturn, 1) := by decide +kernel
theorem dX2_healed_12 : decode cX2_healed 12 = .ok (.aload_n 0, 1) := by decide +kernel
theorem dX2_healed_13 : decode cX2_healed 13 = .ok (.getfield 15, 3) := by decide +kernel
theorem dX2_healed_16 : decode cX2_healed 16 = .ok (.iload_n 3, 1) := by decide +kernel
theorem dX2_healed_17 : decode cX2_healed 17 = .ok (.iaload, 1) := by decide +kernel
theorem dX2_healed_18 : decode cX2_healed 18 = .ok (.lload_n 1, 1) := by decide +kernel
theorem dX2_healed_19 : decode cX2_healed 19 = .ok (.iload_n 3, 1) := by decide +kernel
theorem dX2_healed_20 : decode cX2_healed 20 = .ok (.invokestatic 56, 3) := by decide +kernel
theorem dX2_healed_23 : decode cX2_healed 23 = .ok (.invokestatic 60, 3) := by decide +kernel
theorem dX2_healed_26 : decode cX2_healed 26 = .ok (.isub, 1) := by decide +kernel
theorem dX2_healed_27 : decode cX2_healed 27 = .ok (.istore 5, 2) := by decide +kernel
theorem dX2_healed_29 : decode cX2_healed 29 = .ok (.lload_n 1, 1) := by decide +kernel
theorem dX2_healed_30 : decode cX2_healed 30 = .ok (.iload 4, 2) := by decide +kernel
theorem dX2_healed_32 : decode cX2_healed 32 = .ok (.iload 5, 2) := by decide +kernel
theorem dX2_healed_34 : decode cX2_healed 34 = .ok (.invokestatic 86, 3) := by decide +kernel
theorem dX2_healed_37 : decode cX2_healed 37 = .ok (.i2l, 1) := by decide +kernel
theorem dX2_healed_38 : decode cX2_healed 38 = .ok (.bipush 6, 2) := by decide +kernel
theorem dX2_healed_40 : decode cX2_healed 40 = .ok (.iload_n 3, 1) := by decide +kernel
theorem dX2_healed_41 : decode cX2_healed 41 = .ok (.imul, 1) := by decide +kernel
theorem dX2_healed_42 : decode cX2_healed 42 = .ok (.lshl, 1) := by decide +kernel
theorem dX2_healed_43 : decode cX2_healed 43 = .ok (.ladd, 1) := by decide +kernel
theorem dX2_healed_44 : decode cX2_healed 44 = .ok (.lreturn, 1) := by decide +kernel
theorem dX3_init_0 : decode cX3_init 0 = .ok (.aload_n 0, 1) := by decide +kernel
theorem dX3_init_1 : decode cX3_init 1 = .ok (.invokespecial 3, 3) := by decide +kernel
theorem dX3_init_4 : decode cX3_init 4 = .ok (.aload_n 0, 1) := by decide +kernel
theorem dX3_init_5 : decode cX3_init 5 = .ok (.sipush 400, 3) := by decide +kernel
theorem dX3_init_8 : decode cX3_init 8 = .ok (.newarray .long, 2) := by decide +kernel
theorem dX3_init_10 : decode cX3_init 10 = .ok (.putfield 9, 3) := by decide +kernel
theorem dX3_init_13 : decode cX3_init 13 = .ok (.aload_n 0, 1) := by decide +kernel
theorem dX3_init_14 : decode cX3_init 14 = .ok (.sipush 400, 3) := by decide +kernel
theorem dX3_init_17 : decode cX3_init 17 = .ok (.newarray .long, 2) := by decide +kernel
theorem dX3_init_19 : decode cX3_init 19 = .ok (.putfield 15, 3) := by decide +kernel
theorem dX3_init_22 : decode cX3_init 22 = .ok (.aload_n 0, 1) := by decide +kernel
theorem dX3_init_23 : decode cX3_init 23 = .ok (.iconst 0, 1) := by decide +kernel
theorem dX3_init_24 : decode cX3_init 24 = .ok (.putfield 18, 3) := by decide +kernel
theorem dX3_init_27 : decode cX3_init 27 = .ok (.aload_n 0, 1) := by decide +kernel
theorem dX3_init_28 : decode cX3_init 28 = .ok (.sipush 400, 3) := by decide +kernel
theorem dX3_init_31 : decode cX3_init 31 = .ok (.newarray .int, 2) := by decide +kernel
theorem dX3_init_33 : decode cX3_init 33 = .ok (.putfield 22, 3) := by decide +kernel
theorem dX3_init_36 : decode cX3_init 36 = .ok (.aload_n 0, 1) := by decide +kernel
theorem dX3_init_37 : decode cX3_init 37 = .ok (.sipush 1024, 3) := by decide +kernel
theorem dX3_init_40 : decode cX3_init 40 = .ok (.newarray .int, 2) := by decide +kernel
theorem dX3_init_42 : decode cX3_init 42 = .ok (.putfield 26, 3) := by decide +kernel
theorem dX3_init_45 : decode cX3_init 45 = .ok (.return_, 1) := by decide +kernel
theorem dX3_empty_0 : decode cX3_empty 0 = .ok (.iconst 0, 1) := by decide +kernel
theorem dX3_empty_1 : decode cX3_empty 1 = .ok (.istore_n 1, 1) := by decide +kernel
theorem dX3_empty_2 : decode cX3_empty 2 = .ok (.iload_n 1, 1) := by decide +kernel
theorem dX3_empty_3 : decode cX3_empty 3 = .ok (.aload_n 0, 1) := by decide +kernel
theorem dX3_empty_4 : decode cX3_empty 4 = .ok (.getfield 18, 3) := by decide +kernel
theorem dX3_empty_7 : decode cX3_empty 7 = .ok (.if_icmp .ge 21, 3) := by decide +kernel
theorem dX3_empty_10 : decode cX3_empty 10 = .ok (.aload_n 0, 1) := by decide +kernel
theorem dX3_empty_11 : decode cX3_empty 11 = .ok (.getfield 26, 3) := by decide +kernel
theorem dX3_empty_14 : decode cX3_empty 14 = .ok (.aload_n 0, 1) := by decide +kernel
theorem dX3_empty_15 : decode cX3_empty 15 = .ok (.getfield 22, 3) := by decide +kernel
theorem dX3_empty_18 : decode cX3_empty 18 = .ok (.iload_n 1, 1) := by decide +kernel
theorem dX3_empty_19 : decode cX3_empty 19 = .ok (.iaload, 1) := by decide +kernel
theorem dX3_empty_20 : decode cX3_empty 20 = .ok (.iconst 0, 1) := by decide +kernel
theorem dX3_empty_21 : decode cX3_empty 21 = .ok (.iastore, 1) := by decide +kernel
theorem dX3_empty_22 : decode cX3_empty 22 = .ok (.iinc 1 1, 3) := by decide +kernel
theorem dX3_empty_25 : decode cX3_empty 25 = .ok (.goto (-23), 3) := by decide +kernel
theorem dX3_empty_28 : decode cX3_empty 28 = .ok (.aload_n 0, 1) := by decide +kernel
theorem dX3_empty_29 : decode cX3_empty 29 = .ok (.iconst 0, 1) := by decide +kernel
theorem dX3_empty_30 : decode cX3_empty 30 = .ok (.putfield 18, 3) := by decide +kernel
theorem dX3_empty_33 : decode cX3_empty 33 = .ok (.return_, 1) := by decide +kernel
theorem dX3_join_0 : decode cX3_join 0 = .ok (.lload_n 1, 1) := by decide +kernel
theorem dX3_join_1 : decode cX3_join 1 = .ok (.ldc2_w 29, 3) := by decide +kernel
theorem dX3_join_4 : decode cX3_join 4 = .ok (.lmul, 1) := by decide +kernel
theorem dX3_join_5 : decode cX3_join 5 = .ok (.bipush 54, 2) := by decide +kernel
theorem dX3_join_7 : decode cX3_join 7 = .ok (.lushr, 1) := by decide +kernel
theorem dX3_join_8 : decode cX3_join 8 = .ok (.l2i, 1) := by decide +kernel
theorem dX3_join_9 : decode cX3_join 9 = .ok (.istore 5, 2) := by decide +kernel
theorem dX3_join_11 : decode cX3_join 11 = .ok (.iconst 0, 1) := by decide +kernel
theorem dX3_join_12 : decode cX3_join 12 = .ok (.istore 6, 2) := by decide +kernel
theorem dX3_join_14 : decode cX3_join 14 = .ok (.iload 6, 2) := by decide +kernel
theorem dX3_join_16 : decode cX3_join 16 = .ok (.sipush 1024, 3) := by decide +kernel
theorem dX3_join_19 : decode cX3_join 19 = .ok (.if_icmp .ge 74, 3) := by decide +kernel
theorem dX3_join_22 : decode cX3_join 22 = .ok (.aload_n 0, 1) := by decide +kernel
theorem dX3_join_23 : decode cX3_join 23 = .ok (.getfield 26, 3) := by decide +kernel
theorem dX3_join_26 : decode cX3_join 26 = .ok (.iload 5, 2) := by decide +kernel
theorem dX3_join_28 : decode cX3_join 28 = .ok (.iaload, 1) := by decide +kernel
theorem dX3_join_29 : decode cX3_join 29 = .ok (.iconst 1, 1) := by decide +kernel
theorem dX3_join_30 : decode cX3_join 30 = .ok (.isub, 1) := by decide +kernel
theorem dX3_join_31 : decode cX3_join 31 = .ok (.istore 7, 2) := by decide +kernel
theorem dX3_join_33 : decode cX3_join 33 = .ok (.iload 7, 2) := by decide +kernel
theorem dX3_join_35 : decode cX3_join 35 = .ok (.ifCond .lt 28, 3) := by decide +kernel
theorem dX3_join_38 : decode cX3_join 38 = .ok (.aload_n 0, 1) := by decide +kernel
theorem dX3_join_39 : decode cX3_join 39 = .ok (.getfield 9, 3) := by decide +kernel
theorem dX3_join_42 : decode cX3_join 42 = .ok (.iload 7, 2) := by decide +kernel
theorem dX3_join_44 : decode cX3_join 44 = .ok (.laload, 1) := by decide +kernel
theorem dX3_join_45 : decode cX3_join 45 = .ok (.lload_n 1, 1) := by decide +kernel
theorem dX3_join_46 : decode cX3_join 46 = .ok (.lcmp, 1) := by decide +kernel
theorem dX3_join_47 : decode cX3_join 47 = .ok (.ifCond .ne 16, 3) := by decide +kernel
theorem dX3_join_50 : decode cX3_join 50 = .ok (.aload_n 0, 1) := by decide +kernel
theorem dX3_join_51 : decode cX3_join 51 = .ok (.getfield 15, 3) := by decide +kernel
theorem dX3_join_54 : decode cX3_join 54 = .ok (.iload 7, 2) := by decide +kernel
theorem dX3_join_56 : decode cX3_join 56 = .ok (.dup2, 1) := by decide +kernel
theorem dX3_join_57 : decode cX3_join 57 = .ok (.laload, 1) := by decide +kernel
theorem dX3_join_58 : decode cX3_join 58 = .ok (.lload_n 3, 1) := by decide +kernel
theorem dX3_join_59 : decode cX3_join 59 = .ok (.ladd, 1) := by decide +kernel
theorem dX3_join_60 : decode cX3_join 60 = .ok (.lastore, 1) := by decide +kernel
theorem dX3_join_61 : decode cX3_join 61 = .ok (.iconst 1, 1) := by decide +kernel
theorem dX3_join_62 : decode cX3_join 62 = .ok (.ireturn, 1) := by decide +kernel
theorem dX3_join_63 : decode cX3_join 63 = .ok (.iload 7, 2) := by decide +kernel
theorem dX3_join_65 : decode cX3_join 65 = .ok (.ifCond .ge 12, 3) := by decide +kernel
theorem dX3_join_68 : decode cX3_join 68 = .ok (.aload_n 0, 1) := by decide +kernel
theorem dX3_join_69 : decode cX3_join 69 = .ok (.iload 5, 2) := by decide +kernel
theorem dX3_join_71 : decode cX3_join 71 = .ok (.lload_n 1, 1) := by decide +kernel
theorem dX3_join_72 : decode cX3_join 72 = .ok (.lload_n 3, 1) := by decide +kernel
theorem dX3_join_73 : decode cX3_join 73 = .ok (.invokevirtual 31, 3) := by decide +kernel
theorem dX3_join_76 : decode cX3_join 76 = .ok (.ireturn, 1) := by decide +kernel
theorem dX3_join_77 : decode cX3_join 77 = .ok (.iload 5, 2) := by decide +kernel
theorem dX3_join_79 : decode cX3_join 79 = .ok (.iconst 1, 1) := by decide +kernel
theorem dX3_join_80 : decode cX3_join 80 = .ok (.iadd, 1) := by decide +kernel
theorem dX3_join_81 : decode cX3_join 81 = .ok (.sipush 1024, 3) := by decide +kernel
theorem dX3_join_84 : decode cX3_join 84 = .ok (.irem, 1) := by decide +kernel
theorem dX3_join_85 : decode cX3_join 85 = .ok (.istore 5, 2) := by decide +kernel
theorem dX3_join_87 : decode cX3_join 87 = .ok (.iinc 6 1, 3) := by decide +kernel
theorem dX3_join_90 : decode cX3_join 90 = .ok (.goto (-76), 3) := by decide +kernel
theorem dX3_join_93 : decode cX3_join 93 = .ok (.iconst 0, 1) := by decide +kernel
theorem dX3_join_94 : decode cX3_join 94 = .ok (.ireturn, 1) := by decide +kernel
theorem dX3_joinNew_0 : decode cX3_joinNew 0 = .ok (.aload_n 0, 1) := by decide +kernel
theorem dX3_joinNew_1 : decode cX3_joinNew 1 = .ok (.getfield 18, 3) := by decide +kernel
theorem dX3_joinNew_4 : decode cX3_joinNew 4 = .ok (.sipush 400, 3) := by decide +kernel
theorem dX3_joinNew_7 : decode cX3_joinNew 7 = .ok (.if_icmp .lt 5, 3) := by decide +kernel
theorem dX3_joinNew_10 : decode cX3_joinNew 10 = .ok (.iconst 0, 1) := by decide +kernel
theorem dX3_joinNew_11 : decode cX3_joinNew 11 = .ok (.ireturn, 1) := by decide +kernel
theorem dX3_joinNew_12 : decode cX3_joinNew 12 = .ok (.aload_n 0, 1) := by decide +kernel
theorem dX3_joinNew_13 : decode cX3_joinNew 13 = .ok (.getfield 9, 3) := by decide +kernel
theorem dX3_joinNew_16 : decode cX3_joinNew 16 = .ok (.aload_n 0, 1) := by decide +kernel
theorem dX3_joinNew_17 : decode cX3_joinNew 17 = .ok (.getfield 18, 3) := by decide +kernel
theorem dX3_joinNew_20 : decode cX3_joinNew 20 = .ok (.lload_n 2, 1) := by decide +kernel
theorem dX3_joinNew_21 : decode cX3_joinNew 21 = .ok (.lastore, 1) := by decide +kernel
theorem dX3_joinNew_22 : decode cX3_joinNew 22 = .ok (.aload_n 0, 1) := by decide +kernel
theorem dX3_joinNew_23 : decode cX3_joinNew 23 = .ok (.getfield 15, 3) := by decide +kernel
theorem dX3_joinNew_26 : decode cX3_joinNew 26 = .ok (.aload_n 0, 1) := by decide +kernel
theorem dX3_joinNew_27 : decode cX3_joinNew 27 = .ok (.getfield 18, 3) := by decide +kernel
theorem dX3_joinNew_30 : decode cX3_joinNew 30 = .ok (.lload 4, 2) := by decide +kernel
theorem dX3_joinNew_32 : decode cX3_joinNew 32 = .ok (.lastore, 1) := by decide +kernel
theorem dX3_joinNew_33 : decode cX3_joinNew 33 = .ok (.aload_n 0, 1) := by decide +kernel
theorem dX3_joinNew_34 : decode cX3_joinNew 34 = .ok (.getfield 22, 3) := by decide +kernel
theorem dX3_joinNew_37 : decode cX3_joinNew 37 = .ok (.aload_n 0, 1) := by decide +kernel
theorem dX3_joinNew_38 : decode cX3_joinNew 38 = .ok (.getfield 18, 3) := by decide +kernel
theorem dX3_joinNew_41 : decode cX3_joinNew 41 = .ok (.iload_n 1, 1) := by decide +kernel
theorem dX3_joinNew_42 : decode cX3_joinNew 42 = .ok (.iastore, 1) := by decide +kernel
theorem dX3_joinNew_43 : decode cX3_joinNew 43 = .ok (.aload_n 0, 1) := by decide +kernel
theorem dX3_joinNew_44 : decode cX3_joinNew 44 = .ok (.dup, 1) := by decide +kernel
theorem dX3_joinNew_45 : decode cX3_joinNew 45 = .ok (.getfield 18, 3) := by decide +kernel
theorem dX3_joinNew_48 : decode cX3_joinNew 48 = .ok (.iconst 1, 1) := by decide +kernel
theorem dX3_joinNew_49 : decode cX3_joinNew 49 = .ok (.iadd, 1) := by decide +kernel
theorem dX3_joinNew_50 : decode cX3_joinNew 50 = .ok (.putfield 18, 3) := by decide +kernel
theorem dX3_joinNew_53 : decode cX3_joinNew 53 = .ok (.aload_n 0, 1) := by decide +kernel
theorem dX3_joinNew_54 : decode cX3_joinNew 54 = .ok (.getfield 26, 3) := by decide +kernel
theorem dX3_joinNew_57 : decode cX3_joinNew 57 = .ok (.iload_n 1, 1) := by decide +kernel
theorem dX3_joinNew_58 : decode cX3_joinNew 58 = .ok (.aload_n 0, 1) := by decide +kernel
theorem dX3_joinNew_59 : decode cX3_joinNew 59 = .ok (.getfield 18, 3) := by decide +kernel
theorem dX3_joinNew_62 : decode cX3_joinNew 62 = .ok (.iastore, 1) := by decide +kernel
theorem dX3_joinNew_63 : decode cX3_joinNew 63 = .ok (.iconst 1, 1) := by decide +kernel
theorem dX3_joinNew_64 : decode cX3_joinNew 64 = .ok (.ireturn, 1) := by decide +kernel
theorem dX4_init_0 : decode cX4_init 0 = .ok (.aload_n 0, 1) := by decide +kernel
theorem dX4_init_1 : decode cX4_init 1 = .ok (.invokespecial 3, 3) := by decide +kernel
theorem dX4_init_4 : decode cX4_init 4 = .ok (.aload_n 0, 1) := by decide +kernel
theorem dX4_init_5 : decode cX4_init 5 = .ok (.lconst 1, 1) := by decide +kernel
theorem dX4_init_6 : decode cX4_init 6 = .ok (.putfield 9, 3) := by decide +kernel
theorem dX4_init_9 : decode cX4_init 9 = .ok (.aload_n 0, 1) := by decide +kernel
theorem dX4_init_10 : decode cX4_init 10 = .ok (.iconst 0, 1) := by decide +kernel
theorem dX4_init_11 : decode cX4_init 11 = .ok (.putfield 15, 3) := by decide +kernel
theorem dX4_init_14 : decode cX4_init 14 = .ok (.aload_n 0, 1) := by decide +kernel
theorem dX4_init_15 : decode cX4_init 15 = .ok (.iconst 3, 1) := by decide +kernel
theorem dX4_init_16 : decode cX4_init 16 = .ok (.newarray .long, 2) := by decide +kernel
theorem dX4_init_18 : decode cX4_init 18 = .ok (.putfield 19, 3) := by decide +kernel
theorem dX4_init_21 : decode cX4_init 21 = .ok (.aload_n 0, 1) := by decide +kernel
theorem dX4_init_22 : decode cX4_init 22 = .ok (.bipush 7, 2) := by decide +kernel
theorem dX4_init_24 : decode cX4_init 24 = .ok (.newarray .long, 2) := by decide +kernel
theorem dX4_init_26 : decode cX4_init 26 = .ok (.putfield 23, 3) := by decide +kernel
theorem dX4_init_29 : decode cX4_init 29 = .ok (.aload_n 0, 1) := by decide +kernel
theorem dX4_init_30 : decode cX4_init 30 = .ok (.sipush 384, 3) := by decide +kernel
theorem dX4_init_33 : decode cX4_init 33 = .ok (.newarray .long, 2) := by decide +kernel
theorem dX4_init_35 : decode cX4_init 35 = .ok (.putfield 26, 3) := by decide +kernel
theorem dX4_init_38 : decode cX4_init 38 = .ok (.aload_n 0, 1) := by decide +kernel
theorem dX4_init_39 : decode cX4_init 39 = .ok (.new 29, 3) := by decide +kernel
theorem dX4_init_42 : decode cX4_init 42 = .ok (.dup, 1) := by decide +kernel
theorem dX4_init_43 : decode cX4_init 43 = .ok (.invokespecial 31, 3) := by decide +kernel
theorem dX4_init_46 : decode cX4_init 46 = .ok (.putfield 32, 3) := by decide +kernel
theorem dX4_init_49 : decode cX4_init 49 = .ok (.aload_n 0, 1) := by decide +kernel
theorem dX4_init_50 : decode cX4_init 50 = .ok (.new 29, 3) := by decide +kernel
theorem dX4_init_53 : decode cX4_init 53 = .ok (.dup, 1) := by decide +kernel
theorem dX4_init_54 : decode cX4_init 54 = .ok (.invokespecial 31, 3) := by decide +kernel
theorem dX4_init_57 : decode cX4_init 57 = .ok (.putfield 36, 3) := by decide +kernel
theorem dX4_init_60 : decode cX4_init 60 = .ok (.aload_n 0, 1) := by decide +kernel
theorem dX4_init_61 : decode cX4_init 61 = .ok (.lconst 1, 1) := by decide +kernel
theorem dX4_init_62 : decode cX4_init 62 = .ok (.putfield 39, 3) := by decide +kernel
theorem dX4_init_65 : decode cX4_init 65 = .ok (.return_, 1) := by decide +kernel
theorem dX4_reckon_0 : decode cX4_reckon 0 = .ok (.aload_n 1, 1) := by decide +kernel
theorem dX4_reckon_1 : decode cX4_reckon 1 = .ok (.getfield 42, 3) := by decide +kernel
theorem dX4_reckon_4 : decode cX4_reckon 4 = .ok (.aload_n 1, 1) := by decide +kernel
theorem dX4_reckon_5 : decode cX4_reckon 5 = .ok (.getfield 47, 3) := by decide +kernel
theorem dX4_reckon_8 : decode cX4_reckon 8 = .ok (.imul, 1) := by decide +kernel
theorem dX4_reckon_9 : decode cX4_reckon 9 = .ok (.istore_n 2, 1) := by decide +kernel
theorem dX4_reckon_10 : decode cX4_reckon 10 = .ok (.iload_n 2, 1) := by decide +kernel
theorem dX4_reckon_11 : decode cX4_reckon 11 = .ok (.bipush 22, 2) := by decide +kernel
theorem dX4_reckon_13 : decode cX4_reckon 13 = .ok (.if_icmp .le 5, 3) := by decide +kernel
theorem dX4_reckon_16 : decode cX4_reckon 16 = .ok (.iconst 0, 1) := by decide +kernel
theorem dX4_reckon_17 : decode cX4_reckon 17 = .ok (.ireturn, 1) := by decide +kernel
theorem dX4_reckon_18 : decode cX4_reckon 18 = .ok (.aload_n 0, 1) := by decide +kernel
theorem dX4_reckon_19 : decode cX4_reckon 19 = .ok (.invokevirtual 50, 3) := by decide +kernel
theorem dX4_reckon_22 : decode cX4_reckon 22 = .ok (.aload_n 0, 1) := by decide +kernel
theorem dX4_reckon_23 : decode cX4_reckon 23 = .ok (.iload_n 2, 1) := by decide +kernel
theorem dX4_reckon_24 : decode cX4_reckon 24 = .ok (.invokestatic 53, 3) := by decide +kernel
theorem dX4_reckon_27 : decode cX4_reckon 27 = .ok (.putfield 9, 3) := by decide +kernel
theorem dX4_reckon_30 : decode cX4_reckon 30 = .ok (.aload_n 0, 1) := by decide +kernel
theorem dX4_reckon_31 : decode cX4_reckon 31 = .ok (.aload_n 0, 1) := by decide +kernel
theorem dX4_reckon_32 : decode cX4_reckon 32 = .ok (.getfield 9, 3) := by decide +kernel
theorem dX4_reckon_35 : decode cX4_reckon 35 = .ok (.putfield 39, 3) := by decide +kernel
theorem dX4_reckon_38 : decode cX4_reckon 38 = .ok (.aload_n 1, 1) := by decide +kernel
theorem dX4_reckon_39 : decode cX4_reckon 39 = .ok (.invokevirtual 57, 3) := by decide +kernel
theorem dX4_reckon_42 : decode cX4_reckon 42 = .ok (.lstore_n 3, 1) := by decide +kernel
theorem dX4_reckon_43 : decode cX4_reckon 43 = .ok (.lload_n 3, 1) := by decide +kernel
theorem dX4_reckon_44 : decode cX4_reckon 44 = .ok (.invokestatic 61, 3) := by decide +kernel
theorem dX4_reckon_47 : decode cX4_reckon 47 = .ok (.istore 5, 2) := by decide +kernel
theorem dX4_reckon_49 : decode cX4_reckon 49 = .ok (.iload 5, 2) := by decide +kernel
theorem dX4_reckon_51 : decode cX4_reckon 51 = .ok (.iconst (-1), 1) := by decide +kernel
theorem dX4_reckon_52 : decode cX4_reckon 52 = .ok (.if_icmp .eq 23, 3) := by decide +kernel
theorem dX4_reckon_55 : decode cX4_reckon 55 = .ok (.aload_n 0, 1) := by decide +kernel
theorem dX4_reckon_56 : decode cX4_reckon 56 = .ok (.lconst 1, 1) := by decide +kernel
theorem dX4_reckon_57 : decode cX4_reckon 57 = .ok (.putfield 39, 3) := by decide +kernel
theorem dX4_reckon_60 : decode cX4_reckon 60 = .ok (.aload_n 0, 1) := by decide +kernel
theorem dX4_reckon_61 : decode cX4_reckon 61 = .ok (.aload_n 1, 1) := by decide +kernel
theorem dX4_reckon_62 : decode cX4_reckon 62 = .ok (.lload_n 3, 1) := by decide +kernel
theorem dX4_reckon_63 : decode cX4_reckon 63 = .ok (.aload_n 0, 1) := by decide +kernel
theorem dX4_reckon_64 : decode cX4_reckon 64 = .ok (.getfield 9, 3) := by decide +kernel
theorem dX4_reckon_67 : decode cX4_reckon 67 = .ok (.iload 5, 2) := by decide +kernel
theorem dX4_reckon_69 : decode cX4_reckon 69 = .ok (.iconst 0, 1) := by decide +kernel
theorem dX4_reckon_70 : decode cX4_reckon 70 = .ok (.invokevirtual 65, 3) := by decide +kernel
theorem dX4_reckon_73 : decode cX4_reckon 73 = .ok (.iconst 1, 1) := by decide +kernel
theorem dX4_reckon_74 : decode cX4_reckon 74 = .ok (.ireturn, 1) := by decide +kernel
theorem dX4_reckon_75 : decode cX4_reckon 75 = .ok (.aload_n 0, 1) := by decide +kernel
theorem dX4_reckon_76 : decode cX4_reckon 76 = .ok (.getfield 32, 3) := by decide +kernel
theorem dX4_reckon_79 : decode cX4_reckon 79 = .ok (.lload_n 3, 1) := by decide +kernel
theorem dX4_reckon_80 : decode cX4_reckon 80 = .ok (.lconst 1, 1) := by decide +kernel
theorem dX4_reckon_81 : decode cX4_reckon 81 = .ok (.invokevirtual 69, 3) := by decide +kernel
theorem dX4_reckon_84 : decode cX4_reckon 84 = .ok (.pop, 1) := by decide +kernel
theorem dX4_reckon_85 : decode cX4_reckon 85 = .ok (.iconst 1, 1) := by decide +kernel
theorem dX4_reckon_86 : decode cX4_reckon 86 = .ok (.istore 6, 2) := by decide +kernel
theorem dX4_reckon_88 : decode cX4_reckon 88 = .ok (.iload 6, 2) := by decide +kernel
theorem dX4_reckon_90 : decode cX4_reckon 90 = .ok (.aload_n 1, 1) := by decide +kernel
theorem dX4_reckon_91 : decode cX4_reckon 91 = .ok (.getfield 42, 3) := by decide +kernel
theorem dX4_reckon_94 : decode cX4_reckon 94 = .ok (.if_icmp .gt 105, 3) := by decide +kernel
theorem dX4_reckon_97 : decode cX4_reckon 97 = .ok (.iconst 0, 1) := by decide +kernel
theorem dX4_reckon_98 : decode cX4_reckon 98 = .ok (.istore 7, 2) := by decide +kernel
theorem dX4_reckon_100 : decode cX4_reckon 100 = .ok (.iload 7, 2) := by decide +kernel
theorem dX4_reckon_102 : decode cX4_reckon 102 = .ok (.aload_n 1, 1) := by decide +kernel
theorem dX4_reckon_103 : decode cX4_reckon 103 = .ok (.getfield 47, 3) := by decide +kernel
theorem dX4_reckon_106 : decode cX4_reckon 106 = .ok (.if_icmp .ge 87, 3) := by decide +kernel
theorem dX4_reckon_109 : decode cX4_reckon 109 = .ok (.aload_n 0, 1) := by decide +kernel
theorem dX4_reckon_110 : decode cX4_reckon 110 = .ok (.aload_n 0, 1) := by decide +kernel
theorem dX4_reckon_111 : decode cX4_reckon 111 = .ok (.getfield 15, 3) := by decide +kernel
theorem dX4_reckon_114 : decode cX4_reckon 114 = .ok (.aload_n 0, 1) := by decide +kernel
theorem dX4_reckon_115 : decode cX4_reckon 115 = .ok (.getfield 32, 3) := by decide +kernel
theorem dX4_reckon_118 : decode cX4_reckon 118 = .ok (.getfield 73, 3) := by decide +kernel
theorem dX4_reckon_121 : decode cX4_reckon 121 = .ok (.invokestatic 74, 3) := by decide +kernel
theorem dX4_reckon_124 : decode cX4_reckon 124 = .ok (.putfield 15, 3) := by decide +kernel
theorem dX4_reckon_127 : decode cX4_reckon 127 = .ok (.aload_n 0, 1) := by decide +kernel
theorem dX4_reckon_128 : decode cX4_reckon 128 = .ok (.dup, 1) := by decide +kernel
theorem dX4_reckon_129 : decode cX4_reckon 129 = .ok (.getfield 39, 3) := by decide +kernel
theorem dX4_reckon_132 : decode cX4_reckon 132 = .ok (.ldc2_w 80, 3) := by decide +kernel
theorem dX4_reckon_135 : decode cX4_reckon 135 = .ok (.ldiv, 1) := by decide +kernel
theorem dX4_reckon_136 : decode cX4_reckon 136 = .ok (.putfield 39, 3) := by decide +kernel
theorem dX4_reckon_139 : decode cX4_reckon 139 = .ok (.iload 6, 2) := by decide +kernel
theorem dX4_reckon_141 : decode cX4_reckon 141 = .ok (.aload_n 1, 1) := by decide +kernel
theorem dX4_reckon_142 : decode cX4_reckon 142 = .ok (.getfield 42, 3) := by decide +kernel
theorem dX4_reckon_145 : decode cX4_reckon 145 = .ok (.if_icmp .ne 18, 3) := by decide +kernel
theorem dX4_reckon_148 : decode cX4_reckon 148 = .ok (.iload 7, 2) := by decide +kernel
theorem dX4_reckon_150 : decode cX4_reckon 150 = .ok (.aload_n 1, 1) := by decide +kernel
theorem dX4_reckon_151 : decode cX4_reckon 151 = .ok (.getfield 47, 3) := by decide +kernel
theorem dX4_reckon_154 : decode cX4_reckon 154 = .ok (.iconst 1, 1) := by decide +kernel
theorem dX4_reckon_155 : decode cX4_reckon 155 = .ok (.isub, 1) := by decide +kernel
theorem dX4_reckon_156 : decode cX4_reckon 156 = .ok (.if_icmp .ne 7, 3) := by decide +kernel
theorem dX4_reckon_159 : decode cX4_reckon 159 = .ok (.iconst 1, 1) := by decide +kernel
theorem dX4_reckon_160 : decode cX4_reckon 160 = .ok (.goto 4, 3) := by decide +kernel
theorem dX4_reckon_163 : decode cX4_reckon 163 = .ok (.iconst 0, 1) := by decide +kernel
theorem dX4_reckon_164 : decode cX4_reckon 164 = .ok (.istore 8, 2) := by decide +kernel
theorem dX4_reckon_166 : decode cX4_reckon 166 = .ok (.aload_n 0, 1) := by decide +kernel
theorem dX4_reckon_167 : decode cX4_reckon 167 = .ok (.aload_n 1, 1) := by decide +kernel
theorem dX4_reckon_168 : decode cX4_reckon 168 = .ok (.aload_n 1, 1) := by decide +kernel
theorem dX4_reckon_169 : decode cX4_reckon 169 = .ok (.getfield 82, 3) := by decide +kernel
theorem dX4_reckon_172 : decode cX4_reckon 172 = .ok (.iload 7, 2) := by decide +kernel
theorem dX4_reckon_174 : decode cX4_reckon 174 = .ok (.iaload, 1) := by decide +kernel
theorem dX4_reckon_175 : decode cX4_reckon 175 = .ok (.iload 6, 2) := by decide +kernel
theorem dX4_reckon_177 : decode cX4_reckon 177 = .ok (.iload 8, 2) := by decide +kernel
theorem dX4_reckon_179 : decode cX4_reckon 179 = .ok (.invokevirtual 86, 3) := by decide +kernel
theorem dX4_reckon_182 : decode cX4_reckon 182 = .ok (.ifCond .ne 5, 3) := by decide +kernel
theorem dX4_reckon_185 : decode cX4_reckon 185 = .ok (.iconst 0, 1) := by decide +kernel
theorem dX4_reckon_186 : decode cX4_reckon 186 = .ok (.ireturn, 1) := by decide +kernel
theorem dX4_reckon_187 : decode cX4_reckon 187 = .ok (.iinc 7 1, 3) := by decide +kernel
theorem dX4_reckon_190 : decode cX4_reckon 190 = .ok (.goto (-90), 3) := by decide +kernel
theorem dX4_reckon_193 : decode cX4_reckon 193 = .ok (.iinc 6 1, 3) := by decide +kernel
theorem dX4_reckon_196 : decode cX4_reckon 196 = .ok (.goto (-108), 3) := by decide +kernel
theorem dX4_reckon_199 : decode cX4_reckon 199 = .ok (.iconst 1, 1) := by decide +kernel
theorem dX4_reckon_200 : decode cX4_reckon 200 = .ok (.ireturn, 1) := by decide +kernel
theorem dX4_waysLeft_0 : decode cX4_waysLeft 0 = .ok (.bipush 64, 2) := by decide +kernel
theorem dX4_waysLeft_2 : decode cX4_waysLeft 2 = .ok (.iload_n 1, 1) := by decide +kernel
theorem dX4_waysLeft_3 : decode cX4_waysLeft 3 = .ok (.imul, 1) := by decide +kernel
theorem dX4_waysLeft_4 : decode cX4_waysLeft 4 = .ok (.iload_n 2, 1) := by decide +kernel
theorem dX4_waysLeft_5 : decode cX4_waysLeft 5 = .ok (.iadd, 1) := by decide +kernel
theorem dX4_waysLeft_6 : decode cX4_waysLeft 6 = .ok (.iload_n 3, 1) := by decide +kernel
theorem dX4_waysLeft_7 : decode cX4_waysLeft 7 = .ok (.ifCond .eq 8, 3) := by decide +kernel
theorem dX4_waysLeft_10 : decode cX4_waysLeft 10 = .ok (.bipush 32, 2) := by decide +kernel
theorem dX4_waysLeft_12 : decode cX4_waysLeft 12 = .ok (.goto 4, 3) := by decide +kernel
theorem dX4_waysLeft_15 : decode cX4_waysLeft 15 = .ok (.iconst 0, 1) := by decide +kernel
theorem dX4_waysLeft_16 : decode cX4_waysLeft 16 = .ok (.iadd, 1) := by decide +kernel
theorem dX4_waysLeft_17 : decode cX4_waysLeft 17 = .ok (.istore 4, 2) := by decide +kernel
theorem dX4_waysLeft_19 : decode cX4_waysLeft 19 = .ok (.iload 4, 2) := by decide +kernel
theorem dX4_waysLeft_21 : decode cX4_waysLeft 21 = .ok (.ifCond .lt 23, 3) := by decide +kernel
theorem dX4_waysLeft_24 : decode cX4_waysLeft 24 = .ok (.iload 4, 2) := by decide +kernel
theorem dX4_waysLeft_26 : decode cX4_waysLeft 26 = .ok (.aload_n 0, 1) := by decide +kernel
theorem dX4_waysLeft_27 : decode cX4_waysLeft 27 = .ok (.getfield 26, 3) := by decide +kernel
theorem dX4_waysLeft_30 : decode cX4_waysLeft 30 = .ok (.arraylength, 1) := by decide +kernel
theorem dX4_waysLeft_31 : decode cX4_waysLeft 31 = .ok (.if_icmp .ge 13, 3) := by decide +kernel
theorem dX4_waysLeft_34 : decode cX4_waysLeft 34 = .ok (.aload_n 0, 1) := by decide +kernel
theorem dX4_waysLeft_35 : decode cX4_waysLeft 35 = .ok (.getfield 26, 3) := by decide +kernel
theorem dX4_waysLeft_38 : decode cX4_waysLeft 38 = .ok (.iload 4, 2) := by decide +kernel
theorem dX4_waysLeft_40 : decode cX4_waysLeft 40 = .ok (.laload, 1) := by decide +kernel
theorem dX4_waysLeft_41 : decode cX4_waysLeft 41 = .ok (.goto 4, 3) := by decide +kernel
theorem dX4_waysLeft_44 : decode cX4_waysLeft 44 = .ok (.lconst 0, 1) := by decide +kernel
theorem dX4_waysLeft_45 : decode cX4_waysLeft 45 = .ok (.lreturn, 1) := by decide +kernel
theorem dX4_perMillion_0 : decode cX4_perMillion 0 = .ok (.aload_n 0, 1) := by decide +kernel
theorem dX4_perMillion_1 : decode cX4_perMillion 1 = .ok (.getfield 9, 3) := by decide +kernel
theorem dX4_perMillion_4 : decode cX4_perMillion 4 = .ok (.lconst 1, 1) := by decide +kernel
theorem dX4_perMillion_5 : decode cX4_perMillion 5 = .ok (.lcmp, 1) := by decide +kernel
theorem dX4_perMillion_6 : decode cX4_perMillion 6 = .ok (.ifCond .ge 5, 3) := by decide +kernel
theorem dX4_perMillion_9 : decode cX4_perMillion 9 = .ok (.iconst 0, 1) := by decide +kernel
theorem dX4_perMillion_10 : decode cX4_perMillion 10 = .ok (.ireturn, 1) := by decide +kernel
theorem dX4_perMillion_11 : decode cX4_perMillion 11 = .ok (.aload_n 0, 1) := by decide +kernel
theorem dX4_perMillion_12 : decode cX4_perMillion 12 = .ok (.getfield 19, 3) := by decide +kernel
theorem dX4_perMillion_15 : decode cX4_perMillion 15 = .ok (.iconst 0, 1) := by decide +kernel
theorem dX4_perMillion_16 : decode cX4_perMillion 16 = .ok (.laload, 1) := by decide +kernel
theorem dX4_perMillion_17 : decode cX4_perMillion 17 = .ok (.lstore_n 1, 1) := by decide +kernel
theorem dX4_perMillion_18 : decode cX4_perMillion 18 = .ok (.lload_n 1, 1) := by decide +kernel
theorem dX4_perMillion_19 : decode cX4_perMillion 19 = .ok (.aload_n 0, 1) := by decide +kernel
theorem dX4_perMillion_20 : decode cX4_perMillion 20 = .ok (.getfield 9, 3) := by decide +kernel
theorem dX4_perMillion_23 : decode cX4_perMillion 23 = .ok (.ldiv, 1) := by decide +kernel
theorem dX4_perMillion_24 : decode cX4_perMillion 24 = .ok (.lstore_n 3, 1) := by decide +kernel
theorem dX4_perMillion_25 : decode cX4_perMillion 25 = .ok (.iconst 0, 1) := by decide +kernel
theorem dX4_perMillion_26 : decode cX4_perMillion 26 = .ok (.istore 5, 2) := by decide +kernel
theorem dX4_perMillion_28 : decode cX4_perMillion 28 = .ok (.iload 5, 2) := by decide +kernel
theorem dX4_perMillion_30 : decode cX4_perMillion 30 = .ok (.bipush 6, 2) := by decide +kernel
theorem dX4_perMillion_32 : decode cX4_perMillion 32 = .ok (.if_icmp .ge 33, 3) := by decide +kernel
theorem dX4_perMillion_35 : decode cX4_perMillion 35 = .ok (.lload_n 1, 1) := by decide +kernel
theorem dX4_perMillion_36 : decode cX4_perMillion 36 = .ok (.aload_n 0, 1) := by decide +kernel
theorem dX4_perMillion_37 : decode cX4_perMillion 37 = .ok (.getfield 9, 3) := by decide +kernel
theorem dX4_perMillion_40 : decode cX4_perMillion 40 = .ok (.lrem, 1) := by decide +kernel
theorem dX4_perMillion_41 : decode cX4_perMillion 41 = .ok (.ldc2_w 90, 3) := by decide +kernel
theorem dX4_perMillion_44 : decode cX4_perMillion 44 = .ok (.lmul, 1) := by decide +kernel
theorem dX4_perMillion_45 : decode cX4_perMillion 45 = .ok (.lstore_n 1, 1) := by decide +kernel
theorem dX4_perMillion_46 : decode cX4_perMillion 46 = .ok (.ldc2_w 90, 3) := by decide +kernel
theorem dX4_perMillion_49 : decode cX4_perMillion 49 = .ok (.lload_n 3, 1) := by decide +kernel
theorem dX4_perMillion_50 : decode cX4_perMillion 50 = .ok (.lmul, 1) := by decide +kernel
theorem dX4_perMillion_51 : decode cX4_perMillion 51 = .ok (.lload_n 1, 1) := by decide +kernel
theorem dX4_perMillion_52 : decode cX4_perMillion 52 = .ok (.aload_n 0, 1) := by decide +kernel
theorem dX4_perMillion_53 : decode cX4_perMillion 53 = .ok (.getfield 9, 3) := by decide +kernel
theorem dX4_perMillion_56 : decode cX4_perMillion 56 = .ok (.ldiv, 1) := by decide +kernel
theorem dX4_perMillion_57 : decode cX4_perMillion 57 = .ok (.ladd, 1) := by decide +kernel
theorem dX4_perMillion_58 : decode cX4_perMillion 58 = .ok (.lstore_n 3, 1) := by decide +kernel
theorem dX4_perMillion_59 : decode cX4_perMillion 59 = .ok (.iinc 5 1, 3) := by decide +kernel
theorem dX4_perMillion_62 : decode cX4_perMillion 62 = .ok (.goto (-34), 3) := by decide +kernel
theorem dX4_perMillion_65 : decode cX4_perMillion 65 = .ok (.lload_n 3, 1) := by decide +kernel
theorem dX4_perMillion_66 : decode cX4_perMillion 66 = .ok (.l2i, 1) := by decide +kernel
theorem dX4_perMillion_67 : decode cX4_perMillion 67 = .ok (.ireturn, 1) := by decide +kernel
theorem dX4_clear_0 : decode cX4_clear 0 = .ok (.aload_n 0, 1) := by decide +kernel
theorem dX4_clear_1 : decode cX4_clear 1 = .ok (.getfield 32, 3) := by decide +kernel
theorem dX4_clear_4 : decode cX4_clear 4 = .ok (.invokevirtual 92, 3) := by decide +kernel
theorem dX4_clear_7 : decode cX4_clear 7 = .ok (.aload_n 0, 1) := by decide +kernel
theorem dX4_clear_8 : decode cX4_clear 8 = .ok (.getfield 36, 3) := by decide +kernel
theorem dX4_clear_11 : decode cX4_clear 11 = .ok (.invokevirtual 92, 3) := by decide +kernel
theorem dX4_clear_14 : decode cX4_clear 14 = .ok (.aload_n 0, 1) := by decide +kernel
theorem dX4_clear_15 : decode cX4_clear 15 = .ok (.iconst 0, 1) := by decide +kernel
theorem dX4_clear_16 : decode cX4_clear 16 = .ok (.putfield 15, 3) := by decide +kernel
theorem dX4_clear_19 : decode cX4_clear 19 = .ok (.iconst 0, 1) := by decide +kernel
theorem dX4_clear_20 : decode cX4_clear 20 = .ok (.istore_n 1, 1) := by decide +kernel
theorem dX4_clear_21 : decode cX4_clear 21 = .ok (.iload_n 1, 1) := by decide +kernel
theorem dX4_clear_22 : decode cX4_clear 22 = .ok (.aload_n 0, 1) := by decide +kernel
theorem dX4_clear_23 : decode cX4_clear 23 = .ok (.getfield 19, 3) := by decide +kernel
theorem dX4_clear_26 : decode cX4_clear 26 = .ok (.arraylength, 1) := by decide +kernel
theorem dX4_clear_27 : decode cX4_clear 27 = .ok (.if_icmp .ge 16, 3) := by decide +kernel
theorem dX4_clear_30 : decode cX4_clear 30 = .ok (.aload_n 0, 1) := by decide +kernel
theorem dX4_clear_31 : decode cX4_clear 31 = .ok (.getfield 19, 3) := by decide +kernel
theorem dX4_clear_34 : decode cX4_clear 34 = .ok (.iload_n 1, 1) := by decide +kernel
theorem dX4_clear_35 : decode cX4_clear 35 = .ok (.lconst 0, 1) := by decide +kernel
theorem dX4_clear_36 : decode cX4_clear 36 = .ok (.lastore, 1) := by decide +kernel
theorem dX4_clear_37 : decode cX4_clear 37 = .ok (.iinc 1 1, 3) := by decide +kernel
theorem dX4_clear_40 : decode cX4_clear 40 = .ok (.goto (-19), 3) := by decide +kernel
theorem dX4_clear_43 : decode cX4_clear 43 = .ok (.iconst 0, 1) := by decide +kernel
theorem dX4_clear_44 : decode cX4_clear 44 = .ok (.istore_n 1, 1) := by decide +kernel
theorem dX4_clear_45 : decode cX4_clear 45 = .ok (.iload_n 1, 1) := by decide +kernel
theorem dX4_clear_46 : decode cX4_clear 46 = .ok (.aload_n 0, 1) := by decide +kernel
theorem dX4_clear_47 : decode cX4_clear 47 = .ok (.getfield 23, 3) := by decide +kernel
theorem dX4_clear_50 : decode cX4_clear 50 = .ok (.arraylength, 1) := by decide +kernel
theorem dX4_clear_51 : decode cX4_clear 51 = .ok (.if_icmp .ge 16, 3) := by decide +kernel
theorem dX4_clear_54 : decode cX4_clear 54 = .ok (.aload_n 0, 1) := by decide +kernel
theorem dX4_clear_55 : decode cX4_clear 55 = .ok (.getfield 23, 3) := by decide +kernel
theorem dX4_clear_58 : decode cX4_clear 58 = .ok (.iload_n 1, 1) := by decide +kernel
theorem dX4_clear_59 : decode cX4_clear 59 = .ok (.lconst 0, 1) := by decide +kernel
theorem dX4_clear_60 : decode cX4_clear 60 = .ok (.lastore, 1) := by decide +kernel
theorem dX4_clear_61 : decode cX4_clear 61 = .ok (.iinc 1 1, 3) := by decide +kernel
theorem dX4_clear_64 : decode cX4_clear 64 = .ok (.goto (-19), 3) := by decide +kernel
theorem dX4_clear_67 : decode cX4_clear 67 = .ok (.iconst 0, 1) := by decide +kernel
theorem dX4_clear_68 : decode cX4_clear 68 = .ok (.istore_n 1, 1) := by decide +kernel
theorem dX4_clear_69 : decode cX4_clear 69 = .ok (.iload_n 1, 1) := by decide +kernel
theorem dX4_clear_70 : decode cX4_clear 70 = .ok (.aload_n 0, 1) := by decide +kernel
theorem dX4_clear_71 : decode cX4_clear 71 = .ok (.getfield 26, 3) := by decide +kernel
theorem dX4_clear_74 : decode cX4_clear 74 = .ok (.arraylength, 1) := by decide +kernel
theorem dX4_clear_75 : decode cX4_clear 75 = .ok (.if_icmp .ge 16, 3) := by decide +kernel
theorem dX4_clear_78 : decode cX4_clear 78 = .ok (.aload_n 0, 1) := by decide +kernel
theorem dX4_clear_79 : decode cX4_clear 79 = .ok (.getfield 26, 3) := by decide +kernel
theorem dX4_clear_82 : decode cX4_clear 82 = .ok (.iload_n 1, 1) := by decide +kernel
theorem dX4_clear_83 : decode cX4_clear 83 = .ok (.lconst 0, 1) := by decide +kernel
theorem dX4_clear_84 : decode cX4_clear 84 = .ok (.lastore, 1) := by decide +kernel
theorem dX4_clear_85 : decode cX4_clear 85 = .ok (.iinc 1 1, 3) := by decide +kernel
theorem dX4_clear_88 : decode cX4_clear 88 = .ok (.goto (-19), 3) := by decide +kernel
theorem dX4_clear_91 : decode cX4_clear 91 = .ok (.return_, 1) := by decide +kernel
theorem dX4_powerOfSix_0 : decode cX4_powerOfSix 0 = .ok (.lconst 1, 1) := by decide +kernel
theorem dX4_powerOfSix_1 : decode cX4_powerOfSix 1 = .ok (.lstore_n 1, 1) := by decide +kernel
theorem dX4_powerOfSix_2 : decode cX4_powerOfSix 2 = .ok (.iconst 0, 1) := by decide +kernel
theorem dX4_powerOfSix_3 : decode cX4_powerOfSix 3 = .ok (.istore_n 3, 1) := by decide +kernel
theorem dX4_powerOfSix_4 : decode cX4_powerOfSix 4 = .ok (.iload_n 3, 1) := by decide +kernel
theorem dX4_powerOfSix_5 : decode cX4_powerOfSix 5 = .ok (.iload_n 0, 1) := by decide +kernel
theorem dX4_powerOfSix_6 : decode cX4_powerOfSix 6 = .ok (.if_icmp .ge 15, 3) := by decide +kernel
theorem dX4_powerOfSix_9 : decode cX4_powerOfSix 9 = .ok (.lload_n 1, 1) := by decide +kernel
theorem dX4_powerOfSix_10 : decode cX4_powerOfSix 10 = .ok (.ldc2_w 80, 3) := by decide +kernel
theorem dX4_powerOfSix_13 : decode cX4_powerOfSix 13 = .ok (.lmul, 1) := by decide +kernel
theorem dX4_powerOfSix_14 : decode cX4_powerOfSix 14 = .ok (.lstore_n 1, 1) := by decide +kernel
theorem dX4_powerOfSix_15 : decode cX4_powerOfSix 15 = .ok (.iinc 3 1, 3) := by decide +kernel
theorem dX4_powerOfSix_18 : decode cX4_powerOfSix 18 = .ok (.goto (-14), 3) := by decide +kernel
theorem dX4_powerOfSix_21 : decode cX4_powerOfSix 21 = .ok (.lload_n 1, 1) := by decide +kernel
theorem dX4_powerOfSix_22 : decode cX4_powerOfSix 22 = .ok (.lreturn, 1) := by decide +kernel
theorem dX4_reckonSlot_0 : decode cX4_reckonSlot 0 = .ok (.aload_n 0, 1) := by decide +kernel
theorem dX4_reckonSlot_1 : decode cX4_reckonSlot 1 = .ok (.getfield 36, 3) := by decide +kernel
theorem dX4_reckonSlot_4 : decode cX4_reckonSlot 4 = .ok (.invokevirtual 92, 3) := by decide +kernel
theorem dX4_reckonSlot_7 : decode cX4_reckonSlot 7 = .ok (.iconst 1, 1) := by decide +kernel
theorem dX4_reckonSlot_8 : decode cX4_reckonSlot 8 = .ok (.istore 5, 2) := by decide +kernel
theorem dX4_reckonSlot_10 : decode cX4_reckonSlot 10 = .ok (.iconst 0, 1) := by decide +kernel
theorem dX4_reckonSlot_11 : decode cX4_reckonSlot 11 = .ok (.istore 6, 2) := by decide +kernel
theorem dX4_reckonSlot_13 : decode cX4_reckonSlot 13 = .ok (.iload 6, 2) := by decide +kernel
theorem dX4_reckonSlot_15 : decode cX4_reckonSlot 15 = .ok (.aload_n 0, 1) := by decide +kernel
theorem dX4_reckonSlot_16 : decode cX4_reckonSlot 16 = .ok (.getfield 32, 3) := by decide +kernel
theorem dX4_reckonSlot_19 : decode cX4_reckonSlot 19 = .ok (.getfield 73, 3) := by decide +kernel
theorem dX4_reckonSlot_22 : decode cX4_reckonSlot 22 = .ok (.if_icmp .ge 166, 3) := by decide +kernel
theorem dX4_reckonSlot_25 : decode cX4_reckonSlot 25 = .ok (.iload 5, 2) := by decide +kernel
theorem dX4_reckonSlot_27 : decode cX4_reckonSlot 27 = .ok (.ifCond .eq 161, 3) := by decide +kernel
theorem dX4_reckonSlot_30 : decode cX4_reckonSlot 30 = .ok (.aload_n 0, 1) := by decide +kernel
theorem dX4_reckonSlot_31 : decode cX4_reckonSlot 31 = .ok (.getfield 32, 3) := by decide +kernel
theorem dX4_reckonSlot_34 : decode cX4_reckonSlot 34 = .ok (.getfield 95, 3) := by decide +kernel
theorem dX4_reckonSlot_37 : decode cX4_reckonSlot 37 = .ok (.iload 6, 2) := by decide +kernel
theorem dX4_reckonSlot_39 : decode cX4_reckonSlot 39 = .ok (.laload, 1) := by decide +kernel
theorem dX4_reckonSlot_40 : decode cX4_reckonSlot 40 = .ok (.lstore 7, 2) := by decide +kernel
theorem dX4_reckonSlot_42 : decode cX4_reckonSlot 42 = .ok (.aload_n 0, 1) := by decide +kernel
theorem dX4_reckonSlot_43 : decode cX4_reckonSlot 43 = .ok (.getfield 32, 3) := by decide +kernel
theorem dX4_reckonSlot_46 : decode cX4_reckonSlot 46 = .ok (.getfield 98, 3) := by decide +kernel
theorem dX4_reckonSlot_49 : decode cX4_reckonSlot 49 = .ok (.iload 6, 2) := by decide +kernel
theorem dX4_reckonSlot_51 : decode cX4_reckonSlot 51 = .ok (.laload, 1) := by decide +kernel
theorem dX4_reckonSlot_52 : decode cX4_reckonSlot 52 = .ok (.lstore 9, 2) := by decide +kernel
theorem dX4_reckonSlot_54 : decode cX4_reckonSlot 54 = .ok (.aload_n 1, 1) := by decide +kernel
theorem dX4_reckonSlot_55 : decode cX4_reckonSlot 55 = .ok (.lload 7, 2) := by decide +kernel
theorem dX4_reckonSlot_57 : decode cX4_reckonSlot 57 = .ok (.iload_n 2, 1) := by decide +kernel
theorem dX4_reckonSlot_58 : decode cX4_reckonSlot 58 = .ok (.iload_n 3, 1) := by decide +kernel
theorem dX4_reckonSlot_59 : decode cX4_reckonSlot 59 = .ok (.invokevirtual 101, 3) := by decide +kernel
theorem dX4_reckonSlot_62 : decode cX4_reckonSlot 62 = .ok (.ifCond .ne 24, 3) := by decide +kernel
theorem dX4_reckonSlot_65 : decode cX4_reckonSlot 65 = .ok (.aload_n 0, 1) := by decide +kernel
theorem dX4_reckonSlot_66 : decode cX4_reckonSlot 66 = .ok (.aload_n 1, 1) := by decide +kernel
theorem dX4_reckonSlot_67 : decode cX4_reckonSlot 67 = .ok (.lload 7, 2) := by decide +kernel
theorem dX4_reckonSlot_69 : decode cX4_reckonSlot 69 = .ok (.ldc2_w 80, 3) := by decide +kernel
theorem dX4_reckonSlot_72 : decode cX4_reckonSlot 72 = .ok (.lload 9, 2) := by decide +kernel
theorem dX4_reckonSlot_74 : decode cX4_reckonSlot 74 = .ok (.lmul, 1) := by decide +kernel
theorem dX4_reckonSlot_75 : decode cX4_reckonSlot 75 = .ok (.iload_n 3, 1) := by decide +kernel
theorem dX4_reckonSlot_76 : decode cX4_reckonSlot 76 = .ok (.iload 4, 2) := by decide +kernel
theorem dX4_reckonSlot_78 : decode cX4_reckonSlot 78 = .ok (.invokevirtual 105, 3) := by decide +kernel
theorem dX4_reckonSlot_81 : decode cX4_reckonSlot 81 = .ok (.istore 5, 2) := by decide +kernel
theorem dX4_reckonSlot_83 : decode cX4_reckonSlot 83 = .ok (.goto 99, 3) := by decide +kernel
theorem dX4_reckonSlot_86 : decode cX4_reckonSlot 86 = .ok (.aload_n 1, 1) := by decide +kernel
theorem dX4_reckonSlot_87 : decode cX4_reckonSlot 87 = .ok (.lload 7, 2) := by decide +kernel
theorem dX4_reckonSlot_89 : decode cX4_reckonSlot 89 = .ok (.iload_n 2, 1) := by decide +kernel
theorem dX4_reckonSlot_90 : decode cX4_reckonSlot 90 = .ok (.invokevirtual 109, 3) := by decide +kernel
theorem dX4_reckonSlot_93 : decode cX4_reckonSlot 93 = .ok (.ifCond .eq 29, 3) := by decide +kernel
theorem dX4_reckonSlot_96 : decode cX4_reckonSlot 96 = .ok (.aload_n 0, 1) := by decide +kernel
theorem dX4_reckonSlot_97 : decode cX4_reckonSlot 97 = .ok (.aload_n 1, 1) := by decide +kernel
theorem dX4_reckonSlot_98 : decode cX4_reckonSlot 98 = .ok (.aload_n 1, 1) := by decide +kernel
theorem dX4_reckonSlot_99 : decode cX4_reckonSlot 99 = .ok (.lload 7, 2) := by decide +kernel
theorem dX4_reckonSlot_101 : decode cX4_reckonSlot 101 = .ok (.iload_n 2, 1) := by decide +kernel
theorem dX4_reckonSlot_102 : decode cX4_reckonSlot 102 = .ok (.invokevirtual 113, 3) := by decide +kernel
theorem dX4_reckonSlot_105 : decode cX4_reckonSlot 105 = .ok (.ldc2_w 80, 3) := by decide +kernel
theorem dX4_reckonSlot_108 : decode cX4_reckonSlot 108 = .ok (.lload 9, 2) := by decide +kernel
theorem dX4_reckonSlot_110 : decode cX4_reckonSlot 110 = .ok (.lmul, 1) := by decide +kernel
theorem dX4_reckonSlot_111 : decode cX4_reckonSlot 111 = .ok (.iload_n 3, 1) := by decide +kernel
theorem dX4_reckonSlot_112 : decode cX4_reckonSlot 112 = .ok (.iload 4, 2) := by decide +kernel
theorem dX4_reckonSlot_114 : decode cX4_reckonSlot 114 = .ok (.invokevirtual 105, 3) := by decide +kernel
theorem dX4_reckonSlot_117 : decode cX4_reckonSlot 117 = .ok (.istore 5, 2) := by decide +kernel
theorem dX4_reckonSlot_119 : decode cX4_reckonSlot 119 = .ok (.goto 63, 3) := by decide +kernel
theorem dX4_reckonSlot_122 : decode cX4_reckonSlot 122 = .ok (.aload_n 1, 1) := by decide +kernel
theorem dX4_reckonSlot_123 : decode cX4_reckonSlot 123 = .ok (.iload_n 2, 1) := by decide +kernel
theorem dX4_reckonSlot_124 : decode cX4_reckonSlot 124 = .ok (.invokevirtual 117, 3) := by decide +kernel
theorem dX4_reckonSlot_127 : decode cX4_reckonSlot 127 = .ok (.istore 11, 2) := by decide +kernel
theorem dX4_reckonSlot_129 : decode cX4_reckonSlot 129 = .ok (.aload_n 0, 1) := by decide +kernel
theorem dX4_reckonSlot_130 : decode cX4_reckonSlot 130 = .ok (.aload_n 1, 1) := by decide +kernel
theorem dX4_reckonSlot_131 : decode cX4_reckonSlot 131 = .ok (.lload 7, 2) := by decide +kernel
theorem dX4_reckonSlot_133 : decode cX4_reckonSlot 133 = .ok (.bipush 6, 2) := by decide +kernel
theorem dX4_reckonSlot_135 : decode cX4_reckonSlot 135 = .ok (.iload 11, 2) := by decide +kernel
theorem dX4_reckonSlot_137 : decode cX4_reckonSlot 137 = .ok (.isub, 1) := by decide +kernel
theorem dX4_reckonSlot_138 : decode cX4_reckonSlot 138 = .ok (.i2l, 1) := by decide +kernel
theorem dX4_reckonSlot_139 : decode cX4_reckonSlot 139 = .ok (.lload 9, 2) := by decide +kernel
theorem dX4_reckonSlot_141 : decode cX4_reckonSlot 141 = .ok (.lmul, 1) := by decide +kernel
theorem dX4_reckonSlot_142 : decode cX4_reckonSlot 142 = .ok (.iload_n 3, 1) := by decide +kernel
theorem dX4_reckonSlot_143 : decode cX4_reckonSlot 143 = .ok (.iload 4, 2) := by decide +kernel
theorem dX4_reckonSlot_145 : decode cX4_reckonSlot 145 = .ok (.invokevirtual 105, 3) := by decide +kernel
theorem dX4_reckonSlot_148 : decode cX4_reckonSlot 148 = .ok (.ifCond .eq 31, 3) := by decide +kernel
theorem dX4_reckonSlot_151 : decode cX4_reckonSlot 151 = .ok (.aload_n 0, 1) := by decide +kernel
theorem dX4_reckonSlot_152 : decode cX4_reckonSlot 152 = .ok (.aload_n 1, 1) := by decide +kernel
theorem dX4_reckonSlot_153 : decode cX4_reckonSlot 153 = .ok (.aload_n 1, 1) := by decide +kernel
theorem dX4_reckonSlot_154 : decode cX4_reckonSlot 154 = .ok (.lload 7, 2) := by decide +kernel
theorem dX4_reckonSlot_156 : decode cX4_reckonSlot 156 = .ok (.iload_n 2, 1) := by decide +kernel
theorem dX4_reckonSlot_157 : decode cX4_reckonSlot 157 = .ok (.invokevirtual 121, 3) := by decide +kernel
theorem dX4_reckonSlot_160 : decode cX4_reckonSlot 160 = .ok (.iload 11, 2) := by decide +kernel
theorem dX4_reckonSlot_162 : decode cX4_reckonSlot 162 = .ok (.i2l, 1) := by decide +kernel
theorem dX4_reckonSlot_163 : decode cX4_reckonSlot 163 = .ok (.lload 9, 2) := by decide +kernel
theorem dX4_reckonSlot_165 : decode cX4_reckonSlot 165 = .ok (.lmul, 1) := by decide +kernel
theorem dX4_reckonSlot_166 : decode cX4_reckonSlot 166 = .ok (.iload_n 3, 1) := by decide +kernel
theorem dX4_reckonSlot_167 : decode cX4_reckonSlot 167 = .ok (.iload 4, 2) := by decide +kernel
theorem dX4_reckonSlot_169 : decode cX4_reckonSlot 169 = .ok (.invokevirtual 105, 3) := by decide +kernel
theorem dX4_reckonSlot_172 : decode cX4_reckonSlot 172 = .ok (.ifCond .eq 7, 3) := by decide +kernel
theorem dX4_reckonSlot_175 : decode cX4_reckonSlot 175 = .ok (.iconst 1, 1) := by decide +kernel
theorem dX4_reckonSlot_176 : decode cX4_reckonSlot 176 = .ok (.goto 4, 3) := by decide +kernel
theorem dX4_reckonSlot_179 : decode cX4_reckonSlot 179 = .ok (.iconst 0, 1) := by decide +kernel
theorem dX4_reckonSlot_180 : decode cX4_reckonSlot 180 = .ok (.istore 5, 2) := by decide +kernel
theorem dX4_reckonSlot_182 : decode cX4_reckonSlot 182 = .ok (.iinc 6 1, 3) := by decide +kernel
theorem dX4_reckonSlot_185 : decode cX4_reckonSlot 185 = .ok (.goto (-172), 3) := by decide +kernel
theorem dX4_reckonSlot_188 : decode cX4_reckonSlot 188 = .ok (.aload_n 0, 1) := by decide +kernel
theorem dX4_reckonSlot_189 : decode cX4_reckonSlot 189 = .ok (.getfield 32, 3) := by decide +kernel
theorem dX4_reckonSlot_192 : decode cX4_reckonSlot 192 = .ok (.astore 6, 2) := by decide +kernel
theorem dX4_reckonSlot_194 : decode cX4_reckonSlot 194 = .ok (.aload_n 0, 1) := by decide +kernel
theorem dX4_reckonSlot_195 : decode cX4_reckonSlot 195 = .ok (.aload_n 0, 1) := by decide +kernel
theorem dX4_reckonSlot_196 : decode cX4_reckonSlot 196 = .ok (.getfield 36, 3) := by decide +kernel
theorem dX4_reckonSlot_199 : decode cX4_reckonSlot 199 = .ok (.putfield 32, 3) := by decide +kernel
theorem dX4_reckonSlot_202 : decode cX4_reckonSlot 202 = .ok (.aload_n 0, 1) := by decide +kernel
theorem dX4_reckonSlot_203 : decode cX4_reckonSlot 203 = .ok (.aload 6, 2) := by decide +kernel
theorem dX4_reckonSlot_205 : decode cX4_reckonSlot 205 = .ok (.putfield 36, 3) := by decide +kernel
theorem dX4_reckonSlot_208 : decode cX4_reckonSlot 208 = .ok (.iload 5, 2) := by decide +kernel
theorem dX4_reckonSlot_210 : decode cX4_reckonSlot 210 = .ok (.ireturn, 1) := by decide +kernel
theorem dX4_pass_0 : decode cX4_pass 0 = .ok (.lload 4, 2) := by decide +kernel
theorem dX4_pass_2 : decode cX4_pass 2 = .ok (.lconst 0, 1) := by decide +kernel
theorem dX4_pass_3 : decode cX4_pass 3 = .ok (.lcmp, 1) := by decide +kernel
theorem dX4_pass_4 : decode cX4_pass 4 = .ok (.ifCond .ne 5, 3) := by decide +kernel
theorem dX4_pass_7 : decode cX4_pass 7 = .ok (.iconst 1, 1) := by decide +kernel
theorem dX4_pass_8 : decode cX4_pass 8 = .ok (.ireturn, 1) := by decide +kernel
theorem dX4_pass_9 : decode cX4_pass 9 = .ok (.lload_n 2, 1) := by decide +kernel
theorem dX4_pass_10 : decode cX4_pass 10 = .ok (.invokestatic 61, 3) := by decide +kernel
theorem dX4_pass_13 : decode cX4_pass 13 = .ok (.istore 8, 2) := by decide +kernel
theorem dX4_pass_15 : decode cX4_pass 15 = .ok (.iload 8, 2) := by decide +kernel
theorem dX4_pass_17 : decode cX4_pass 17 = .ok (.iconst (-1), 1) := by decide +kernel
theorem dX4_pass_18 : decode cX4_pass 18 = .ok (.if_icmp .eq 17, 3) := by decide +kernel
theorem dX4_pass_21 : decode cX4_pass 21 = .ok (.aload_n 0, 1) := by decide +kernel
theorem dX4_pass_22 : decode cX4_pass 22 = .ok (.aload_n 1, 1) := by decide +kernel
theorem dX4_pass_23 : decode cX4_pass 23 = .ok (.lload_n 2, 1) := by decide +kernel
theorem dX4_pass_24 : decode cX4_pass 24 = .ok (.lload 4, 2) := by decide +kernel
theorem dX4_pass_26 : decode cX4_pass 26 = .ok (.iload 8, 2) := by decide +kernel
theorem dX4_pass_28 : decode cX4_pass 28 = .ok (.iload 6, 2) := by decide +kernel
theorem dX4_pass_30 : decode cX4_pass 30 = .ok (.invokevirtual 65, 3) := by decide +kernel
theorem dX4_pass_33 : decode cX4_pass 33 = .ok (.iconst 1, 1) := by decide +kernel
theorem dX4_pass_34 : decode cX4_pass 34 = .ok (.ireturn, 1) := by decide +kernel
theorem dX4_pass_35 : decode cX4_pass 35 = .ok (.iload 7, 2) := by decide +kernel
theorem dX4_pass_37 : decode cX4_pass 37 = .ok (.ifCond .eq 16, 3) := by decide +kernel
theorem dX4_pass_40 : decode cX4_pass 40 = .ok (.aload_n 0, 1) := by decide +kernel
theorem dX4_pass_41 : decode cX4_pass 41 = .ok (.aload_n 1, 1) := by decide +kernel
theorem dX4_pass_42 : decode cX4_pass 42 = .ok (.lload_n 2, 1) := by decide +kernel
theorem dX4_pass_43 : decode cX4_pass 43 = .ok (.lload 4, 2) := by decide +kernel
theorem dX4_pass_45 : decode cX4_pass 45 = .ok (.iconst 2, 1) := by decide +kernel
theorem dX4_pass_46 : decode cX4_pass 46 = .ok (.iload 6, 2) := by decide +kernel
theorem dX4_pass_48 : decode cX4_pass 48 = .ok (.invokevirtual 65, 3) := by decide +kernel
theorem dX4_pass_51 : decode cX4_pass 51 = .ok (.iconst 1, 1) := by decide +kernel
theorem dX4_pass_52 : decode cX4_pass 52 = .ok (.ireturn, 1) := by decide +kernel
theorem dX4_pass_53 : decode cX4_pass 53 = .ok (.aload_n 0, 1) := by decide +kernel
theorem dX4_pass_54 : decode cX4_pass 54 = .ok (.getfield 36, 3) := by decide +kernel
theorem dX4_pass_57 : decode cX4_pass 57 = .ok (.lload_n 2, 1) := by decide +kernel
theorem dX4_pass_58 : decode cX4_pass 58 = .ok (.lload 4, 2) := by decide +kernel
theorem dX4_pass_60 : decode cX4_pass 60 = .ok (.invokevirtual 69, 3) := by decide +kernel
theorem dX4_pass_63 : decode cX4_pass 63 = .ok (.ireturn, 1) := by decide +kernel
theorem dX4_tally_0 : decode cX4_tally 0 = .ok (.lload 4, 2) := by decide +kernel
theorem dX4_tally_2 : decode cX4_tally 2 = .ok (.aload_n 0, 1) := by decide +kernel
theorem dX4_tally_3 : decode cX4_tally 3 = .ok (.getfield 39, 3) := by decide +kernel
theorem dX4_tally_6 : decode cX4_tally 6 = .ok (.lmul, 1) := by decide +kernel
theorem dX4_tally_7 : decode cX4_tally 7 = .ok (.lstore 8, 2) := by decide +kernel
theorem dX4_tally_9 : decode cX4_tally 9 = .ok (.aload_n 0, 1) := by decide +kernel
theorem dX4_tally_10 : decode cX4_tally 10 = .ok (.getfield 19, 3) := by decide +kernel
theorem dX4_tally_13 : decode cX4_tally 13 = .ok (.iload 6, 2) := by decide +kernel
theorem dX4_tally_15 : decode cX4_tally 15 = .ok (.dup2, 1) := by decide +kernel
theorem dX4_tally_16 : decode cX4_tally 16 = .ok (.laload, 1) := by decide +kernel
theorem dX4_tally_17 : decode cX4_tally 17 = .ok (.lload 8, 2) := by decide +kernel
theorem dX4_tally_19 : decode cX4_tally 19 = .ok (.ladd, 1) := by decide +kernel
theorem dX4_tally_20 : decode cX4_tally 20 = .ok (.lastore, 1) := by decide +kernel
theorem dX4_tally_21 : decode cX4_tally 21 = .ok (.iload 6, 2) := by decide +kernel
theorem dX4_tally_23 : decode cX4_tally 23 = .ok (.iconst 2, 1) := by decide +kernel
theorem dX4_tally_24 : decode cX4_tally 24 = .ok (.if_icmp .eq 15, 3) := by decide +kernel
theorem dX4_tally_27 : decode cX4_tally 27 = .ok (.aload_n 0, 1) := by decide +kernel
theorem dX4_tally_28 : decode cX4_tally 28 = .ok (.getfield 23, 3) := by decide +kernel
theorem dX4_tally_31 : decode cX4_tally 31 = .ok (.iload 7, 2) := by decide +kernel
theorem dX4_tally_33 : decode cX4_tally 33 = .ok (.dup2, 1) := by decide +kernel
theorem dX4_tally_34 : decode cX4_tally 34 = .ok (.laload, 1) := by decide +kernel
theorem dX4_tally_35 : decode cX4_tally 35 = .ok (.lload 8, 2) := by decide +kernel
theorem dX4_tally_37 : decode cX4_tally 37 = .ok (.ladd, 1) := by decide +kernel
theorem dX4_tally_38 : decode cX4_tally 38 = .ok (.lastore, 1) := by decide +kernel
theorem dX4_tally_39 : decode cX4_tally 39 = .ok (.iconst 0, 1) := by decide +kernel
theorem dX4_tally_40 : decode cX4_tally 40 = .ok (.istore 10, 2) := by decide +kernel
theorem dX4_tally_42 : decode cX4_tally 42 = .ok (.iload 10, 2) := by decide +kernel
theorem dX4_tally_44 : decode cX4_tally 44 = .ok (.aload_n 1, 1) := by decide +kernel
theorem dX4_tally_45 : decode cX4_tally 45 = .ok (.getfield 47, 3) := by decide +kernel
theorem dX4_tally_48 : decode cX4_tally 48 = .ok (.if_icmp .ge 40, 3) := by decide +kernel
theorem dX4_tally_51 : decode cX4_tally 51 = .ok (.aload_n 1, 1) := by decide +kernel
theorem dX4_tally_52 : decode cX4_tally 52 = .ok (.getfield 82, 3) := by decide +kernel
theorem dX4_tally_55 : decode cX4_tally 55 = .ok (.iload 10, 2) := by decide +kernel
theorem dX4_tally_57 : decode cX4_tally 57 = .ok (.iaload, 1) := by decide +kernel
theorem dX4_tally_58 : decode cX4_tally 58 = .ok (.istore 11, 2) := by decide +kernel
theorem dX4_tally_60 : decode cX4_tally 60 = .ok (.aload_n 0, 1) := by decide +kernel
theorem dX4_tally_61 : decode cX4_tally 61 = .ok (.getfield 26, 3) := by decide +kernel
theorem dX4_tally_64 : decode cX4_tally 64 = .ok (.bipush 64, 2) := by decide +kernel
theorem dX4_tally_66 : decode cX4_tally 66 = .ok (.iload 11, 2) := by decide +kernel
theorem dX4_tally_68 : decode cX4_tally 68 = .ok (.imul, 1) := by decide +kernel
theorem dX4_tally_69 : decode cX4_tally 69 = .ok (.lload_n 2, 1) := by decide +kernel
theorem dX4_tally_70 : decode cX4_tally 70 = .ok (.iload 11, 2) := by decide +kernel
theorem dX4_tally_72 : decode cX4_tally 72 = .ok (.invokestatic 124, 3) := by decide +kernel
theorem dX4_tally_75 : decode cX4_tally 75 = .ok (.iadd, 1) := by decide +kernel
theorem dX4_tally_76 : decode cX4_tally 76 = .ok (.dup2, 1) := by decide +kernel
theorem dX4_tally_77 : decode cX4_tally 77 = .ok (.laload, 1) := by decide +kernel
theorem dX4_tally_78 : decode cX4_tally 78 = .ok (.lload 8, 2) := by decide +kernel
theorem dX4_tally_80 : decode cX4_tally 80 = .ok (.ladd, 1) := by decide +kernel
theorem dX4_tally_81 : decode cX4_tally 81 = .ok (.lastore, 1) := by decide +kernel
theorem dX4_tally_82 : decode cX4_tally 82 = .ok (.iinc 10 1, 3) := by decide +kernel
theorem dX4_tally_85 : decode cX4_tally 85 = .ok (.goto (-43), 3) := by decide +kernel
theorem dX4_tally_88 : decode cX4_tally 88 = .ok (.return_, 1) := by decide +kernel
theorem dX5_init_0 : decode cX5_init 0 = .ok (.aload_n 0, 1) := by decide +kernel
theorem dX5_init_1 : decode cX5_init 1 = .ok (.invokespecial 3, 3) := by decide +kernel
theorem dX5_init_4 : decode cX5_init 4 = .ok (.aload_n 0, 1) := by decide +kernel
theorem dX5_init_5 : decode cX5_init 5 = .ok (.bipush 96, 2) := by decide +kernel
theorem dX5_init_7 : decode cX5_init 7 = .ok (.newarray .int, 2) := by decide +kernel
theorem dX5_init_9 : decode cX5_init 9 = .ok (.putfield 11, 3) := by decide +kernel
theorem dX5_init_12 : decode cX5_init 12 = .ok (.aload_n 0, 1) := by decide +kernel
theorem dX5_init_13 : decode cX5_init 13 = .ok (.iconst 0, 1) := by decide +kernel
theorem dX5_init_14 : decode cX5_init 14 = .ok (.putfield 15, 3) := by decide +kernel
theorem dX5_init_17 : decode cX5_init 17 = .ok (.return_, 1) := by decide +kernel
theorem dX5_fits_0 : decode cX5_fits 0 = .ok (.iload_n 0, 1) := by decide +kernel
theorem dX5_fits_1 : decode cX5_fits 1 = .ok (.ifCond .lt 30, 3) := by decide +kernel
theorem dX5_fits_4 : decode cX5_fits 4 = .ok (.iload_n 0, 1) := by decide +kernel
theorem dX5_fits_5 : decode cX5_fits 5 = .ok (.iconst 5, 1) := by decide +kernel
theorem dX5_fits_6 : decode cX5_fits 6 = .ok (.if_icmp .gt 25, 3) := by decide +kernel
theorem dX5_fits_9 : decode cX5_fits 9 = .ok (.iload_n 1, 1) := by decide +kernel
theorem dX5_fits_10 : decode cX5_fits 10 = .ok (.getstatic 19, 3) := by decide +kernel
theorem dX5_fits_13 : decode cX5_fits 13 = .ok (.iload_n 0, 1) := by decide +kernel
theorem dX5_fits_14 : decode cX5_fits 14 = .ok (.iaload, 1) := by decide +kernel
theorem dX5_fits_15 : decode cX5_fits 15 = .ok (.if_icmp .lt 16, 3) := by decide +kernel
theorem dX5_fits_18 : decode cX5_fits 18 = .ok (.iload_n 1, 1) := by decide +kernel
theorem dX5_fits_19 : decode cX5_fits 19 = .ok (.getstatic 22, 3) := by decide +kernel
theorem dX5_fits_22 : decode cX5_fits 22 = .ok (.iload_n 0, 1) := by decide +kernel
theorem dX5_fits_23 : decode cX5_fits 23 = .ok (.iaload, 1) := by decide +kernel
theorem dX5_fits_24 : decode cX5_fits 24 = .ok (.if_icmp .gt 7, 3) := by decide +kernel
theorem dX5_fits_27 : decode cX5_fits 27 = .ok (.iconst 1, 1) := by decide +kernel
theorem dX5_fits_28 : decode cX5_fits 28 = .ok (.goto 4, 3) := by decide +kernel
theorem dX5_fits_31 : decode cX5_fits 31 = .ok (.iconst 0, 1) := by decide +kernel
theorem dX5_fits_32 : decode cX5_fits 32 = .ok (.ireturn, 1) := by decide +kernel
theorem dX5_has_0 : decode cX5_has 0 = .ok (.iload_n 1, 1) := by decide +kernel
theorem dX5_has_1 : decode cX5_has 1 = .ok (.ifCond .lt 15, 3) := by decide +kernel
theorem dX5_has_4 : decode cX5_has 4 = .ok (.iload_n 1, 1) := by decide +kernel
theorem dX5_has_5 : decode cX5_has 5 = .ok (.aload_n 0, 1) := by decide +kernel
theorem dX5_has_6 : decode cX5_has 6 = .ok (.getfield 15, 3) := by decide +kernel
theorem dX5_has_9 : decode cX5_has 9 = .ok (.if_icmp .ge 7, 3) := by decide +kernel
theorem dX5_has_12 : decode cX5_has 12 = .ok (.iconst 1, 1) := by decide +kernel
theorem dX5_has_13 : decode cX5_has 13 = .ok (.goto 4, 3) := by decide +kernel
theorem dX5_has_16 : decode cX5_has 16 = .ok (.iconst 0, 1) := by decide +kernel
theorem dX5_has_17 : decode cX5_has 17 = .ok (.ireturn, 1) := by decide +kernel
theorem dX5_number_0 : decode cX5_number 0 = .ok (.aload_n 0, 1) := by decide +kernel
theorem dX5_number_1 : decode cX5_number 1 = .ok (.iload_n 1, 1) := by decide +kernel
theorem dX5_number_2 : decode cX5_number 2 = .ok (.invokevirtual 25, 3) := by decide +kernel
theorem dX5_number_5 : decode cX5_number 5 = .ok (.ifCond .eq 17, 3) := by decide +kernel
theorem dX5_number_8 : decode cX5_number 8 = .ok (.aload_n 0, 1) := by decide +kernel
theorem dX5_number_9 : decode cX5_number 9 = .ok (.getfield 11, 3) := by decide +kernel
theorem dX5_number_12 : decode cX5_number 12 = .ok (.bipush 6, 2) := by decide +kernel
theorem dX5_number_14 : decode cX5_number 14 = .ok (.iload_n 1, 1) := by decide +kernel
theorem dX5_number_15 : decode cX5_number 15 = .ok (.imul, 1) := by decide +kernel
theorem dX5_number_16 : decode cX5_number 16 = .ok (.iload_n 2, 1) := by decide +kernel
theorem dX5_number_17 : decode cX5_number 17 = .ok (.iadd, 1) := by decide +kernel
theorem dX5_number_18 : decode cX5_number 18 = .ok (.iaload, 1) := by decide +kernel
theorem dX5_number_19 : decode cX5_number 19 = .ok (.goto 4, 3) := by decide +kernel
theorem dX5_number_22 : decode cX5_number 22 = .ok (.iconst 0, 1) := by decide +kernel
theorem dX5_number_23 : decode cX5_number 23 = .ok (.ireturn, 1) := by decide +kernel
theorem dX5_change_0 : decode cX5_change 0 = .ok (.aload_n 0, 1) := by decide +kernel
theorem dX5_change_1 : decode cX5_change 1 = .ok (.iload_n 1, 1) := by decide +kernel
theorem dX5_change_2 : decode cX5_change 2 = .ok (.invokevirtual 25, 3) := by decide +kernel
theorem dX5_change_5 : decode cX5_change 5 = .ok (.ifCond .eq 15, 3) := by decide +kernel
theorem dX5_change_8 : decode cX5_change 8 = .ok (.aload_n 0, 1) := by decide +kernel
theorem dX5_change_9 : decode cX5_change 9 = .ok (.getfield 11, 3) := by decide +kernel
theorem dX5_change_12 : decode cX5_change 12 = .ok (.bipush 6, 2) := by decide +kernel
theorem dX5_change_14 : decode cX5_change 14 = .ok (.iload_n 1, 1) := by decide +kernel
theorem dX5_change_15 : decode cX5_change 15 = .ok (.imul, 1) := by decide +kernel
theorem dX5_change_16 : decode cX5_change 16 = .ok (.iload_n 2, 1) := by decide +kernel
theorem dX5_change_17 : decode cX5_change 17 = .ok (.iadd, 1) := by decide +kernel
theorem dX5_change_18 : decode cX5_change 18 = .ok (.iload_n 3, 1) := by decide +kernel
theorem dX5_change_19 : decode cX5_change 19 = .ok (.iastore, 1) := by decide +kernel
theorem dX5_change_20 : decode cX5_change 20 = .ok (.return_, 1) := by decide +kernel
theorem dX6_init_0 : decode cX6_init 0 = .ok (.aload_n 0, 1) := by decide +kernel
theorem dX6_init_1 : decode cX6_init 1 = .ok (.invokespecial 3, 3) := by decide +kernel
theorem dX6_init_4 : decode cX6_init 4 = .ok (.aload_n 0, 1) := by decide +kernel
theorem dX6_init_5 : decode cX6_init 5 = .ok (.iconst 3, 1) := by decide +kernel
theorem dX6_init_6 : decode cX6_init 6 = .ok (.newarray .int, 2) := by decide +kernel
theorem dX6_init_8 : decode cX6_init 8 = .ok (.dup, 1) := by decide +kernel
theorem dX6_init_9 : decode cX6_init 9 = .ok (.iconst 0, 1) := by decide +kernel
theorem dX6_init_10 : decode cX6_init 10 = .ok (.iconst (-1), 1) := by decide +kernel
theorem dX6_init_11 : decode cX6_init 11 = .ok (.iastore, 1) := by decide +kernel
theorem dX6_init_12 : decode cX6_init 12 = .ok (.dup, 1) := by decide +kernel
theorem dX6_init_13 : decode cX6_init 13 = .ok (.iconst 1, 1) := by decide +kernel
theorem dX6_init_14 : decode cX6_init 14 = .ok (.iconst (-1), 1) := by decide +kernel
theorem dX6_init_15 : decode cX6_init 15 = .ok (.iastore, 1) := by decide +kernel
theorem dX6_init_16 : decode cX6_init 16 = .ok (.dup, 1) := by decide +kernel
theorem dX6_init_17 : decode cX6_init 17 = .ok (.iconst 2, 1) := by decide +kernel
theorem dX6_init_18 : decode cX6_init 18 = .ok (.iconst (-1), 1) := by decide +kernel
theorem dX6_init_19 : decode cX6_init 19 = .ok (.iastore, 1) := by decide +kernel
theorem dX6_init_20 : decode cX6_init 20 = .ok (.putfield 9, 3) := by decide +kernel
theorem dX6_init_23 : decode cX6_init 23 = .ok (.aload_n 0, 1) := by decide +kernel
theorem dX6_init_24 : decode cX6_init 24 = .ok (.iconst 0, 1) := by decide +kernel
theorem dX6_init_25 : decode cX6_init 25 = .ok (.putfield 15, 3) := by decide +kernel
theorem dX6_init_28 : decode cX6_init 28 = .ok (.return_, 1) := by decide +kernel
theorem dX6_become_0 : decode cX6_become 0 = .ok (.aload_n 0, 1) := by decide +kernel
theorem dX6_become_1 : decode cX6_become 1 = .ok (.getfield 9, 3) := by decide +kernel
theorem dX6_become_4 : decode cX6_become 4 = .ok (.iconst 0, 1) := by decide +kernel
theorem dX6_become_5 : decode cX6_become 5 = .ok (.iload_n 1, 1) := by decide +kernel
theorem dX6_become_6 : decode cX6_become 6 = .ok (.iastore, 1) := by decide +kernel
theorem dX6_become_7 : decode cX6_become 7 = .ok (.aload_n 0, 1) := by decide +kernel
theorem dX6_become_8 : decode cX6_become 8 = .ok (.getfield 9, 3) := by decide +kernel
theorem dX6_become_11 : decode cX6_become 11 = .ok (.iconst 1, 1) := by decide +kernel
theorem dX6_become_12 : decode cX6_become 12 = .ok (.iload_n 2, 1) := by decide +kernel
theorem dX6_become_13 : decode cX6_become 13 = .ok (.iastore, 1) := by decide +kernel
theorem dX6_become_14 : decode cX6_become 14 = .ok (.aload_n 0, 1) := by decide +kernel
theorem dX6_become_15 : decode cX6_become 15 = .ok (.getfield 9, 3) := by decide +kernel
theorem dX6_become_18 : decode cX6_become 18 = .ok (.iconst 2, 1) := by decide +kernel
theorem dX6_become_19 : decode cX6_become 19 = .ok (.iload_n 3, 1) := by decide +kernel
theorem dX6_become_20 : decode cX6_become 20 = .ok (.iastore, 1) := by decide +kernel
theorem dX6_become_21 : decode cX6_become 21 = .ok (.aload_n 0, 1) := by decide +kernel
theorem dX6_become_22 : decode cX6_become 22 = .ok (.iload 4, 2) := by decide +kernel
theorem dX6_become_24 : decode cX6_become 24 = .ok (.putfield 15, 3) := by decide +kernel
theorem dX6_become_27 : decode cX6_become 27 = .ok (.return_, 1) := by decide +kernel
theorem dX6_who_0 : decode cX6_who 0 = .ok (.iload_n 1, 1) := by decide +kernel
theorem dX6_who_1 : decode cX6_who 1 = .ok (.invokestatic 19, 3) := by decide +kernel
theorem dX6_who_4 : decode cX6_who 4 = .ok (.ifCond .eq 12, 3) := by decide +kernel
theorem dX6_who_7 : decode cX6_who 7 = .ok (.aload_n 0, 1) := by decide +kernel
theorem dX6_who_8 : decode cX6_who 8 = .ok (.getfield 9, 3) := by decide +kernel
theorem dX6_who_11 : decode cX6_who 11 = .ok (.iload_n 1, 1) := by decide +kernel
theorem dX6_who_12 : decode cX6_who 12 = .ok (.iaload, 1) := by decide +kernel
theorem dX6_who_13 : decode cX6_who 13 = .ok (.goto 4, 3) := by decide +kernel
theorem dX6_who_16 : decode cX6_who 16 = .ok (.iconst (-1), 1) := by decide +kernel
theorem dX6_who_17 : decode cX6_who 17 = .ok (.ireturn, 1) := by decide +kernel
theorem dX7_init_0 : decode cX7_init 0 = .ok (.aload_n 0, 1) := by decide +kernel
theorem dX7_init_1 : decode cX7_init 1 = .ok (.invokespecial 3, 3) := by decide +kernel
theorem dX7_init_4 : decode cX7_init 4 = .ok (.aload_n 0, 1) := by decide +kernel
theorem dX7_init_5 : decode cX7_init 5 = .ok (.bipush 60, 2) := by decide +kernel
theorem dX7_init_7 : decode cX7_init 7 = .ok (.newarray .int, 2) := by decide +kernel
theorem dX7_init_9 : decode cX7_init 9 = .ok (.putfield 9, 3) := by decide +kernel
theorem dX7_init_12 : decode cX7_init 12 = .ok (.aload_n 0, 1) := by decide +kernel
theorem dX7_init_13 : decode cX7_init 13 = .ok (.iconst 0, 1) := by decide +kernel
theorem dX7_init_14 : decode cX7_init 14 = .ok (.putfield 15, 3) := by decide +kernel
theorem dX7_init_17 : decode cX7_init 17 = .ok (.aload_n 0, 1) := by decide +kernel
theorem dX7_init_18 : decode cX7_init 18 = .ok (.iconst 0, 1) := by decide +kernel
theorem dX7_init_19 : decode cX7_init 19 = .ok (.putfield 19, 3) := by decide +kernel
theorem dX7_init_22 : decode cX7_init 22 = .ok (.aload_n 0, 1) := by decide +kernel
theorem dX7_init_23 : decode cX7_init 23 = .ok (.iconst 1, 1) := by decide +kernel
theorem dX7_init_24 : decode cX7_init 24 = .ok (.putfield 22, 3) := by decide +kernel
theorem dX7_init_27 : decode cX7_init 27 = .ok (.return_, 1) := by decide +kernel
theorem dX7_renew_0 : decode cX7_renew 0 = .ok (.aload_n 0, 1) := by decide +kernel
theorem dX7_renew_1 : decode cX7_renew 1 = .ok (.iload_n 1, 1) := by decide +kernel
theorem dX7_renew_2 : decode cX7_renew 2 = .ok (.putfield 15, 3) := by decide +kernel
theorem dX7_renew_5 : decode cX7_renew 5 = .ok (.aload_n 0, 1) := by decide +kernel
theorem dX7_renew_6 : decode cX7_renew 6 = .ok (.iload_n 2, 1) := by decide +kernel
theorem dX7_renew_7 : decode cX7_renew 7 = .ok (.putfield 19, 3) := by decide +kernel
theorem dX7_renew_10 : decode cX7_renew 10 = .ok (.aload_n 0, 1) := by decide +kernel
theorem dX7_renew_11 : decode cX7_renew 11 = .ok (.iconst 0, 1) := by decide +kernel
theorem dX7_renew_12 : decode cX7_renew 12 = .ok (.putfield 22, 3) := by decide +kernel
theorem dX7_renew_15 : decode cX7_renew 15 = .ok (.iconst 0, 1) := by decide +kernel
theorem dX7_renew_16 : decode cX7_renew 16 = .ok (.istore_n 3, 1) := by decide +kernel
theorem dX7_renew_17 : decode cX7_renew 17 = .ok (.iload_n 3, 1) := by decide +kernel
theorem dX7_renew_18 : decode cX7_renew 18 = .ok (.aload_n 0, 1) := by decide +kernel
theorem dX7_renew_19 : decode cX7_renew 19 = .ok (.getfield 9, 3) := by decide +kernel
theorem dX7_renew_22 : decode cX7_renew 22 = .ok (.arraylength, 1) := by decide +kernel
theorem dX7_renew_23 : decode cX7_renew 23 = .ok (.if_icmp .ge 16, 3) := by decide +kernel
theorem dX7_renew_26 : decode cX7_renew 26 = .ok (.aload_n 0, 1) := by decide +kernel
theorem dX7_renew_27 : decode cX7_renew 27 = .ok (.getfield 9, 3) := by decide +kernel
theorem dX7_renew_30 : decode cX7_renew 30 = .ok (.iload_n 3, 1) := by decide +kernel
theorem dX7_renew_31 : decode cX7_renew 31 = .ok (.iconst 0, 1) := by decide +kernel
theorem dX7_renew_32 : decode cX7_renew 32 = .ok (.iastore, 1) := by decide +kernel
theorem dX7_renew_33 : decode cX7_renew 33 = .ok (.iinc 3 1, 3) := by decide +kernel
theorem dX7_renew_36 : decode cX7_renew 36 = .ok (.goto (-19), 3) := by decide +kernel
theorem dX7_renew_39 : decode cX7_renew 39 = .ok (.return_, 1) := by decide +kernel
theorem dX7_has_0 : decode cX7_has 0 = .ok (.iload_n 1, 1) := by decide +kernel
theorem dX7_has_1 : decode cX7_has 1 = .ok (.ifCond .lt 24, 3) := by decide +kernel
theorem dX7_has_4 : decode cX7_has 4 = .ok (.iload_n 1, 1) := by decide +kernel
theorem dX7_has_5 : decode cX7_has 5 = .ok (.aload_n 0, 1) := by decide +kernel
theorem dX7_has_6 : decode cX7_has 6 = .ok (.getfield 19, 3) := by decide +kernel
theorem dX7_has_9 : decode cX7_has 9 = .ok (.if_icmp .ge 16, 3) := by decide +kernel
theorem dX7_has_12 : decode cX7_has 12 = .ok (.iload_n 1, 1) := by decide +kernel
theorem dX7_has_13 : decode cX7_has 13 = .ok (.aload_n 0, 1) := by decide +kernel
theorem dX7_has_14 : decode cX7_has 14 = .ok (.getfield 9, 3) := by decide +kernel
theorem dX7_has_17 : decode cX7_has 17 = .ok (.arraylength, 1) := by decide +kernel
theorem dX7_has_18 : decode cX7_has 18 = .ok (.if_icmp .ge 7, 3) := by decide +kernel
theorem dX7_has_21 : decode cX7_has 21 = .ok (.iconst 1, 1) := by decide +kernel
theorem dX7_has_22 : decode cX7_has 22 = .ok (.goto 4, 3) := by decide +kernel
theorem dX7_has_25 : decode cX7_has 25 = .ok (.iconst 0, 1) := by decide +kernel
theorem dX7_has_26 : decode cX7_has 26 = .ok (.ireturn, 1) := by decide +kernel
theorem dX7_hasRun_0 : decode cX7_hasRun 0 = .ok (.iload_n 1, 1) := by decide +kernel
theorem dX7_hasRun_1 : decode cX7_hasRun 1 = .ok (.ifCond .lt 29, 3) := by decide +kernel
theorem dX7_hasRun_4 : decode cX7_hasRun 4 = .ok (.iload_n 2, 1) := by decide +kernel
theorem dX7_hasRun_5 : decode cX7_hasRun 5 = .ok (.ifCond .lt 25, 3) := by decide +kernel
theorem dX7_hasRun_8 : decode cX7_hasRun 8 = .ok (.iload_n 1, 1) := by decide +kernel
theorem dX7_hasRun_9 : decode cX7_hasRun 9 = .ok (.aload_n 0, 1) := by decide +kernel
theorem dX7_hasRun_10 : decode cX7_hasRun 10 = .ok (.getfield 19, 3) := by decide +kernel
theorem dX7_hasRun_13 : decode cX7_hasRun 13 = .ok (.if_icmp .gt 17, 3) := by decide +kernel
theorem dX7_hasRun_16 : decode cX7_hasRun 16 = .ok (.iload_n 2, 1) := by decide +kernel
theorem dX7_hasRun_17 : decode cX7_hasRun 17 = .ok (.aload_n 0, 1) := by decide +kernel
theorem dX7_hasRun_18 : decode cX7_hasRun 18 = .ok (.getfield 19, 3) := by decide +kernel
theorem dX7_hasRun_21 : decode cX7_hasRun 21 = .ok (.iload_n 1, 1) := by decide +kernel
theorem dX7_hasRun_22 : decode cX7_hasRun 22 = .ok (.isub, 1) := by decide +kernel
theorem dX7_hasRun_23 : decode cX7_hasRun 23 = .ok (.if_icmp .gt 7, 3) := by decide +kernel
theorem dX7_hasRun_26 : decode cX7_hasRun 26 = .ok (.iconst 1, 1) := by decide +kernel
theorem dX7_hasRun_27 : decode cX7_hasRun 27 = .ok (.goto 4, 3) := by decide +kernel
theorem dX7_hasRun_30 : decode cX7_hasRun 30 = .ok (.iconst 0, 1) := by decide +kernel
theorem dX7_hasRun_31 : decode cX7_hasRun 31 = .ok (.ireturn, 1) := by decide +kernel
theorem dX7_item_0 : decode cX7_item 0 = .ok (.aload_n 0, 1) := by decide +kernel
theorem dX7_item_1 : decode cX7_item 1 = .ok (.iload_n 1, 1) := by decide +kernel
theorem dX7_item_2 : decode cX7_item 2 = .ok (.invokevirtual 26, 3) := by decide +kernel
theorem dX7_item_5 : decode cX7_item 5 = .ok (.ifCond .eq 12, 3) := by decide +kernel
theorem dX7_item_8 : decode cX7_item 8 = .ok (.aload_n 0, 1) := by decide +kernel
theorem dX7_item_9 : decode cX7_item 9 = .ok (.getfield 9, 3) := by decide +kernel
theorem dX7_item_12 : decode cX7_item 12 = .ok (.iload_n 1, 1) := by decide +kernel
theorem dX7_item_13 : decode cX7_item 13 = .ok (.iaload, 1) := by decide +kernel
theorem dX7_item_14 : decode cX7_item 14 = .ok (.goto 4, 3) := by decide +kernel
theorem dX7_item_17 : decode cX7_item 17 = .ok (.iconst 0, 1) := by decide +kernel
theorem dX7_item_18 : decode cX7_item 18 = .ok (.ireturn, 1) := by decide +kernel
theorem dX7_store_0 : decode cX7_store 0 = .ok (.aload_n 0, 1) := by decide +kernel
theorem dX7_store_1 : decode cX7_store 1 = .ok (.iload_n 1, 1) := by decide +kernel
theorem dX7_store_2 : decode cX7_store 2 = .ok (.invokevirtual 26, 3) := by decide +kernel
theorem dX7_store_5 : decode cX7_store 5 = .ok (.ifCond .eq 35, 3) := by decide +kernel
theorem dX7_store_8 : decode cX7_store 8 = .ok (.aload_n 0, 1) := by decide +kernel
theorem dX7_store_9 : decode cX7_store 9 = .ok (.getfield 9, 3) := by decide +kernel
theorem dX7_store_12 : decode cX7_store 12 = .ok (.iload_n 1, 1) := by decide +kernel
theorem dX7_store_13 : decode cX7_store 13 = .ok (.aload_n 0, 1) := by decide +kernel
theorem dX7_store_14 : decode cX7_store 14 = .ok (.getfield 15, 3) := by decide +kernel
theorem dX7_store_17 : decode cX7_store 17 = .ok (.ifCond .ne 8, 3) := by decide +kernel
theorem dX7_store_20 : decode cX7_store 20 = .ok (.iload_n 2, 1) := by decide +kernel
theorem dX7_store_21 : decode cX7_store 21 = .ok (.i2b, 1) := by decide +kernel
theorem dX7_store_22 : decode cX7_store 22 = .ok (.goto 17, 3) := by decide +kernel
theorem dX7_store_25 : decode cX7_store 25 = .ok (.aload_n 0, 1) := by decide +kernel
theorem dX7_store_26 : decode cX7_store 26 = .ok (.getfield 15, 3) := by decide +kernel
theorem dX7_store_29 : decode cX7_store 29 = .ok (.iconst 1, 1) := by decide +kernel
theorem dX7_store_30 : decode cX7_store 30 = .ok (.if_icmp .ne 8, 3) := by decide +kernel
theorem dX7_store_33 : decode cX7_store 33 = .ok (.iload_n 2, 1) := by decide +kernel
theorem dX7_store_34 : decode cX7_store 34 = .ok (.i2s, 1) := by decide +kernel
theorem dX7_store_35 : decode cX7_store 35 = .ok (.goto 4, 3) := by decide +kernel
theorem dX7_store_38 : decode cX7_store 38 = .ok (.iload_n 2, 1) := by decide +kernel
theorem dX7_store_39 : decode cX7_store 39 = .ok (.iastore, 1) := by decide +kernel
theorem dX7_store_40 : decode cX7_store 40 = .ok (.return_, 1) := by decide +kernel
theorem dX8_init_0 : decode cX8_init 0 = .ok (.aload_n 0, 1) := by decide +kernel
theorem dX8_init_1 : decode cX8_init 1 = .ok (.invokespecial 1, 3) := by decide +kernel
theorem dX8_init_4 : decode cX8_init 4 = .ok (.aload_n 0, 1) := by decide +kernel
theorem dX8_init_5 : decode cX8_init 5 = .ok (.new 7, 3) := by decide +kernel
theorem dX8_init_8 : decode cX8_init 8 = .ok (.dup, 1) := by decide +kernel
theorem dX8_init_9 : decode cX8_init 9 = .ok (.invokespecial 9, 3) := by decide +kernel
theorem dX8_init_12 : decode cX8_init 12 = .ok (.putfield 10, 3) := by decide +kernel
theorem dX8_init_15 : decode cX8_init 15 = .ok (.aload_n 0, 1) := by decide +kernel
theorem dX8_init_16 : decode cX8_init 16 = .ok (.iconst 2, 1) := by decide +kernel
theorem dX8_init_17 : decode cX8_init 17 = .ok (.anewarray 16, 3) := by decide +kernel
theorem dX8_init_20 : decode cX8_init 20 = .ok (.putfield 18, 3) := by decide +kernel
theorem dX8_init_23 : decode cX8_init 23 = .ok (.aload_n 0, 1) := by decide +kernel
theorem dX8_init_24 : decode cX8_init 24 = .ok (.new 22, 3) := by decide +kernel
theorem dX8_init_27 : decode cX8_init 27 = .ok (.dup, 1) := by decide +kernel
theorem dX8_init_28 : decode cX8_init 28 = .ok (.invokespecial 24, 3) := by decide +kernel
theorem dX8_init_31 : decode cX8_init 31 = .ok (.putfield 25, 3) := by decide +kernel
theorem dX8_init_34 : decode cX8_init 34 = .ok (.aload_n 0, 1) := by decide +kernel
theorem dX8_init_35 : decode cX8_init 35 = .ok (.new 29, 3) := by decide +kernel
theorem dX8_init_38 : decode cX8_init 38 = .ok (.dup, 1) := by decide +kernel
theorem dX8_init_39 : decode cX8_init 39 = .ok (.invokespecial 31, 3) := by decide +kernel
theorem dX8_init_42 : decode cX8_init 42 = .ok (.putfield 32, 3) := by decide +kernel
theorem dX8_init_45 : decode cX8_init 45 = .ok (.aload_n 0, 1) := by decide +kernel
theorem dX8_init_46 : decode cX8_init 46 = .ok (.new 36, 3) := by decide +kernel
theorem dX8_init_49 : decode cX8_init 49 = .ok (.dup, 1) := by decide +kernel
theorem dX8_init_50 : decode cX8_init 50 = .ok (.invokespecial 38, 3) := by decide +kernel
theorem dX8_init_53 : decode cX8_init 53 = .ok (.putfield 39, 3) := by decide +kernel
theorem dX8_init_56 : decode cX8_init 56 = .ok (.aload_n 0, 1) := by decide +kernel
theorem dX8_init_57 : decode cX8_init 57 = .ok (.bipush 27, 2) := by decide +kernel
theorem dX8_init_59 : decode cX8_init 59 = .ok (.newarray .int, 2) := by decide +kernel
theorem dX8_init_61 : decode cX8_init 61 = .ok (.putfield 43, 3) := by decide +kernel
theorem dX8_init_64 : decode cX8_init 64 = .ok (.aload_n 0, 1) := by decide +kernel
theorem dX8_init_65 : decode cX8_init 65 = .ok (.new 47, 3) := by decide +kernel
theorem dX8_init_68 : decode cX8_init 68 = .ok (.dup, 1) := by decide +kernel
theorem dX8_init_69 : decode cX8_init 69 = .ok (.invokespecial 49, 3) := by decide +kernel
theorem dX8_init_72 : decode cX8_init 72 = .ok (.putfield 50, 3) := by decide +kernel
theorem dX8_init_75 : decode cX8_init 75 = .ok (.aload_n 0, 1) := by decide +kernel
theorem dX8_init_76 : decode cX8_init 76 = .ok (.iconst 4, 1) := by decide +kernel
theorem dX8_init_77 : decode cX8_init 77 = .ok (.anewarray 54, 3) := by decide +kernel
theorem dX8_init_80 : decode cX8_init 80 = .ok (.putfield 56, 3) := by decide +kernel
theorem dX8_init_83 : decode cX8_init 83 = .ok (.aload_n 0, 1) := by decide +kernel
theorem dX8_init_84 : decode cX8_init 84 = .ok (.iconst 3, 1) := by decide +kernel
theorem dX8_init_85 : decode cX8_init 85 = .ok (.putfield 60, 3) := by decide +kernel
theorem dX8_init_88 : decode cX8_init 88 = .ok (.aload_n 0, 1) := by decide +kernel
theorem dX8_init_89 : decode cX8_init 89 = .ok (.iconst 0, 1) := by decide +kernel
theorem dX8_init_90 : decode cX8_init 90 = .ok (.putfield 64, 3) := by decide +kernel
theorem dX8_init_93 : decode cX8_init 93 = .ok (.aload_n 0, 1) := by decide +kernel
theorem dX8_init_94 : decode cX8_init 94 = .ok (.iconst (-1), 1) := by decide +kernel
theorem dX8_init_95 : decode cX8_init 95 = .ok (.putfield 67, 3) := by decide +kernel
theorem dX8_init_98 : decode cX8_init 98 = .ok (.aload_n 0, 1) := by decide +kernel
theorem dX8_init_99 : decode cX8_init 99 = .ok (.iconst 0, 1) := by decide +kernel
theorem dX8_init_100 : decode cX8_init 100 = .ok (.putfield 70, 3) := by decide +kernel
theorem dX8_init_103 : decode cX8_init 103 = .ok (.aload_n 0, 1) := by decide +kernel
theorem dX8_init_104 : decode cX8_init 104 = .ok (.iconst 0, 1) := by decide +kernel
theorem dX8_init_105 : decode cX8_init 105 = .ok (.putfield 73, 3) := by decide +kernel
theorem dX8_init_108 : decode cX8_init 108 = .ok (.iconst 0, 1) := by decide +kernel
theorem dX8_init_109 : decode cX8_init 109 = .ok (.istore_n 1, 1) := by decide +kernel
theorem dX8_init_110 : decode cX8_init 110 = .ok (.iload_n 1, 1) := by decide +kernel
theorem dX8_init_111 : decode cX8_init 111 = .ok (.aload_n 0, 1) := by decide +kernel
theorem dX8_init_112 : decode cX8_init 112 = .ok (.getfield 18, 3) := by decide +kernel
theorem dX8_init_115 : decode cX8_init 115 = .ok (.arraylength, 1) := by decide +kernel
theorem dX8_init_116 : decode cX8_init 116 = .ok (.if_icmp .ge 22, 3) := by decide +kernel
theorem dX8_init_119 : decode cX8_init 119 = .ok (.aload_n 0, 1) := by decide +kernel
theorem dX8_init_120 : decode cX8_init 120 = .ok (.getfield 18, 3) := by decide +kernel
theorem dX8_init_123 : decode cX8_init 123 = .ok (.iload_n 1, 1) := by decide +kernel
theorem dX8_init_124 : decode cX8_init 124 = .ok (.new 16, 3) := by decide +kernel
theorem dX8_init_127 : decode cX8_init 127 = .ok (.dup, 1) := by decide +kernel
theorem dX8_init_128 : decode cX8_init 128 = .ok (.invokespecial 76, 3) := by decide +kernel
theorem dX8_init_131 : decode cX8_init 131 = .ok (.aastore, 1) := by decide +kernel
theorem dX8_init_132 : decode cX8_init 132 = .ok (.iinc 1 1, 3) := by decide +kernel
theorem dX8_init_135 : decode cX8_init 135 = .ok (.goto (-25), 3) := by decide +kernel
theorem dX8_init_138 : decode cX8_init 138 = .ok (.iconst 0, 1) := by decide +kernel
theorem dX8_init_139 : decode cX8_init 139 = .ok (.istore_n 1, 1) := by decide +kernel
theorem dX8_init_140 : decode cX8_init 140 = .ok (.iload_n 1, 1) := by decide +kernel
theorem dX8_init_141 : decode cX8_init 141 = .ok (.aload_n 0, 1) := by decide +kernel
theorem dX8_init_142 : decode cX8_init 142 = .ok (.getfield 56, 3) := by decide +kernel
theorem dX8_init_145 : decode cX8_init 145 = .ok (.arraylength, 1) := by decide +kernel
theorem dX8_init_146 : decode cX8_init 146 = .ok (.if_icmp .ge 22, 3) := by decide +kernel
theorem dX8_init_149 : decode cX8_init 149 = .ok (.aload_n 0, 1) := by decide +kernel
theorem dX8_init_150 : decode cX8_init 150 = .ok (.getfield 56, 3) := by decide +kernel
theorem dX8_init_153 : decode cX8_init 153 = .ok (.iload_n 1, 1) := by decide +kernel
theorem dX8_init_154 : decode cX8_init 154 = .ok (.new 54, 3) := by decide +kernel
theorem dX8_init_157 : decode cX8_init 157 = .ok (.dup, 1) := by decide +kernel
theorem dX8_init_158 : decode cX8_init 158 = .ok (.invokespecial 77, 3) := by decide +kernel
theorem dX8_init_161 : decode cX8_init 161 = .ok (.aastore, 1) := by decide +kernel
theorem dX8_init_162 : decode cX8_init 162 = .ok (.iinc 1 1, 3) := by decide +kernel
theorem dX8_init_165 : decode cX8_init 165 = .ok (.goto (-25), 3) := by decide +kernel
theorem dX8_init_168 : decode cX8_init 168 = .ok (.return_, 1) := by decide +kernel
theorem dX8_fighter_0 : decode cX8_fighter 0 = .ok (.iconst 0, 1) := by decide +kernel
theorem dX8_fighter_1 : decode cX8_fighter 1 = .ok (.iload_n 1, 1) := by decide +kernel
theorem dX8_fighter_2 : decode cX8_fighter 2 = .ok (.invokestatic 78, 3) := by decide +kernel
theorem dX8_fighter_5 : decode cX8_fighter 5 = .ok (.ifCond .eq 50, 3) := by decide +kernel
theorem dX8_fighter_8 : decode cX8_fighter 8 = .ok (.iconst 1, 1) := by decide +kernel
theorem dX8_fighter_9 : decode cX8_fighter 9 = .ok (.iload_n 2, 1) := by decide +kernel
theorem dX8_fighter_10 : decode cX8_fighter 10 = .ok (.invokestatic 78, 3) := by decide +kernel
theorem dX8_fighter_13 : decode cX8_fighter 13 = .ok (.ifCond .eq 42, 3) := by decide +kernel
theorem dX8_fighter_16 : decode cX8_fighter 16 = .ok (.iconst 2, 1) := by decide +kernel
theorem dX8_fighter_17 : decode cX8_fighter 17 = .ok (.iload_n 3, 1) := by decide +kernel
theorem dX8_fighter_18 : decode cX8_fighter 18 = .ok (.invokestatic 78, 3) := by decide +kernel
theorem dX8_fighter_21 : decode cX8_fighter 21 = .ok (.ifCond .eq 34, 3) := by decide +kernel
theorem dX8_fighter_24 : decode cX8_fighter 24 = .ok (.iconst 3, 1) := by decide +kernel
theorem dX8_fighter_25 : decode cX8_fighter 25 = .ok (.iload 4, 2) := by decide +kernel
theorem dX8_fighter_27 : decode cX8_fighter 27 = .ok (.invokestatic 78, 3) := by decide +kernel
theorem dX8_fighter_30 : decode cX8_fighter 30 = .ok (.ifCond .eq 25, 3) := by decide +kernel
theorem dX8_fighter_33 : decode cX8_fighter 33 = .ok (.iconst 4, 1) := by decide +kernel
theorem dX8_fighter_34 : decode cX8_fighter 34 = .ok (.iload 5, 2) := by decide +kernel
theorem dX8_fighter_36 : decode cX8_fighter 36 = .ok (.invokestatic 78, 3) := by decide +kernel
theorem dX8_fighter_39 : decode cX8_fighter 39 = .ok (.ifCond .eq 16, 3) := by decide +kernel
theorem dX8_fighter_42 : decode cX8_fighter 42 = .ok (.iconst 5, 1) := by decide +kernel
theorem dX8_fighter_43 : decode cX8_fighter 43 = .ok (.iload 6, 2) := by decide +kernel
theorem dX8_fighter_45 : decode cX8_fighter 45 = .ok (.invokestatic 78, 3) := by decide +kernel
theorem dX8_fighter_48 : decode cX8_fighter 48 = .ok (.ifCond .eq 7, 3) := by decide +kernel
theorem dX8_fighter_51 : decode cX8_fighter 51 = .ok (.iconst 1, 1) := by decide +kernel
theorem dX8_fighter_52 : decode cX8_fighter 52 = .ok (.goto 4, 3) := by decide +kernel
theorem dX8_fighter_55 : decode cX8_fighter 55 = .ok (.iconst 0, 1) := by decide +kernel
theorem dX8_fighter_56 : decode cX8_fighter 56 = .ok (.istore 7, 2) := by decide +kernel
theorem dX8_fighter_58 : decode cX8_fighter 58 = .ok (.iload 7, 2) := by decide +kernel
theorem dX8_fighter_60 : decode cX8_fighter 60 = .ok (.ifCond .ne 6, 3) := by decide +kernel
theorem dX8_fighter_63 : decode cX8_fighter 63 = .ok (.bipush (-2), 2) := by decide +kernel
theorem dX8_fighter_65 : decode cX8_fighter 65 = .ok (.ireturn, 1) := by decide +kernel
theorem dX8_fighter_66 : decode cX8_fighter 66 = .ok (.aload_n 0, 1) := by decide +kernel
theorem dX8_fighter_67 : decode cX8_fighter 67 = .ok (.getfield 10, 3) := by decide +kernel
theorem dX8_fighter_70 : decode cX8_fighter 70 = .ok (.getfield 82, 3) := by decide +kernel
theorem dX8_fighter_73 : decode cX8_fighter 73 = .ok (.bipush 16, 2) := by decide +kernel
theorem dX8_fighter_75 : decode cX8_fighter 75 = .ok (.if_icmp .lt 6, 3) := by decide +kernel
theorem dX8_fighter_78 : decode cX8_fighter 78 = .ok (.bipush (-4), 2) := by decide +kernel
theorem dX8_fighter_80 : decode cX8_fighter 80 = .ok (.ireturn, 1) := by decide +kernel
theorem dX8_fighter_81 : decode cX8_fighter 81 = .ok (.aload_n 0, 1) := by decide +kernel
theorem dX8_fighter_82 : decode cX8_fighter 82 = .ok (.getfield 10, 3) := by decide +kernel
theorem dX8_fighter_85 : decode cX8_fighter 85 = .ok (.getfield 82, 3) := by decide +kernel
theorem dX8_fighter_88 : decode cX8_fighter 88 = .ok (.istore 8, 2) := by decide +kernel
theorem dX8_fighter_90 : decode cX8_fighter 90 = .ok (.aload_n 0, 1) := by decide +kernel
theorem dX8_fighter_91 : decode cX8_fighter 91 = .ok (.getfield 10, 3) := by decide +kernel
theorem dX8_fighter_94 : decode cX8_fighter 94 = .ok (.dup, 1) := by decide +kernel
theorem dX8_fighter_95 : decode cX8_fighter 95 = .ok (.getfield 82, 3) := by decide +kernel
theorem dX8_fighter_98 : decode cX8_fighter 98 = .ok (.iconst 1, 1) := by decide +kernel
theorem dX8_fighter_99 : decode cX8_fighter 99 = .ok (.iadd, 1) := by decide +kernel
theorem dX8_fighter_100 : decode cX8_fighter 100 = .ok (.putfield 82, 3) := by decide +kernel
theorem dX8_fighter_103 : decode cX8_fighter 103 = .ok (.aload_n 0, 1) := by decide +kernel
theorem dX8_fighter_104 : decode cX8_fighter 104 = .ok (.getfield 10, 3) := by decide +kernel
theorem dX8_fighter_107 : decode cX8_fighter 107 = .ok (.iload 8, 2) := by decide +kernel
theorem dX8_fighter_109 : decode cX8_fighter 109 = .ok (.iconst 0, 1) := by decide +kernel
theorem dX8_fighter_110 : decode cX8_fighter 110 = .ok (.iload_n 1, 1) := by decide +kernel
theorem dX8_fighter_111 : decode cX8_fighter 111 = .ok (.invokevirtual 85, 3) := by decide +kernel
theorem dX8_fighter_114 : decode cX8_fighter 114 = .ok (.aload_n 0, 1) := by decide +kernel
theorem dX8_fighter_115 : decode cX8_fighter 115 = .ok (.getfield 10, 3) := by decide +kernel
theorem dX8_fighter_118 : decode cX8_fighter 118 = .ok (.iload 8, 2) := by decide +kernel
theorem dX8_fighter_120 : decode cX8_fighter 120 = .ok (.iconst 1, 1) := by decide +kernel
theorem dX8_fighter_121 : decode cX8_fighter 121 = .ok (.iload_n 2, 1) := by decide +kernel
theorem dX8_fighter_122 : decode cX8_fighter 122 = .ok (.invokevirtual 85, 3) := by decide +kernel
theorem dX8_fighter_125 : decode cX8_fighter 125 = .ok (.aload_n 0, 1) := by decide +kernel
theorem dX8_fighter_126 : decode cX8_fighter 126 = .ok (.getfield 10, 3) := by decide +kernel
theorem dX8_fighter_129 : decode cX8_fighter 129 = .ok (.iload 8, 2) := by decide +kernel
theorem dX8_fighter_131 : decode cX8_fighter 131 = .ok (.iconst 2, 1) := by decide +kernel
theorem dX8_fighter_132 : decode cX8_fighter 132 = .ok (.iload_n 3, 1) := by decide +kernel
theorem dX8_fighter_133 : decode cX8_fighter 133 = .ok (.invokevirtual 85, 3) := by decide +kernel
theorem dX8_fighter_136 : decode cX8_fighter 136 = .ok (.aload_n 0, 1) := by decide +kernel
theorem dX8_fighter_137 : decode cX8_fighter 137 = .ok (.getfield 10, 3) := by decide +kernel
theorem dX8_fighter_140 : decode cX8_fighter 140 = .ok (.iload 8, 2) := by decide +kernel
theorem dX8_fighter_142 : decode cX8_fighter 142 = .ok (.iconst 3, 1) := by decide +kernel
theorem dX8_fighter_143 : decode cX8_fighter 143 = .ok (.iload 4, 2) := by decide +kernel
theorem dX8_fighter_145 : decode cX8_fighter 145 = .ok (.invokevirtual 85, 3) := by decide +kernel
theorem dX8_fighter_148 : decode cX8_fighter 148 = .ok (.aload_n 0, 1) := by decide +kernel
theorem dX8_fighter_149 : decode cX8_fighter 149 = .ok (.getfield 10, 3) := by decide +kernel
theorem dX8_fighter_152 : decode cX8_fighter 152 = .ok (.iload 8, 2) := by decide +kernel
theorem dX8_fighter_154 : decode cX8_fighter 154 = .ok (.iconst 4, 1) := by decide +kernel
theorem dX8_fighter_155 : decode cX8_fighter 155 = .ok (.iload 5, 2) := by decide +kernel
theorem dX8_fighter_157 : decode cX8_fighter 157 = .ok (.invokevirtual 85, 3) := by decide +kernel
theorem dX8_fighter_160 : decode cX8_fighter 160 = .ok (.aload_n 0, 1) := by decide +kernel
theorem dX8_fighter_161 : decode cX8_fighter 161 = .ok (.getfield 10, 3) := by decide +kernel
theorem dX8_fighter_164 : decode cX8_fighter 164 = .ok (.iload 8, 2) := by decide +kernel
theorem dX8_fighter_166 : decode cX8_fighter 166 = .ok (.iconst 5, 1) := by decide +kernel
theorem dX8_fighter_167 : decode cX8_fighter 167 = .ok (.iload 6, 2) := by decide +kernel
theorem dX8_fighter_169 : decode cX8_fighter 169 = .ok (.invokevirtual 85, 3) := by decide +kernel
theorem dX8_fighter_172 : decode cX8_fighter 172 = .ok (.iload 8, 2) := by decide +kernel
theorem dX8_fighter_174 : decode cX8_fighter 174 = .ok (.ireturn, 1) := by decide +kernel
theorem dX8_about_0 : decode cX8_about 0 = .ok (.aload_n 0, 1) := by decide +kernel
theorem dX8_about_1 : decode cX8_about 1 = .ok (.getfield 10, 3) := by decide +kernel
theorem dX8_about_4 : decode cX8_about 4 = .ok (.iload_n 1, 1) := by decide +kernel
theorem dX8_about_5 : decode cX8_about 5 = .ok (.invokevirtual 89, 3) := by decide +kernel
theorem dX8_about_8 : decode cX8_about 8 = .ok (.ifCond .eq 12, 3) := by decide +kernel
theorem dX8_about_11 : decode cX8_about 11 = .ok (.iload_n 2, 1) := by decide +kernel
theorem dX8_about_12 : decode cX8_about 12 = .ok (.ifCond .lt 8, 3) := by decide +kernel
theorem dX8_about_15 : decode cX8_about 15 = .ok (.iload_n 2, 1) := by decide +kernel
theorem dX8_about_16 : decode cX8_about 16 = .ok (.iconst 5, 1) := by decide +kernel
theorem dX8_about_17 : decode cX8_about 17 = .ok (.if_icmp .le 6, 3) := by decide +kernel
theorem dX8_about_20 : decode cX8_about 20 = .ok (.bipush (-2), 2) := by decide +kernel
theorem dX8_about_22 : decode cX8_about 22 = .ok (.ireturn, 1) := by decide +kernel
theorem dX8_about_23 : decode cX8_about 23 = .ok (.aload_n 0, 1) := by decide +kernel
theorem dX8_about_24 : decode cX8_about 24 = .ok (.getfield 10, 3) := by decide +kernel
theorem dX8_about_27 : decode cX8_about 27 = .ok (.iload_n 1, 1) := by decide +kernel
theorem dX8_about_28 : decode cX8_about 28 = .ok (.iload_n 2, 1) := by decide +kernel
theorem dX8_about_29 : decode cX8_about 29 = .ok (.invokevirtual 93, 3) := by decide +kernel
theorem dX8_about_32 : decode cX8_about 32 = .ok (.ireturn, 1) := by decide +kernel
theorem dX8_tune_0 : decode cX8_tune 0 = .ok (.aload_n 0, 1) := by decide +kernel
theorem dX8_tune_1 : decode cX8_tune 1 = .ok (.getfield 10, 3) := by decide +kernel
theorem dX8_tune_4 : decode cX8_tune 4 = .ok (.iload_n 1, 1) := by decide +kernel
theorem dX8_tune_5 : decode cX8_tune 5 = .ok (.invokevirtual 89, 3) := by decide +kernel
theorem dX8_tune_8 : decode cX8_tune 8 = .ok (.ifCond .eq 15, 3) := by decide +kernel
theorem dX8_tune_11 : decode cX8_tune 11 = .ok (.iload_n 2, 1) := by decide +kernel
theorem dX8_tune_12 : decode cX8_tune 12 = .ok (.ifCond .eq 11, 3) := by decide +kernel
theorem dX8_tune_15 : decode cX8_tune 15 = .ok (.iload_n 2, 1) := by decide +kernel
theorem dX8_tune_16 : decode cX8_tune 16 = .ok (.iload_n 3, 1) := by decide +kernel
theorem dX8_tune_17 : decode cX8_tune 17 = .ok (.invokestatic 78, 3) := by decide +kernel
theorem dX8_tune_20 : decode cX8_tune 20 = .ok (.ifCond .ne 6, 3) := by decide +kernel
theorem dX8_tune_23 : decode cX8_tune 23 = .ok (.bipush (-2), 2) := by decide +kernel
theorem dX8_tune_25 : decode cX8_tune 25 = .ok (.ireturn, 1) := by decide +kernel
theorem dX8_tune_26 : decode cX8_tune 26 = .ok (.aload_n 0, 1) := by decide +kernel
theorem dX8_tune_27 : decode cX8_tune 27 = .ok (.getfield 10, 3) := by decide +kernel
theorem dX8_tune_30 : decode cX8_tune 30 = .ok (.iload_n 1, 1) := by decide +kernel
theorem dX8_tune_31 : decode cX8_tune 31 = .ok (.iload_n 2, 1) := by decide +kernel
theorem dX8_tune_32 : decode cX8_tune 32 = .ok (.invokevirtual 93, 3) := by decide +kernel
theorem dX8_tune_35 : decode cX8_tune 35 = .ok (.istore 4, 2) := by decide +kernel
theorem dX8_tune_37 : decode cX8_tune 37 = .ok (.aload_n 0, 1) := by decide +kernel
theorem dX8_tune_38 : decode cX8_tune 38 = .ok (.getfield 10, 3) := by decide +kernel
theorem dX8_tune_41 : decode cX8_tune 41 = .ok (.iload_n 1, 1) := by decide +kernel
theorem dX8_tune_42 : decode cX8_tune 42 = .ok (.iload_n 2, 1) := by decide +kernel
theorem dX8_tune_43 : decode cX8_tune 43 = .ok (.iload_n 3, 1) := by decide +kernel
theorem dX8_tune_44 : decode cX8_tune 44 = .ok (.invokevirtual 85, 3) := by decide +kernel
theorem dX8_tune_47 : decode cX8_tune 47 = .ok (.iload 4, 2) := by decide +kernel
theorem dX8_tune_49 : decode cX8_tune 49 = .ok (.ireturn, 1) := by decide +kernel
theorem dX8_side_0 : decode cX8_side 0 = .ok (.aload_n 0, 1) := by decide +kernel
theorem dX8_side_1 : decode cX8_side 1 = .ok (.iload_n 2, 1) := by decide +kernel
theorem dX8_side_2 : decode cX8_side 2 = .ok (.iload_n 3, 1) := by decide +kernel
theorem dX8_side_3 : decode cX8_side 3 = .ok (.iload 4, 2) := by decide +kernel
theorem dX8_side_5 : decode cX8_side 5 = .ok (.invokevirtual 97, 3) := by decide +kernel
theorem dX8_side_8 : decode cX8_side 8 = .ok (.istore 5, 2) := by decide +kernel
theorem dX8_side_10 : decode cX8_side 10 = .ok (.iload_n 1, 1) := by decide +kernel
theorem dX8_side_11 : decode cX8_side 11 = .ok (.invokestatic 101, 3) := by decide +kernel
theorem dX8_side_14 : decode cX8_side 14 = .ok (.ifCond .eq 10, 3) := by decide +kernel
theorem dX8_side_17 : decode cX8_side 17 = .ok (.iload 5, 2) := by decide +kernel
theorem dX8_side_19 : decode cX8_side 19 = .ok (.bipush (-2), 2) := by decide +kernel
theorem dX8_side_21 : decode cX8_side 21 = .ok (.if_icmp .ne 6, 3) := by decide +kernel
theorem dX8_side_24 : decode cX8_side 24 = .ok (.bipush (-2), 2) := by decide +kernel
theorem dX8_side_26 : decode cX8_side 26 = .ok (.ireturn, 1) := by decide +kernel
theorem dX8_side_27 : decode cX8_side 27 = .ok (.aload_n 0, 1) := by decide +kernel
theorem dX8_side_28 : decode cX8_side 28 = .ok (.getfield 18, 3) := by decide +kernel
theorem dX8_side_31 : decode cX8_side 31 = .ok (.iload_n 1, 1) := by decide +kernel
theorem dX8_side_32 : decode cX8_side 32 = .ok (.aaload, 1) := by decide +kernel
theorem dX8_side_33 : decode cX8_side 33 = .ok (.iload_n 2, 1) := by decide +kernel
theorem dX8_side_34 : decode cX8_side 34 = .ok (.iload_n 3, 1) := by decide +kernel
theorem dX8_side_35 : decode cX8_side 35 = .ok (.iload 4, 2) := by decide +kernel
theorem dX8_side_37 : decode cX8_side 37 = .ok (.iload 5, 2) := by decide +kernel
theorem dX8_side_39 : decode cX8_side 39 = .ok (.invokevirtual 104, 3) := by decide +kernel
theorem dX8_side_42 : decode cX8_side 42 = .ok (.iload 5, 2) := by decide +kernel
theorem dX8_side_44 : decode cX8_side 44 = .ok (.ireturn, 1) := by decide +kernel
theorem dX8_at_0 : decode cX8_at 0 = .ok (.iload_n 1, 1) := by decide +kernel
theorem dX8_at_1 : decode cX8_at 1 = .ok (.invokestatic 101, 3) := by decide +kernel
theorem dX8_at_4 : decode cX8_at 4 = .ok (.ifCond .eq 10, 3) := by decide +kernel
theorem dX8_at_7 : decode cX8_at 7 = .ok (.iload_n 2, 1) := by decide +kernel
theorem dX8_at_8 : decode cX8_at 8 = .ok (.invokestatic 108, 3) := by decide +kernel
theorem dX8_at_11 : decode cX8_at 11 = .ok (.ifCond .ne 6, 3) := by decide +kernel
theorem dX8_at_14 : decode cX8_at 14 = .ok (.bipush (-2), 2) := by decide +kernel
theorem dX8_at_16 : decode cX8_at 16 = .ok (.ireturn, 1) := by decide +kernel
theorem dX8_at_17 : decode cX8_at 17 = .ok (.aload_n 0, 1) := by decide +kernel
theorem dX8_at_18 : decode cX8_at 18 = .ok (.getfield 18, 3) := by decide +kernel
theorem dX8_at_21 : decode cX8_at 21 = .ok (.iload_n 1, 1) := by decide +kernel
theorem dX8_at_22 : decode cX8_at 22 = .ok (.aaload, 1) := by decide +kernel
theorem dX8_at_23 : decode cX8_at 23 = .ok (.iload_n 2, 1) := by decide +kernel
theorem dX8_at_24 : decode cX8_at 24 = .ok (.invokevirtual 111, 3) := by decide +kernel
theorem dX8_at_27 : decode cX8_at 27 = .ok (.ireturn, 1) := by decide +kernel
theorem dX8_laws_0 : decode cX8_laws 0 = .ok (.iload_n 1, 1) := by decide +kernel
theorem dX8_laws_1 : decode cX8_laws 1 = .ok (.iconst 1, 1) := by decide +kernel
theorem dX8_laws_2 : decode cX8_laws 2 = .ok (.if_icmp .lt 29, 3) := by decide +kernel
theorem dX8_laws_5 : decode cX8_laws 5 = .ok (.iload_n 1, 1) := by decide +kernel
theorem dX8_laws_6 : decode cX8_laws 6 = .ok (.bipush 6, 2) := by decide +kernel
theorem dX8_laws_8 : decode cX8_laws 8 = .ok (.if_icmp .gt 23, 3) := by decide +kernel
theorem dX8_laws_11 : decode cX8_laws 11 = .ok (.iload_n 2, 1) := by decide +kernel
theorem dX8_laws_12 : decode cX8_laws 12 = .ok (.ifCond .eq 8, 3) := by decide +kernel
theorem dX8_laws_15 : decode cX8_laws 15 = .ok (.iload_n 2, 1) := by decide +kernel
theorem dX8_laws_16 : decode cX8_laws 16 = .ok (.iconst 1, 1) := by decide +kernel
theorem dX8_laws_17 : decode cX8_laws 17 = .ok (.if_icmp .ne 14, 3) := by decide +kernel
theorem dX8_laws_20 : decode cX8_laws 20 = .ok (.iload_n 3, 1) := by decide +kernel
theorem dX8_laws_21 : decode cX8_laws 21 = .ok (.invokestatic 115, 3) := by decide +kernel
theorem dX8_laws_24 : decode cX8_laws 24 = .ok (.ifCond .eq 7, 3) := by decide +kernel
theorem dX8_laws_27 : decode cX8_laws 27 = .ok (.iconst 1, 1) := by decide +kernel
theorem dX8_laws_28 : decode cX8_laws 28 = .ok (.goto 4, 3) := by decide +kernel
theorem dX8_laws_31 : decode cX8_laws 31 = .ok (.iconst 0, 1) := by decide +kernel
theorem dX8_laws_32 : decode cX8_laws 32 = .ok (.istore 4, 2) := by decide +kernel
theorem dX8_laws_34 : decode cX8_laws 34 = .ok (.iload 4, 2) := by decide +kernel
theorem dX8_laws_36 : decode cX8_laws 36 = .ok (.ifCond .ne 6, 3) := by decide +kernel
theorem dX8_laws_39 : decode cX8_laws 39 = .ok (.bipush (-2), 2) := by decide +kernel
theorem dX8_laws_41 : decode cX8_laws 41 = .ok (.ireturn, 1) := by decide +kernel
theorem dX8_laws_42 : decode cX8_laws 42 = .ok (.aload_n 0, 1) := by decide +kernel
theorem dX8_laws_43 : decode cX8_laws 43 = .ok (.iload_n 1, 1) := by decide +kernel
theorem dX8_laws_44 : decode cX8_laws 44 = .ok (.putfield 60, 3) := by decide +kernel
theorem dX8_laws_47 : decode cX8_laws 47 = .ok (.aload_n 0, 1) := by decide +kernel
theorem dX8_laws_48 : decode cX8_laws 48 = .ok (.iload_n 2, 1) := by decide +kernel
theorem dX8_laws_49 : decode cX8_laws 49 = .ok (.putfield 64, 3) := by decide +kernel
theorem dX8_laws_52 : decode cX8_laws 52 = .ok (.aload_n 0, 1) := by decide +kernel
theorem dX8_laws_53 : decode cX8_laws 53 = .ok (.iload_n 3, 1) := by decide +kernel
theorem dX8_laws_54 : decode cX8_laws 54 = .ok (.putfield 67, 3) := by decide +kernel
theorem dX8_laws_57 : decode cX8_laws 57 = .ok (.iconst 1, 1) := by decide +kernel
theorem dX8_laws_58 : decode cX8_laws 58 = .ok (.ireturn, 1) := by decide +kernel
theorem dX8_slots_0 : decode cX8_slots 0 = .ok (.aload_n 0, 1) := by decide +kernel
theorem dX8_slots_1 : decode cX8_slots 1 = .ok (.getfield 60, 3) := by decide +kernel
theorem dX8_slots_4 : decode cX8_slots 4 = .ok (.aload_n 0, 1) := by decide +kernel
theorem dX8_slots_5 : decode cX8_slots 5 = .ok (.getfield 18, 3) := by decide +kernel
theorem dX8_slots_8 : decode cX8_slots 8 = .ok (.iconst 0, 1) := by decide +kernel
theorem dX8_slots_9 : decode cX8_slots 9 = .ok (.aaload, 1) := by decide +kernel
theorem dX8_slots_10 : decode cX8_slots 10 = .ok (.getfield 118, 3) := by decide +kernel
theorem dX8_slots_13 : decode cX8_slots 13 = .ok (.aload_n 0, 1) := by decide +kernel
theorem dX8_slots_14 : decode cX8_slots 14 = .ok (.getfield 18, 3) := by decide +kernel
theorem dX8_slots_17 : decode cX8_slots 17 = .ok (.iconst 1, 1) := by decide +kernel
theorem dX8_slots_18 : decode cX8_slots 18 = .ok (.aaload, 1) := by decide +kernel
theorem dX8_slots_19 : decode cX8_slots 19 = .ok (.getfield 118, 3) := by decide +kernel
theorem dX8_slots_22 : decode cX8_slots 22 = .ok (.iadd, 1) := by decide +kernel
theorem dX8_slots_23 : decode cX8_slots 23 = .ok (.imul, 1) := by decide +kernel
theorem dX8_slots_24 : decode cX8_slots 24 = .ok (.ireturn, 1) := by decide +kernel
theorem dX8_all_0 : decode cX8_all 0 = .ok (.aload_n 0, 1) := by decide +kernel
theorem dX8_all_1 : decode cX8_all 1 = .ok (.invokevirtual 119, 3) := by decide +kernel
theorem dX8_all_4 : decode cX8_all 4 = .ok (.ifCond .eq 13, 3) := by decide +kernel
theorem dX8_all_7 : decode cX8_all 7 = .ok (.aload_n 0, 1) := by decide +kernel
theorem dX8_all_8 : decode cX8_all 8 = .ok (.getfield 32, 3) := by decide +kernel
theorem dX8_all_11 : decode cX8_all 11 = .ok (.getfield 123, 3) := by decide +kernel
theorem dX8_all_14 : decode cX8_all 14 = .ok (.goto 8, 3) := by decide +kernel
theorem dX8_all_17 : decode cX8_all 17 = .ok (.bipush (-5), 2) := by decide +kernel
theorem dX8_all_19 : decode cX8_all 19 = .ok (.invokestatic 127, 3) := by decide +kernel
theorem dX8_all_22 : decode cX8_all 22 = .ok (.lreturn, 1) := by decide +kernel
theorem dX8_ways_0 : decode cX8_ways 0 = .ok (.iload_n 1, 1) := by decide +kernel
theorem dX8_ways_1 : decode cX8_ways 1 = .ok (.ifCond .lt 8, 3) := by decide +kernel
theorem dX8_ways_4 : decode cX8_ways 4 = .ok (.iload_n 1, 1) := by decide +kernel
theorem dX8_ways_5 : decode cX8_ways 5 = .ok (.iconst 2, 1) := by decide +kernel
theorem dX8_ways_6 : decode cX8_ways 6 = .ok (.if_icmp .le 9, 3) := by decide +kernel
theorem dX8_ways_9 : decode cX8_ways 9 = .ok (.bipush (-2), 2) := by decide +kernel
theorem dX8_ways_11 : decode cX8_ways 11 = .ok (.invokestatic 127, 3) := by decide +kernel
theorem dX8_ways_14 : decode cX8_ways 14 = .ok (.lreturn, 1) := by decide +kernel
theorem dX8_ways_15 : decode cX8_ways 15 = .ok (.aload_n 0, 1) := by decide +kernel
theorem dX8_ways_16 : decode cX8_ways 16 = .ok (.invokevirtual 119, 3) := by decide +kernel
theorem dX8_ways_19 : decode cX8_ways 19 = .ok (.ifCond .eq 15, 3) := by decide +kernel
theorem dX8_ways_22 : decode cX8_ways 22 = .ok (.aload_n 0, 1) := by decide +kernel
theorem dX8_ways_23 : decode cX8_ways 23 = .ok (.getfield 32, 3) := by decide +kernel
theorem dX8_ways_26 : decode cX8_ways 26 = .ok (.getfield 131, 3) := by decide +kernel
theorem dX8_ways_29 : decode cX8_ways 29 = .ok (.iload_n 1, 1) := by decide +kernel
theorem dX8_ways_30 : decode cX8_ways 30 = .ok (.laload, 1) := by decide +kernel
theorem dX8_ways_31 : decode cX8_ways 31 = .ok (.goto 8, 3) := by decide +kernel
theorem dX8_ways_34 : decode cX8_ways 34 = .ok (.bipush (-5), 2) := by decide +kernel
theorem dX8_ways_36 : decode cX8_ways 36 = .ok (.invokestatic 127, 3) := by decide +kernel
theorem dX8_ways_39 : decode cX8_ways 39 = .ok (.lreturn, 1) := by decide +kernel
theorem dX8_chance_0 : decode cX8_chance 0 = .ok (.aload_n 0, 1) := by decide +kernel
theorem dX8_chance_1 : decode cX8_chance 1 = .ok (.invokevirtual 119, 3) := by decide +kernel
theorem dX8_chance_4 : decode cX8_chance 4 = .ok (.ifCond .eq 13, 3) := by decide +kernel
theorem dX8_chance_7 : decode cX8_chance 7 = .ok (.aload_n 0, 1) := by decide +kernel
theorem dX8_chance_8 : decode cX8_chance 8 = .ok (.getfield 32, 3) := by decide +kernel
theorem dX8_chance_11 : decode cX8_chance 11 = .ok (.invokevirtual 135, 3) := by decide +kernel
theorem dX8_chance_14 : decode cX8_chance 14 = .ok (.goto 5, 3) := by decide +kernel
theorem dX8_chance_17 : decode cX8_chance 17 = .ok (.bipush (-5), 2) := by decide +kernel
theorem dX8_chance_19 : decode cX8_chance 19 = .ok (.ireturn, 1) := by decide +kernel
theorem dX8_left_0 : decode cX8_left 0 = .ok (.iload_n 1, 1) := by decide +kernel
theorem dX8_left_1 : decode cX8_left 1 = .ok (.invokestatic 101, 3) := by decide +kernel
theorem dX8_left_4 : decode cX8_left 4 = .ok (.ifCond .eq 35, 3) := by decide +kernel
theorem dX8_left_7 : decode cX8_left 7 = .ok (.iload_n 2, 1) := by decide +kernel
theorem dX8_left_8 : decode cX8_left 8 = .ok (.invokestatic 108, 3) := by decide +kernel
theorem dX8_left_11 : decode cX8_left 11 = .ok (.ifCond .eq 28, 3) := by decide +kernel
theorem dX8_left_14 : decode cX8_left 14 = .ok (.iload_n 3, 1) := by decide +kernel
theorem dX8_left_15 : decode cX8_left 15 = .ok (.ifCond .lt 24, 3) := by decide +kernel
theorem dX8_left_18 : decode cX8_left 18 = .ok (.iload_n 3, 1) := by decide +kernel
theorem dX8_left_19 : decode cX8_left 19 = .ok (.bipush 20, 2) := by decide +kernel
theorem dX8_left_21 : decode cX8_left 21 = .ok (.if_icmp .gt 18, 3) := by decide +kernel
theorem dX8_left_24 : decode cX8_left 24 = .ok (.iload 4, 2) := by decide +kernel
theorem dX8_left_26 : decode cX8_left 26 = .ok (.ifCond .eq 9, 3) := by decide +kernel
theorem dX8_left_29 : decode cX8_left 29 = .ok (.iload 4, 2) := by decide +kernel
theorem dX8_left_31 : decode cX8_left 31 = .ok (.iconst 1, 1) := by decide +kernel
theorem dX8_left_32 : decode cX8_left 32 = .ok (.if_icmp .ne 7, 3) := by decide +kernel
theorem dX8_left_35 : decode cX8_left 35 = .ok (.iconst 1, 1) := by decide +kernel
theorem dX8_left_36 : decode cX8_left 36 = .ok (.goto 4, 3) := by decide +kernel
theorem dX8_left_39 : decode cX8_left 39 = .ok (.iconst 0, 1) := by decide +kernel
theorem dX8_left_40 : decode cX8_left 40 = .ok (.istore 5, 2) := by decide +kernel
theorem dX8_left_42 : decode cX8_left 42 = .ok (.iload 5, 2) := by decide +kernel
theorem dX8_left_44 : decode cX8_left 44 = .ok (.ifCond .eq 17, 3) := by decide +kernel
theorem dX8_left_47 : decode cX8_left 47 = .ok (.aload_n 0, 1) := by decide +kernel
theorem dX8_left_48 : decode cX8_left 48 = .ok (.getfield 18, 3) := by decide +kernel
theorem dX8_left_51 : decode cX8_left 51 = .ok (.iload_n 1, 1) := by decide +kernel
theorem dX8_left_52 : decode cX8_left 52 = .ok (.aaload, 1) := by decide +kernel
theorem dX8_left_53 : decode cX8_left 53 = .ok (.iload_n 2, 1) := by decide +kernel
theorem dX8_left_54 : decode cX8_left 54 = .ok (.invokevirtual 111, 3) := by decide +kernel
theorem dX8_left_57 : decode cX8_left 57 = .ok (.iconst (-1), 1) := by decide +kernel
theorem dX8_left_58 : decode cX8_left 58 = .ok (.if_icmp .ne 9, 3) := by decide +kernel
theorem dX8_left_61 : decode cX8_left 61 = .ok (.bipush (-2), 2) := by decide +kernel
theorem dX8_left_63 : decode cX8_left 63 = .ok (.invokestatic 127, 3) := by decide +kernel
theorem dX8_left_66 : decode cX8_left 66 = .ok (.lreturn, 1) := by decide +kernel
theorem dX8_left_67 : decode cX8_left 67 = .ok (.aload_n 0, 1) := by decide +kernel
theorem dX8_left_68 : decode cX8_left 68 = .ok (.invokevirtual 119, 3) := by decide +kernel
theorem dX8_left_71 : decode cX8_left 71 = .ok (.ifCond .eq 30, 3) := by decide +kernel
theorem dX8_left_74 : decode cX8_left 74 = .ok (.aload_n 0, 1) := by decide +kernel
theorem dX8_left_75 : decode cX8_left 75 = .ok (.getfield 32, 3) := by decide +kernel
theorem dX8_left_78 : decode cX8_left 78 = .ok (.iload_n 1, 1) := by decide +kernel
theorem dX8_left_79 : decode cX8_left 79 = .ok (.iload_n 2, 1) := by decide +kernel
theorem dX8_left_80 : decode cX8_left 80 = .ok (.invokestatic 139, 3) := by decide +kernel
theorem dX8_left_83 : decode cX8_left 83 = .ok (.iload_n 3, 1) := by decide +kernel
theorem dX8_left_84 : decode cX8_left 84 = .ok (.iload 4, 2) := by decide +kernel
theorem dX8_left_86 : decode cX8_left 86 = .ok (.iconst 1, 1) := by decide +kernel
theorem dX8_left_87 : decode cX8_left 87 = .ok (.if_icmp .ne 7, 3) := by decide +kernel
theorem dX8_left_90 : decode cX8_left 90 = .ok (.iconst 1, 1) := by decide +kernel
theorem dX8_left_91 : decode cX8_left 91 = .ok (.goto 4, 3) := by decide +kernel
theorem dX8_left_94 : decode cX8_left 94 = .ok (.iconst 0, 1) := by decide +kernel
theorem dX8_left_95 : decode cX8_left 95 = .ok (.invokevirtual 142, 3) := by decide +kernel
theorem dX8_left_98 : decode cX8_left 98 = .ok (.goto 8, 3) := by decide +kernel
theorem dX8_left_101 : decode cX8_left 101 = .ok (.bipush (-5), 2) := by decide +kernel
theorem dX8_left_103 : decode cX8_left 103 = .ok (.invokestatic 127, 3) := by decide +kernel
theorem dX8_left_106 : decode cX8_left 106 = .ok (.lreturn, 1) := by decide +kernel
theorem dX8_states_0 : decode cX8_states 0 = .ok (.aload_n 0, 1) := by decide +kernel
theorem dX8_states_1 : decode cX8_states 1 = .ok (.invokevirtual 119, 3) := by decide +kernel
theorem dX8_states_4 : decode cX8_states 4 = .ok (.ifCond .eq 13, 3) := by decide +kernel
theorem dX8_states_7 : decode cX8_states 7 = .ok (.aload_n 0, 1) := by decide +kernel
theorem dX8_states_8 : decode cX8_states 8 = .ok (.getfield 32, 3) := by decide +kernel
theorem dX8_states_11 : decode cX8_states 11 = .ok (.getfield 146, 3) := by decide +kernel
theorem dX8_states_14 : decode cX8_states 14 = .ok (.goto 5, 3) := by decide +kernel
theorem dX8_states_17 : decode cX8_states 17 = .ok (.bipush (-5), 2) := by decide +kernel
theorem dX8_states_19 : decode cX8_states 19 = .ok (.ireturn, 1) := by decide +kernel
theorem dX8_ends_0 : decode cX8_ends 0 = .ok (.iload_n 1, 1) := by decide +kernel
theorem dX8_ends_1 : decode cX8_ends 1 = .ok (.ifCond .lt 11, 3) := by decide +kernel
theorem dX8_ends_4 : decode cX8_ends 4 = .ok (.iload_n 1, 1) := by decide +kernel
theorem dX8_ends_5 : decode cX8_ends 5 = .ok (.aload_n 0, 1) := by decide +kernel
theorem dX8_ends_6 : decode cX8_ends 6 = .ok (.getfield 60, 3) := by decide +kernel
theorem dX8_ends_9 : decode cX8_ends 9 = .ok (.if_icmp .le 9, 3) := by decide +kernel
theorem dX8_ends_12 : decode cX8_ends 12 = .ok (.bipush (-2), 2) := by decide +kernel
theorem dX8_ends_14 : decode cX8_ends 14 = .ok (.invokestatic 127, 3) := by decide +kernel
theorem dX8_ends_17 : decode cX8_ends 17 = .ok (.lreturn, 1) := by decide +kernel
theorem dX8_ends_18 : decode cX8_ends 18 = .ok (.aload_n 0, 1) := by decide +kernel
theorem dX8_ends_19 : decode cX8_ends 19 = .ok (.invokevirtual 119, 3) := by decide +kernel
theorem dX8_ends_22 : decode cX8_ends 22 = .ok (.ifCond .eq 15, 3) := by decide +kernel
theorem dX8_ends_25 : decode cX8_ends 25 = .ok (.aload_n 0, 1) := by decide +kernel
theorem dX8_ends_26 : decode cX8_ends 26 = .ok (.getfield 32, 3) := by decide +kernel
theorem dX8_ends_29 : decode cX8_ends 29 = .ok (.getfield 149, 3) := by decide +kernel
theorem dX8_ends_32 : decode cX8_ends 32 = .ok (.iload_n 1, 1) := by decide +kernel
theorem dX8_ends_33 : decode cX8_ends 33 = .ok (.laload, 1) := by decide +kernel
theorem dX8_ends_34 : decode cX8_ends 34 = .ok (.goto 8, 3) := by decide +kernel
theorem dX8_ends_37 : decode cX8_ends 37 = .ok (.bipush (-5), 2) := by decide +kernel
theorem dX8_ends_39 : decode cX8_ends 39 = .ok (.invokestatic 127, 3) := by decide +kernel
theorem dX8_ends_42 : decode cX8_ends 42 = .ok (.lreturn, 1) := by decide +kernel
theorem dX8_better_0 : decode cX8_better 0 = .ok (.aload_n 0, 1) := by decide +kernel
theorem dX8_better_1 : decode cX8_better 1 = .ok (.getfield 10, 3) := by decide +kernel
theorem dX8_better_4 : decode cX8_better 4 = .ok (.iload_n 1, 1) := by decide +kernel
theorem dX8_better_5 : decode cX8_better 5 = .ok (.invokevirtual 89, 3) := by decide +kernel
theorem dX8_better_8 : decode cX8_better 8 = .ok (.ifCond .eq 12, 3) := by decide +kernel
theorem dX8_better_11 : decode cX8_better 11 = .ok (.iload_n 2, 1) := by decide +kernel
theorem dX8_better_12 : decode cX8_better 12 = .ok (.ifCond .le 8, 3) := by decide +kernel
theorem dX8_better_15 : decode cX8_better 15 = .ok (.iload_n 2, 1) := by decide +kernel
theorem dX8_better_16 : decode cX8_better 16 = .ok (.iconst 5, 1) := by decide +kernel
theorem dX8_better_17 : decode cX8_better 17 = .ok (.if_icmp .le 6, 3) := by decide +kernel
theorem dX8_better_20 : decode cX8_better 20 = .ok (.ldc 152, 2) := by decide +kernel
theorem dX8_better_22 : decode cX8_better 22 = .ok (.ireturn, 1) := by decide +kernel
theorem dX8_better_23 : decode cX8_better 23 = .ok (.aload_n 0, 1) := by decide +kernel
theorem dX8_better_24 : decode cX8_better 24 = .ok (.getfield 10, 3) := by decide +kernel
theorem dX8_better_27 : decode cX8_better 27 = .ok (.iload_n 1, 1) := by decide +kernel
theorem dX8_better_28 : decode cX8_better 28 = .ok (.iload_n 2, 1) := by decide +kernel
theorem dX8_better_29 : decode cX8_better 29 = .ok (.invokevirtual 93, 3) := by decide +kernel
theorem dX8_better_32 : decode cX8_better 32 = .ok (.istore_n 3, 1) := by decide +kernel
theorem dX8_better_33 : decode cX8_better 33 = .ok (.iload_n 2, 1) := by decide +kernel
theorem dX8_better_34 : decode cX8_better 34 = .ok (.iload_n 3, 1) := by decide +kernel
theorem dX8_better_35 : decode cX8_better 35 = .ok (.iconst 1, 1) := by decide +kernel
theorem dX8_better_36 : decode cX8_better 36 = .ok (.iadd, 1) := by decide +kernel
theorem dX8_better_37 : decode cX8_better 37 = .ok (.invokestatic 78, 3) := by decide +kernel
theorem dX8_better_40 : decode cX8_better 40 = .ok (.ifCond .ne 6, 3) := by decide +kernel
theorem dX8_better_43 : decode cX8_better 43 = .ok (.ldc 152, 2) := by decide +kernel
theorem dX8_better_45 : decode cX8_better 45 = .ok (.ireturn, 1) := by decide +kernel
theorem dX8_better_46 : decode cX8_better 46 = .ok (.aload_n 0, 1) := by decide +kernel
theorem dX8_better_47 : decode cX8_better 47 = .ok (.invokevirtual 153, 3) := by decide +kernel
theorem dX8_better_50 : decode cX8_better 50 = .ok (.istore 4, 2) := by decide +kernel
theorem dX8_better_52 : decode cX8_better 52 = .ok (.aload_n 0, 1) := by decide +kernel
theorem dX8_better_53 : decode cX8_better 53 = .ok (.getfield 10, 3) := by decide +kernel
theorem dX8_better_56 : decode cX8_better 56 = .ok (.iload_n 1, 1) := by decide +kernel
theorem dX8_better_57 : decode cX8_better 57 = .ok (.iload_n 2, 1) := by decide +kernel
theorem dX8_better_58 : decode cX8_better 58 = .ok (.iload_n 3, 1) := by decide +kernel
theorem dX8_better_59 : decode cX8_better 59 = .ok (.iconst 1, 1) := by decide +kernel
theorem dX8_better_60 : decode cX8_better 60 = .ok (.iadd, 1) := by decide +kernel
theorem dX8_better_61 : decode cX8_better 61 = .ok (.invokevirtual 85, 3) := by decide +kernel
theorem dX8_better_64 : decode cX8_better 64 = .ok (.aload_n 0, 1) := by decide +kernel
theorem dX8_better_65 : decode cX8_better 65 = .ok (.invokevirtual 153, 3) := by decide +kernel
theorem dX8_better_68 : decode cX8_better 68 = .ok (.istore 5, 2) := by decide +kernel
theorem dX8_better_70 : decode cX8_better 70 = .ok (.aload_n 0, 1) := by decide +kernel
theorem dX8_better_71 : decode cX8_better 71 = .ok (.getfield 10, 3) := by decide +kernel
theorem dX8_better_74 : decode cX8_better 74 = .ok (.iload_n 1, 1) := by decide +kernel
theorem dX8_better_75 : decode cX8_better 75 = .ok (.iload_n 2, 1) := by decide +kernel
theorem dX8_better_76 : decode cX8_better 76 = .ok (.iload_n 3, 1) := by decide +kernel
theorem dX8_better_77 : decode cX8_better 77 = .ok (.invokevirtual 85, 3) := by decide +kernel
theorem dX8_better_80 : decode cX8_better 80 = .ok (.iload 4, 2) := by decide +kernel
theorem dX8_better_82 : decode cX8_better 82 = .ok (.bipush (-5), 2) := by decide +kernel
theorem dX8_better_84 : decode cX8_better 84 = .ok (.if_icmp .eq 10, 3) := by decide +kernel
theorem dX8_better_87 : decode cX8_better 87 = .ok (.iload 5, 2) := by decide +kernel
theorem dX8_better_89 : decode cX8_better 89 = .ok (.bipush (-5), 2) := by decide +kernel
theorem dX8_better_91 : decode cX8_better 91 = .ok (.if_icmp .ne 8, 3) := by decide +kernel
theorem dX8_better_94 : decode cX8_better 94 = .ok (.ldc 156, 2) := by decide +kernel
theorem dX8_better_96 : decode cX8_better 96 = .ok (.goto 8, 3) := by decide +kernel
theorem dX8_better_99 : decode cX8_better 99 = .ok (.iload 5, 2) := by decide +kernel
theorem dX8_better_101 : decode cX8_better 101 = .ok (.iload 4, 2) := by decide +kernel
theorem dX8_better_103 : decode cX8_better 103 = .ok (.isub, 1) := by decide +kernel
theorem dX8_better_104 : decode cX8_better 104 = .ok (.ireturn, 1) := by decide +kernel
theorem dX8_without_0 : decode cX8_without 0 = .ok (.iload_n 1, 1) := by decide +kernel
theorem dX8_without_1 : decode cX8_without 1 = .ok (.invokestatic 108, 3) := by decide +kernel
theorem dX8_without_4 : decode cX8_without 4 = .ok (.ifCond .eq 17, 3) := by decide +kernel
theorem dX8_without_7 : decode cX8_without 7 = .ok (.aload_n 0, 1) := by decide +kernel
theorem dX8_without_8 : decode cX8_without 8 = .ok (.getfield 18, 3) := by decide +kernel
theorem dX8_without_11 : decode cX8_without 11 = .ok (.iconst 0, 1) := by decide +kernel
theorem dX8_without_12 : decode cX8_without 12 = .ok (.aaload, 1) := by decide +kernel
theorem dX8_without_13 : decode cX8_without 13 = .ok (.iload_n 1, 1) := by decide +kernel
theorem dX8_without_14 : decode cX8_without 14 = .ok (.invokevirtual 111, 3) := by decide +kernel
theorem dX8_without_17 : decode cX8_without 17 = .ok (.iconst (-1), 1) := by decide +kernel
theorem dX8_without_18 : decode cX8_without 18 = .ok (.if_icmp .ne 6, 3) := by decide +kernel
theorem dX8_without_21 : decode cX8_without 21 = .ok (.bipush (-2), 2) := by decide +kernel
theorem dX8_without_23 : decode cX8_without 23 = .ok (.ireturn, 1) := by decide +kernel
theorem dX8_without_24 : decode cX8_without 24 = .ok (.aload_n 0, 1) := by decide +kernel
theorem dX8_without_25 : decode cX8_without 25 = .ok (.getfield 25, 3) := by decide +kernel
theorem dX8_without_28 : decode cX8_without 28 = .ok (.aload_n 0, 1) := by decide +kernel
theorem dX8_without_29 : decode cX8_without 29 = .ok (.getfield 60, 3) := by decide +kernel
theorem dX8_without_32 : decode cX8_without 32 = .ok (.aload_n 0, 1) := by decide +kernel
theorem dX8_without_33 : decode cX8_without 33 = .ok (.getfield 64, 3) := by decide +kernel
theorem dX8_without_36 : decode cX8_without 36 = .ok (.aload_n 0, 1) := by decide +kernel
theorem dX8_without_37 : decode cX8_without 37 = .ok (.getfield 67, 3) := by decide +kernel
theorem dX8_without_40 : decode cX8_without 40 = .ok (.invokevirtual 157, 3) := by decide +kernel
theorem dX8_without_43 : decode cX8_without 43 = .ok (.aload_n 0, 1) := by decide +kernel
theorem dX8_without_44 : decode cX8_without 44 = .ok (.iload_n 1, 1) := by decide +kernel
theorem dX8_without_45 : decode cX8_without 45 = .ok (.iconst 0, 1) := by decide +kernel
theorem dX8_without_46 : decode cX8_without 46 = .ok (.invokevirtual 160, 3) := by decide +kernel
theorem dX8_without_49 : decode cX8_without 49 = .ok (.aload_n 0, 1) := by decide +kernel
theorem dX8_without_50 : decode cX8_without 50 = .ok (.aload_n 0, 1) := by decide +kernel
theorem dX8_without_51 : decode cX8_without 51 = .ok (.getfield 18, 3) := by decide +kernel
theorem dX8_without_54 : decode cX8_without 54 = .ok (.iconst 1, 1) := by decide +kernel
theorem dX8_without_55 : decode cX8_without 55 = .ok (.aaload, 1) := by decide +kernel
theorem dX8_without_56 : decode cX8_without 56 = .ok (.invokevirtual 164, 3) := by decide +kernel
theorem dX8_without_59 : decode cX8_without 59 = .ok (.aload_n 0, 1) := by decide +kernel
theorem dX8_without_60 : decode cX8_without 60 = .ok (.getfield 32, 3) := by decide +kernel
theorem dX8_without_63 : decode cX8_without 63 = .ok (.aload_n 0, 1) := by decide +kernel
theorem dX8_without_64 : decode cX8_without 64 = .ok (.getfield 25, 3) := by decide +kernel
theorem dX8_without_67 : decode cX8_without 67 = .ok (.invokevirtual 168, 3) := by decide +kernel
theorem dX8_without_70 : decode cX8_without 70 = .ok (.ifCond .eq 13, 3) := by decide +kernel
theorem dX8_without_73 : decode cX8_without 73 = .ok (.aload_n 0, 1) := by decide +kernel
theorem dX8_without_74 : decode cX8_without 74 = .ok (.getfield 32, 3) := by decide +kernel
theorem dX8_without_77 : decode cX8_without 77 = .ok (.invokevirtual 135, 3) := by decide +kernel
theorem dX8_without_80 : decode cX8_without 80 = .ok (.goto 5, 3) := by decide +kernel
theorem dX8_without_83 : decode cX8_without 83 = .ok (.bipush (-5), 2) := by decide +kernel
theorem dX8_without_85 : decode cX8_without 85 = .ok (.ireturn, 1) := by decide +kernel
theorem dX8_surprised_0 : decode cX8_surprised 0 = .ok (.iload_n 1, 1) := by decide +kernel
theorem dX8_surprised_1 : decode cX8_surprised 1 = .ok (.invokestatic 115, 3) := by decide +kernel
theorem dX8_surprised_4 : decode cX8_surprised 4 = .ok (.ifCond .ne 6, 3) := by decide +kernel
theorem dX8_surprised_7 : decode cX8_surprised 7 = .ok (.bipush (-2), 2) := by decide +kernel
theorem dX8_surprised_9 : decode cX8_surprised 9 = .ok (.ireturn, 1) := by decide +kernel
theorem dX8_surprised_10 : decode cX8_surprised 10 = .ok (.aload_n 0, 1) := by decide +kernel
theorem dX8_surprised_11 : decode cX8_surprised 11 = .ok (.getfield 25, 3) := by decide +kernel
theorem dX8_surprised_14 : decode cX8_surprised 14 = .ok (.aload_n 0, 1) := by decide +kernel
theorem dX8_surprised_15 : decode cX8_surprised 15 = .ok (.getfield 60, 3) := by decide +kernel
theorem dX8_surprised_18 : decode cX8_surprised 18 = .ok (.aload_n 0, 1) := by decide +kernel
theorem dX8_surprised_19 : decode cX8_surprised 19 = .ok (.getfield 64, 3) := by decide +kernel
theorem dX8_surprised_22 : decode cX8_surprised 22 = .ok (.iload_n 1, 1) := by decide +kernel
theorem dX8_surprised_23 : decode cX8_surprised 23 = .ok (.invokevirtual 157, 3) := by decide +kernel
theorem dX8_surprised_26 : decode cX8_surprised 26 = .ok (.aload_n 0, 1) := by decide +kernel
theorem dX8_surprised_27 : decode cX8_surprised 27 = .ok (.iconst (-1), 1) := by decide +kernel
theorem dX8_surprised_28 : decode cX8_surprised 28 = .ok (.iconst 0, 1) := by decide +kernel
theorem dX8_surprised_29 : decode cX8_surprised 29 = .ok (.invokevirtual 160, 3) := by decide +kernel
theorem dX8_surprised_32 : decode cX8_surprised 32 = .ok (.aload_n 0, 1) := by decide +kernel
theorem dX8_surprised_33 : decode cX8_surprised 33 = .ok (.aload_n 0, 1) := by decide +kernel
theorem dX8_surprised_34 : decode cX8_surprised 34 = .ok (.getfield 18, 3) := by decide +kernel
theorem dX8_surprised_37 : decode cX8_surprised 37 = .ok (.iconst 1, 1) := by decide +kernel
theorem dX8_surprised_38 : decode cX8_surprised 38 = .ok (.aaload, 1) := by decide +kernel
theorem dX8_surprised_39 : decode cX8_surprised 39 = .ok (.invokevirtual 164, 3) := by decide +kernel
theorem dX8_surprised_42 : decode cX8_surprised 42 = .ok (.aload_n 0, 1) := by decide +kernel
theorem dX8_surprised_43 : decode cX8_surprised 43 = .ok (.getfield 32, 3) := by decide +kernel
theorem dX8_surprised_46 : decode cX8_surprised 46 = .ok (.aload_n 0, 1) := by decide +kernel
theorem dX8_surprised_47 : decode cX8_surprised 47 = .ok (.getfield 25, 3) := by decide +kernel
theorem dX8_surprised_50 : decode cX8_surprised 50 = .ok (.invokevirtual 168, 3) := by decide +kernel
theorem dX8_surprised_53 : decode cX8_surprised 53 = .ok (.ifCond .eq 13, 3) := by decide +kernel
theorem dX8_surprised_56 : decode cX8_surprised 56 = .ok (.aload_n 0, 1) := by decide +kernel
theorem dX8_surprised_57 : decode cX8_surprised 57 = .ok (.getfield 32, 3) := by decide +kernel
theorem dX8_surprised_60 : decode cX8_surprised 60 = .ok (.invokevirtual 135, 3) := by decide +kernel
theorem dX8_surprised_63 : decode cX8_surprised 63 = .ok (.goto 5, 3) := by decide +kernel
theorem dX8_surprised_66 : decode cX8_surprised 66 = .ok (.bipush (-5), 2) := by decide +kernel
theorem dX8_surprised_68 : decode cX8_surprised 68 = .ok (.ireturn, 1) := by decide +kernel
theorem dX8_fight_0 : decode cX8_fight 0 = .ok (.aload_n 0, 1) := by decide +kernel
theorem dX8_fight_1 : decode cX8_fight 1 = .ok (.iload_n 1, 1) := by decide +kernel
theorem dX8_fight_2 : decode cX8_fight 2 = .ok (.iload_n 2, 1) := by decide +kernel
theorem dX8_fight_3 : decode cX8_fight 3 = .ok (.iload_n 3, 1) := by decide +kernel
theorem dX8_fight_4 : decode cX8_fight 4 = .ok (.invokevirtual 97, 3) := by decide +kernel
theorem dX8_fight_7 : decode cX8_fight 7 = .ok (.istore 4, 2) := by decide +kernel
theorem dX8_fight_9 : decode cX8_fight 9 = .ok (.iload 4, 2) := by decide +kernel
theorem dX8_fight_11 : decode cX8_fight 11 = .ok (.iconst 1, 1) := by decide +kernel
theorem dX8_fight_12 : decode cX8_fight 12 = .ok (.if_icmp .ge 6, 3) := by decide +kernel
theorem dX8_fight_15 : decode cX8_fight 15 = .ok (.bipush (-2), 2) := by decide +kernel
theorem dX8_fight_17 : decode cX8_fight 17 = .ok (.ireturn, 1) := by decide +kernel
theorem dX8_fight_18 : decode cX8_fight 18 = .ok (.aload_n 0, 1) := by decide +kernel
theorem dX8_fight_19 : decode cX8_fight 19 = .ok (.getfield 39, 3) := by decide +kernel
theorem dX8_fight_22 : decode cX8_fight 22 = .ok (.getfield 172, 3) := by decide +kernel
theorem dX8_fight_25 : decode cX8_fight 25 = .ok (.bipush 6, 2) := by decide +kernel
theorem dX8_fight_27 : decode cX8_fight 27 = .ok (.if_icmp .lt 6, 3) := by decide +kernel
theorem dX8_fight_30 : decode cX8_fight 30 = .ok (.bipush (-4), 2) := by decide +kernel
theorem dX8_fight_32 : decode cX8_fight 32 = .ok (.ireturn, 1) := by decide +kernel
theorem dX8_fight_33 : decode cX8_fight 33 = .ok (.aload_n 0, 1) := by decide +kernel
theorem dX8_fight_34 : decode cX8_fight 34 = .ok (.getfield 39, 3) := by decide +kernel
theorem dX8_fight_37 : decode cX8_fight 37 = .ok (.getfield 173, 3) := by decide +kernel
theorem dX8_fight_40 : decode cX8_fight 40 = .ok (.aload_n 0, 1) := by decide +kernel
theorem dX8_fight_41 : decode cX8_fight 41 = .ok (.getfield 39, 3) := by decide +kernel
theorem dX8_fight_44 : decode cX8_fight 44 = .ok (.getfield 172, 3) := by decide +kernel
theorem dX8_fight_47 : decode cX8_fight 47 = .ok (.aaload, 1) := by decide +kernel
theorem dX8_fight_48 : decode cX8_fight 48 = .ok (.iload_n 1, 1) := by decide +kernel
theorem dX8_fight_49 : decode cX8_fight 49 = .ok (.iload_n 2, 1) := by decide +kernel
theorem dX8_fight_50 : decode cX8_fight 50 = .ok (.iload_n 3, 1) := by decide +kernel
theorem dX8_fight_51 : decode cX8_fight 51 = .ok (.iload 4, 2) := by decide +kernel
theorem dX8_fight_53 : decode cX8_fight 53 = .ok (.invokevirtual 104, 3) := by decide +kernel
theorem dX8_fight_56 : decode cX8_fight 56 = .ok (.aload_n 0, 1) := by decide +kernel
theorem dX8_fight_57 : decode cX8_fight 57 = .ok (.getfield 39, 3) := by decide +kernel
theorem dX8_fight_60 : decode cX8_fight 60 = .ok (.dup, 1) := by decide +kernel
theorem dX8_fight_61 : decode cX8_fight 61 = .ok (.getfield 172, 3) := by decide +kernel
theorem dX8_fight_64 : decode cX8_fight 64 = .ok (.iconst 1, 1) := by decide +kernel
theorem dX8_fight_65 : decode cX8_fight 65 = .ok (.iadd, 1) := by decide +kernel
theorem dX8_fight_66 : decode cX8_fight 66 = .ok (.putfield 172, 3) := by decide +kernel
theorem dX8_fight_69 : decode cX8_fight 69 = .ok (.aload_n 0, 1) := by decide +kernel
theorem dX8_fight_70 : decode cX8_fight 70 = .ok (.getfield 39, 3) := by decide +kernel
theorem dX8_fight_73 : decode cX8_fight 73 = .ok (.getfield 172, 3) := by decide +kernel
theorem dX8_fight_76 : decode cX8_fight 76 = .ok (.ireturn, 1) := by decide +kernel
theorem dX8_rest_0 : decode cX8_rest 0 = .ok (.aload_n 0, 1) := by decide +kernel
theorem dX8_rest_1 : decode cX8_rest 1 = .ok (.getfield 39, 3) := by decide +kernel
theorem dX8_rest_4 : decode cX8_rest 4 = .ok (.getfield 172, 3) := by decide +kernel
theorem dX8_rest_7 : decode cX8_rest 7 = .ok (.istore_n 1, 1) := by decide +kernel
theorem dX8_rest_8 : decode cX8_rest 8 = .ok (.aload_n 0, 1) := by decide +kernel
theorem dX8_rest_9 : decode cX8_rest 9 = .ok (.getfield 39, 3) := by decide +kernel
theorem dX8_rest_12 : decode cX8_rest 12 = .ok (.iconst 0, 1) := by decide +kernel
theorem dX8_rest_13 : decode cX8_rest 13 = .ok (.putfield 172, 3) := by decide +kernel
theorem dX8_rest_16 : decode cX8_rest 16 = .ok (.iload_n 1, 1) := by decide +kernel
theorem dX8_rest_17 : decode cX8_rest 17 = .ok (.ireturn, 1) := by decide +kernel
theorem dX8_purse_0 : decode cX8_purse 0 = .ok (.iload_n 1, 1) := by decide +kernel
theorem dX8_purse_1 : decode cX8_purse 1 = .ok (.ifCond .lt 20, 3) := by decide +kernel
theorem dX8_purse_4 : decode cX8_purse 4 = .ok (.iload_n 1, 1) := by decide +kernel
theorem dX8_purse_5 : decode cX8_purse 5 = .ok (.bipush 6, 2) := by decide +kernel
theorem dX8_purse_7 : decode cX8_purse 7 = .ok (.if_icmp .gt 14, 3) := by decide +kernel
theorem dX8_purse_10 : decode cX8_purse 10 = .ok (.iload_n 2, 1) := by decide +kernel
theorem dX8_purse_11 : decode cX8_purse 11 = .ok (.iconst 1, 1) := by decide +kernel
theorem dX8_purse_12 : decode cX8_purse 12 = .ok (.if_icmp .lt 9, 3) := by decide +kernel
theorem dX8_purse_15 : decode cX8_purse 15 = .ok (.iload_n 2, 1) := by decide +kernel
theorem dX8_purse_16 : decode cX8_purse 16 = .ok (.bipush 9, 2) := by decide +kernel
theorem dX8_purse_18 : decode cX8_purse 18 = .ok (.if_icmp .le 6, 3) := by decide +kernel
theorem dX8_purse_21 : decode cX8_purse 21 = .ok (.bipush (-2), 2) := by decide +kernel
theorem dX8_purse_23 : decode cX8_purse 23 = .ok (.ireturn, 1) := by decide +kernel
theorem dX8_purse_24 : decode cX8_purse 24 = .ok (.aload_n 0, 1) := by decide +kernel
theorem dX8_purse_25 : decode cX8_purse 25 = .ok (.getfield 39, 3) := by decide +kernel
theorem dX8_purse_28 : decode cX8_purse 28 = .ok (.iload_n 1, 1) := by decide +kernel
theorem dX8_purse_29 : decode cX8_purse 29 = .ok (.putfield 176, 3) := by decide +kernel
theorem dX8_purse_32 : decode cX8_purse 32 = .ok (.aload_n 0, 1) := by decide +kernel
theorem dX8_purse_33 : decode cX8_purse 33 = .ok (.getfield 39, 3) := by decide +kernel
theorem dX8_purse_36 : decode cX8_purse 36 = .ok (.iload_n 2, 1) := by decide +kernel
theorem dX8_purse_37 : decode cX8_purse 37 = .ok (.putfield 179, 3) := by decide +kernel
theorem dX8_purse_40 : decode cX8_purse 40 = .ok (.iconst 1, 1) := by decide +kernel
theorem dX8_purse_41 : decode cX8_purse 41 = .ok (.ireturn, 1) := by decide +kernel
theorem dX8_day_0 : decode cX8_day 0 = .ok (.aload_n 0, 1) := by decide +kernel
theorem dX8_day_1 : decode cX8_day 1 = .ok (.invokevirtual 182, 3) := by decide +kernel
theorem dX8_day_4 : decode cX8_day 4 = .ok (.istore_n 1, 1) := by decide +kernel
theorem dX8_day_5 : decode cX8_day 5 = .ok (.iload_n 1, 1) := by decide +kernel
theorem dX8_day_6 : decode cX8_day 6 = .ok (.ifCond .ge 7, 3) := by decide +kernel
theorem dX8_day_9 : decode cX8_day 9 = .ok (.iload_n 1, 1) := by decide +kernel
theorem dX8_day_10 : decode cX8_day 10 = .ok (.goto 17, 3) := by decide +kernel
theorem dX8_day_13 : decode cX8_day 13 = .ok (.aload_n 0, 1) := by decide +kernel
theorem dX8_day_14 : decode cX8_day 14 = .ok (.getfield 39, 3) := by decide +kernel
theorem dX8_day_17 : decode cX8_day 17 = .ok (.aload_n 0, 1) := by decide +kernel
theorem dX8_day_18 : decode cX8_day 18 = .ok (.getfield 39, 3) := by decide +kernel
theorem dX8_day_21 : decode cX8_day 21 = .ok (.invokevirtual 185, 3) := by decide +kernel
theorem dX8_day_24 : decode cX8_day 24 = .ok (.invokevirtual 188, 3) := by decide +kernel
theorem dX8_day_27 : decode cX8_day 27 = .ok (.ireturn, 1) := by decide +kernel
theorem dX8_use_0 : decode cX8_use 0 = .ok (.aload_n 0, 1) := by decide +kernel
theorem dX8_use_1 : decode cX8_use 1 = .ok (.invokevirtual 182, 3) := by decide +kernel
theorem dX8_use_4 : decode cX8_use 4 = .ok (.istore_n 1, 1) := by decide +kernel
theorem dX8_use_5 : decode cX8_use 5 = .ok (.iload_n 1, 1) := by decide +kernel
theorem dX8_use_6 : decode cX8_use 6 = .ok (.ifCond .ge 7, 3) := by decide +kernel
theorem dX8_use_9 : decode cX8_use 9 = .ok (.iload_n 1, 1) := by decide +kernel
theorem dX8_use_10 : decode cX8_use 10 = .ok (.goto 10, 3) := by decide +kernel
theorem dX8_use_13 : decode cX8_use 13 = .ok (.aload_n 0, 1) := by decide +kernel
theorem dX8_use_14 : decode cX8_use 14 = .ok (.getfield 39, 3) := by decide +kernel
theorem dX8_use_17 : decode cX8_use 17 = .ok (.invokevirtual 185, 3) := by decide +kernel
theorem dX8_use_20 : decode cX8_use 20 = .ok (.ireturn, 1) := by decide +kernel
theorem dX8_odds_0 : decode cX8_odds 0 = .ok (.iload_n 1, 1) := by decide +kernel
theorem dX8_odds_1 : decode cX8_odds 1 = .ok (.ifCond .lt 23, 3) := by decide +kernel
theorem dX8_odds_4 : decode cX8_odds 4 = .ok (.iload_n 1, 1) := by decide +kernel
theorem dX8_odds_5 : decode cX8_odds 5 = .ok (.aload_n 0, 1) := by decide +kernel
theorem dX8_odds_6 : decode cX8_odds 6 = .ok (.getfield 39, 3) := by decide +kernel
theorem dX8_odds_9 : decode cX8_odds 9 = .ok (.getfield 172, 3) := by decide +kernel
theorem dX8_odds_12 : decode cX8_odds 12 = .ok (.if_icmp .ge 12, 3) := by decide +kernel
theorem dX8_odds_15 : decode cX8_odds 15 = .ok (.iload_n 2, 1) := by decide +kernel
theorem dX8_odds_16 : decode cX8_odds 16 = .ok (.ifCond .lt 8, 3) := by decide +kernel
theorem dX8_odds_19 : decode cX8_odds 19 = .ok (.iload_n 2, 1) := by decide +kernel
theorem dX8_odds_20 : decode cX8_odds 20 = .ok (.iconst 1, 1) := by decide +kernel
theorem dX8_odds_21 : decode cX8_odds 21 = .ok (.if_icmp .le 6, 3) := by decide +kernel
theorem dX8_odds_24 : decode cX8_odds 24 = .ok (.bipush (-2), 2) := by decide +kernel
theorem dX8_odds_26 : decode cX8_odds 26 = .ok (.ireturn, 1) := by decide +kernel
theorem dX8_odds_27 : decode cX8_odds 27 = .ok (.aload_n 0, 1) := by decide +kernel
theorem dX8_odds_28 : decode cX8_odds 28 = .ok (.getfield 18, 3) := by decide +kernel
theorem dX8_odds_31 : decode cX8_odds 31 = .ok (.iconst 0, 1) := by decide +kernel
theorem dX8_odds_32 : decode cX8_odds 32 = .ok (.aaload, 1) := by decide +kernel
theorem dX8_odds_33 : decode cX8_odds 33 = .ok (.getfield 118, 3) := by decide +kernel
theorem dX8_odds_36 : decode cX8_odds 36 = .ok (.ifCond .ne 6, 3) := by decide +kernel
theorem dX8_odds_39 : decode cX8_odds 39 = .ok (.bipush (-3), 2) := by decide +kernel
theorem dX8_odds_41 : decode cX8_odds 41 = .ok (.ireturn, 1) := by decide +kernel
theorem dX8_odds_42 : decode cX8_odds 42 = .ok (.aload_n 0, 1) := by decide +kernel
theorem dX8_odds_43 : decode cX8_odds 43 = .ok (.aload_n 0, 1) := by decide +kernel
theorem dX8_odds_44 : decode cX8_odds 44 = .ok (.getfield 39, 3) := by decide +kernel
theorem dX8_odds_47 : decode cX8_odds 47 = .ok (.getfield 173, 3) := by decide +kernel
theorem dX8_odds_50 : decode cX8_odds 50 = .ok (.iload_n 1, 1) := by decide +kernel
theorem dX8_odds_51 : decode cX8_odds 51 = .ok (.aaload, 1) := by decide +kernel
theorem dX8_odds_52 : decode cX8_odds 52 = .ok (.iload_n 2, 1) := by decide +kernel
theorem dX8_odds_53 : decode cX8_odds 53 = .ok (.iconst 1, 1) := by decide +kernel
theorem dX8_odds_54 : decode cX8_odds 54 = .ok (.if_icmp .ne 13, 3) := by decide +kernel
theorem dX8_odds_57 : decode cX8_odds 57 = .ok (.aload_n 0, 1) := by decide +kernel
theorem dX8_odds_58 : decode cX8_odds 58 = .ok (.getfield 39, 3) := by decide +kernel
theorem dX8_odds_61 : decode cX8_odds 61 = .ok (.getfield 179, 3) := by decide +kernel
theorem dX8_odds_64 : decode cX8_odds 64 = .ok (.goto 4, 3) := by decide +kernel
theorem dX8_odds_67 : decode cX8_odds 67 = .ok (.iconst 0, 1) := by decide +kernel
theorem dX8_odds_68 : decode cX8_odds 68 = .ok (.invokevirtual 191, 3) := by decide +kernel
theorem dX8_odds_71 : decode cX8_odds 71 = .ok (.ireturn, 1) := by decide +kernel
theorem dX8_wish_0 : decode cX8_wish 0 = .ok (.iload_n 1, 1) := by decide +kernel
theorem dX8_wish_1 : decode cX8_wish 1 = .ok (.ifCond .lt 14, 3) := by decide +kernel
theorem dX8_wish_4 : decode cX8_wish 4 = .ok (.iload_n 2, 1) := by decide +kernel
theorem dX8_wish_5 : decode cX8_wish 5 = .ok (.ldc 195, 2) := by decide +kernel
theorem dX8_wish_7 : decode cX8_wish 7 = .ok (.if_icmp .gt 8, 3) := by decide +kernel
theorem dX8_wish_10 : decode cX8_wish 10 = .ok (.iload_n 1, 1) := by decide +kernel
theorem dX8_wish_11 : decode cX8_wish 11 = .ok (.iload_n 2, 1) := by decide +kernel
theorem dX8_wish_12 : decode cX8_wish 12 = .ok (.if_icmp .le 6, 3) := by decide +kernel
theorem dX8_wish_15 : decode cX8_wish 15 = .ok (.bipush (-2), 2) := by decide +kernel
theorem dX8_wish_17 : decode cX8_wish 17 = .ok (.ireturn, 1) := by decide +kernel
theorem dX8_wish_18 : decode cX8_wish 18 = .ok (.aload_n 0, 1) := by decide +kernel
theorem dX8_wish_19 : decode cX8_wish 19 = .ok (.getfield 18, 3) := by decide +kernel
theorem dX8_wish_22 : decode cX8_wish 22 = .ok (.iconst 0, 1) := by decide +kernel
theorem dX8_wish_23 : decode cX8_wish 23 = .ok (.aaload, 1) := by decide +kernel
theorem dX8_wish_24 : decode cX8_wish 24 = .ok (.getfield 118, 3) := by decide +kernel
theorem dX8_wish_27 : decode cX8_wish 27 = .ok (.ifCond .ne 6, 3) := by decide +kernel
theorem dX8_wish_30 : decode cX8_wish 30 = .ok (.bipush (-3), 2) := by decide +kernel
theorem dX8_wish_32 : decode cX8_wish 32 = .ok (.ireturn, 1) := by decide +kernel
theorem dX8_wish_33 : decode cX8_wish 33 = .ok (.aload_n 0, 1) := by decide +kernel
theorem dX8_wish_34 : decode cX8_wish 34 = .ok (.iconst 0, 1) := by decide +kernel
theorem dX8_wish_35 : decode cX8_wish 35 = .ok (.putfield 70, 3) := by decide +kernel
theorem dX8_wish_38 : decode cX8_wish 38 = .ok (.aload_n 0, 1) := by decide +kernel
theorem dX8_wish_39 : decode cX8_wish 39 = .ok (.getfield 10, 3) := by decide +kernel
theorem dX8_wish_42 : decode cX8_wish 42 = .ok (.getfield 82, 3) := by decide +kernel
theorem dX8_wish_45 : decode cX8_wish 45 = .ok (.bipush 6, 2) := by decide +kernel
theorem dX8_wish_47 : decode cX8_wish 47 = .ok (.invokestatic 196, 3) := by decide +kernel
theorem dX8_wish_50 : decode cX8_wish 50 = .ok (.istore_n 3, 1) := by decide +kernel
theorem dX8_wish_51 : decode cX8_wish 51 = .ok (.iconst 0, 1) := by decide +kernel
theorem dX8_wish_52 : decode cX8_wish 52 = .ok (.istore 4, 2) := by decide +kernel
theorem dX8_wish_54 : decode cX8_wish 54 = .ok (.iload 4, 2) := by decide +kernel
theorem dX8_wish_56 : decode cX8_wish 56 = .ok (.iload_n 3, 1) := by decide +kernel
theorem dX8_wish_57 : decode cX8_wish 57 = .ok (.if_icmp .ge 44, 3) := by decide +kernel
theorem dX8_wish_60 : decode cX8_wish 60 = .ok (.aload_n 0, 1) := by decide +kernel
theorem dX8_wish_61 : decode cX8_wish 61 = .ok (.iload 4, 2) := by decide +kernel
theorem dX8_wish_63 : decode cX8_wish 63 = .ok (.iconst (-1), 1) := by decide +kernel
theorem dX8_wish_64 : decode cX8_wish 64 = .ok (.iload_n 1, 1) := by decide +kernel
theorem dX8_wish_65 : decode cX8_wish 65 = .ok (.iload_n 2, 1) := by decide +kernel
theorem dX8_wish_66 : decode cX8_wish 66 = .ok (.invokevirtual 201, 3) := by decide +kernel
theorem dX8_wish_69 : decode cX8_wish 69 = .ok (.iload 4, 2) := by decide +kernel
theorem dX8_wish_71 : decode cX8_wish 71 = .ok (.istore 5, 2) := by decide +kernel
theorem dX8_wish_73 : decode cX8_wish 73 = .ok (.iload 5, 2) := by decide +kernel
theorem dX8_wish_75 : decode cX8_wish 75 = .ok (.iload_n 3, 1) := by decide +kernel
theorem dX8_wish_76 : decode cX8_wish 76 = .ok (.if_icmp .ge 19, 3) := by decide +kernel
theorem dX8_wish_79 : decode cX8_wish 79 = .ok (.aload_n 0, 1) := by decide +kernel
theorem dX8_wish_80 : decode cX8_wish 80 = .ok (.iload 4, 2) := by decide +kernel
theorem dX8_wish_82 : decode cX8_wish 82 = .ok (.iload 5, 2) := by decide +kernel
theorem dX8_wish_84 : decode cX8_wish 84 = .ok (.iload_n 1, 1) := by decide +kernel
theorem dX8_wish_85 : decode cX8_wish 85 = .ok (.iload_n 2, 1) := by decide +kernel
theorem dX8_wish_86 : decode cX8_wish 86 = .ok (.invokevirtual 201, 3) := by decide +kernel
theorem dX8_wish_89 : decode cX8_wish 89 = .ok (.iinc 5 1, 3) := by decide +kernel
theorem dX8_wish_92 : decode cX8_wish 92 = .ok (.goto (-19), 3) := by decide +kernel
theorem dX8_wish_95 : decode cX8_wish 95 = .ok (.iinc 4 1, 3) := by decide +kernel
