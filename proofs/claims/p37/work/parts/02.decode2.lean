theorem dX8_play_9 : decode cX8_play 9 = .ok (.ireturn, 1) := by decide +kernel
theorem dX8_play_10 : decode cX8_play 10 = .ok (.aload_n 0, 1) := by decide +kernel
theorem dX8_play_11 : decode cX8_play 11 = .ok (.getfield 56, 3) := by decide +kernel
theorem dX8_play_14 : decode cX8_play 14 = .ok (.iload_n 1, 1) := by decide +kernel
theorem dX8_play_15 : decode cX8_play 15 = .ok (.aaload, 1) := by decide +kernel
theorem dX8_play_16 : decode cX8_play 16 = .ok (.getfield 207, 3) := by decide +kernel
theorem dX8_play_19 : decode cX8_play 19 = .ok (.ifCond .eq 9, 3) := by decide +kernel
theorem dX8_play_22 : decode cX8_play 22 = .ok (.aload_n 0, 1) := by decide +kernel
theorem dX8_play_23 : decode cX8_play 23 = .ok (.iconst 1, 1) := by decide +kernel
theorem dX8_play_24 : decode cX8_play 24 = .ok (.invokevirtual 211, 3) := by decide +kernel
theorem dX8_play_27 : decode cX8_play 27 = .ok (.ireturn, 1) := by decide +kernel
theorem dX8_play_28 : decode cX8_play 28 = .ok (.aload_n 0, 1) := by decide +kernel
theorem dX8_play_29 : decode cX8_play 29 = .ok (.invokevirtual 214, 3) := by decide +kernel
theorem dX8_play_32 : decode cX8_play 32 = .ok (.aload_n 0, 1) := by decide +kernel
theorem dX8_play_33 : decode cX8_play 33 = .ok (.getfield 50, 3) := by decide +kernel
theorem dX8_play_36 : decode cX8_play 36 = .ok (.aload_n 0, 1) := by decide +kernel
theorem dX8_play_37 : decode cX8_play 37 = .ok (.getfield 25, 3) := by decide +kernel
theorem dX8_play_40 : decode cX8_play 40 = .ok (.aload_n 0, 1) := by decide +kernel
theorem dX8_play_41 : decode cX8_play 41 = .ok (.getfield 56, 3) := by decide +kernel
theorem dX8_play_44 : decode cX8_play 44 = .ok (.iload_n 1, 1) := by decide +kernel
theorem dX8_play_45 : decode cX8_play 45 = .ok (.aaload, 1) := by decide +kernel
theorem dX8_play_46 : decode cX8_play 46 = .ok (.invokevirtual 217, 3) := by decide +kernel
theorem dX8_play_49 : decode cX8_play 49 = .ok (.ifCond .eq 13, 3) := by decide +kernel
theorem dX8_play_52 : decode cX8_play 52 = .ok (.aload_n 0, 1) := by decide +kernel
theorem dX8_play_53 : decode cX8_play 53 = .ok (.getfield 50, 3) := by decide +kernel
theorem dX8_play_56 : decode cX8_play 56 = .ok (.getfield 221, 3) := by decide +kernel
theorem dX8_play_59 : decode cX8_play 59 = .ok (.goto 8, 3) := by decide +kernel
theorem dX8_play_62 : decode cX8_play 62 = .ok (.aload_n 0, 1) := by decide +kernel
theorem dX8_play_63 : decode cX8_play 63 = .ok (.iconst 2, 1) := by decide +kernel
theorem dX8_play_64 : decode cX8_play 64 = .ok (.invokevirtual 211, 3) := by decide +kernel
theorem dX8_play_67 : decode cX8_play 67 = .ok (.ireturn, 1) := by decide +kernel
theorem dX8_played_0 : decode cX8_played 0 = .ok (.iload_n 1, 1) := by decide +kernel
theorem dX8_played_1 : decode cX8_played 1 = .ok (.tableswitch 51 0 2 #[27, 35, 43], 27) := by decide +kernel
theorem dX8_played_28 : decode cX8_played 28 = .ok (.aload_n 0, 1) := by decide +kernel
theorem dX8_played_29 : decode cX8_played 29 = .ok (.getfield 50, 3) := by decide +kernel
theorem dX8_played_32 : decode cX8_played 32 = .ok (.getfield 221, 3) := by decide +kernel
theorem dX8_played_35 : decode cX8_played 35 = .ok (.ireturn, 1) := by decide +kernel
theorem dX8_played_36 : decode cX8_played 36 = .ok (.aload_n 0, 1) := by decide +kernel
theorem dX8_played_37 : decode cX8_played 37 = .ok (.getfield 50, 3) := by decide +kernel
theorem dX8_played_40 : decode cX8_played 40 = .ok (.getfield 224, 3) := by decide +kernel
theorem dX8_played_43 : decode cX8_played 43 = .ok (.ireturn, 1) := by decide +kernel
theorem dX8_played_44 : decode cX8_played 44 = .ok (.aload_n 0, 1) := by decide +kernel
theorem dX8_played_45 : decode cX8_played 45 = .ok (.getfield 50, 3) := by decide +kernel
theorem dX8_played_48 : decode cX8_played 48 = .ok (.getfield 227, 3) := by decide +kernel
theorem dX8_played_51 : decode cX8_played 51 = .ok (.ireturn, 1) := by decide +kernel
theorem dX8_played_52 : decode cX8_played 52 = .ok (.iload_n 1, 1) := by decide +kernel
theorem dX8_played_53 : decode cX8_played 53 = .ok (.bipush 10, 2) := by decide +kernel
theorem dX8_played_55 : decode cX8_played 55 = .ok (.if_icmp .lt 9, 3) := by decide +kernel
theorem dX8_played_58 : decode cX8_played 58 = .ok (.iload_n 1, 1) := by decide +kernel
theorem dX8_played_59 : decode cX8_played 59 = .ok (.bipush 16, 2) := by decide +kernel
theorem dX8_played_61 : decode cX8_played 61 = .ok (.if_icmp .lt 8, 3) := by decide +kernel
theorem dX8_played_64 : decode cX8_played 64 = .ok (.bipush (-2), 2) := by decide +kernel
theorem dX8_played_66 : decode cX8_played 66 = .ok (.goto 15, 3) := by decide +kernel
theorem dX8_played_69 : decode cX8_played 69 = .ok (.aload_n 0, 1) := by decide +kernel
theorem dX8_played_70 : decode cX8_played 70 = .ok (.getfield 50, 3) := by decide +kernel
theorem dX8_played_73 : decode cX8_played 73 = .ok (.getfield 230, 3) := by decide +kernel
theorem dX8_played_76 : decode cX8_played 76 = .ok (.iload_n 1, 1) := by decide +kernel
theorem dX8_played_77 : decode cX8_played 77 = .ok (.bipush 10, 2) := by decide +kernel
theorem dX8_played_79 : decode cX8_played 79 = .ok (.isub, 1) := by decide +kernel
theorem dX8_played_80 : decode cX8_played 80 = .ok (.iaload, 1) := by decide +kernel
theorem dX8_played_81 : decode cX8_played 81 = .ok (.ireturn, 1) := by decide +kernel
theorem dX8_sheet_0 : decode cX8_sheet 0 = .ok (.iload_n 1, 1) := by decide +kernel
theorem dX8_sheet_1 : decode cX8_sheet 1 = .ok (.invokestatic 204, 3) := by decide +kernel
theorem dX8_sheet_4 : decode cX8_sheet 4 = .ok (.ifCond .eq 16, 3) := by decide +kernel
theorem dX8_sheet_7 : decode cX8_sheet 7 = .ok (.iload_n 2, 1) := by decide +kernel
theorem dX8_sheet_8 : decode cX8_sheet 8 = .ok (.invokestatic 233, 3) := by decide +kernel
theorem dX8_sheet_11 : decode cX8_sheet 11 = .ok (.ifCond .eq 9, 3) := by decide +kernel
theorem dX8_sheet_14 : decode cX8_sheet 14 = .ok (.iload_n 3, 1) := by decide +kernel
theorem dX8_sheet_15 : decode cX8_sheet 15 = .ok (.bipush 60, 2) := by decide +kernel
theorem dX8_sheet_17 : decode cX8_sheet 17 = .ok (.if_icmp .le 6, 3) := by decide +kernel
theorem dX8_sheet_20 : decode cX8_sheet 20 = .ok (.bipush (-2), 2) := by decide +kernel
theorem dX8_sheet_22 : decode cX8_sheet 22 = .ok (.ireturn, 1) := by decide +kernel
theorem dX8_sheet_23 : decode cX8_sheet 23 = .ok (.iload_n 3, 1) := by decide +kernel
theorem dX8_sheet_24 : decode cX8_sheet 24 = .ok (.ifCond .ge 9, 3) := by decide +kernel
theorem dX8_sheet_27 : decode cX8_sheet 27 = .ok (.aload_n 0, 1) := by decide +kernel
theorem dX8_sheet_28 : decode cX8_sheet 28 = .ok (.iconst 5, 1) := by decide +kernel
theorem dX8_sheet_29 : decode cX8_sheet 29 = .ok (.invokevirtual 211, 3) := by decide +kernel
theorem dX8_sheet_32 : decode cX8_sheet 32 = .ok (.ireturn, 1) := by decide +kernel
theorem dX8_sheet_33 : decode cX8_sheet 33 = .ok (.aload_n 0, 1) := by decide +kernel
theorem dX8_sheet_34 : decode cX8_sheet 34 = .ok (.getfield 56, 3) := by decide +kernel
theorem dX8_sheet_37 : decode cX8_sheet 37 = .ok (.iload_n 1, 1) := by decide +kernel
theorem dX8_sheet_38 : decode cX8_sheet 38 = .ok (.aaload, 1) := by decide +kernel
theorem dX8_sheet_39 : decode cX8_sheet 39 = .ok (.iload_n 2, 1) := by decide +kernel
theorem dX8_sheet_40 : decode cX8_sheet 40 = .ok (.iload_n 3, 1) := by decide +kernel
theorem dX8_sheet_41 : decode cX8_sheet 41 = .ok (.invokevirtual 236, 3) := by decide +kernel
theorem dX8_sheet_44 : decode cX8_sheet 44 = .ok (.iload_n 3, 1) := by decide +kernel
theorem dX8_sheet_45 : decode cX8_sheet 45 = .ok (.ireturn, 1) := by decide +kernel
theorem dX8_put_0 : decode cX8_put 0 = .ok (.iload_n 1, 1) := by decide +kernel
theorem dX8_put_1 : decode cX8_put 1 = .ok (.invokestatic 204, 3) := by decide +kernel
theorem dX8_put_4 : decode cX8_put 4 = .ok (.ifCond .eq 10, 3) := by decide +kernel
theorem dX8_put_7 : decode cX8_put 7 = .ok (.iload_n 2, 1) := by decide +kernel
theorem dX8_put_8 : decode cX8_put 8 = .ok (.invokestatic 233, 3) := by decide +kernel
theorem dX8_put_11 : decode cX8_put 11 = .ok (.ifCond .ne 6, 3) := by decide +kernel
theorem dX8_put_14 : decode cX8_put 14 = .ok (.bipush (-2), 2) := by decide +kernel
theorem dX8_put_16 : decode cX8_put 16 = .ok (.ireturn, 1) := by decide +kernel
theorem dX8_put_17 : decode cX8_put 17 = .ok (.aload_n 0, 1) := by decide +kernel
theorem dX8_put_18 : decode cX8_put 18 = .ok (.getfield 56, 3) := by decide +kernel
theorem dX8_put_21 : decode cX8_put 21 = .ok (.iload_n 1, 1) := by decide +kernel
theorem dX8_put_22 : decode cX8_put 22 = .ok (.aaload, 1) := by decide +kernel
theorem dX8_put_23 : decode cX8_put 23 = .ok (.iload_n 2, 1) := by decide +kernel
theorem dX8_put_24 : decode cX8_put 24 = .ok (.iload_n 3, 1) := by decide +kernel
theorem dX8_put_25 : decode cX8_put 25 = .ok (.invokestatic 240, 3) := by decide +kernel
theorem dX8_put_28 : decode cX8_put 28 = .ok (.istore 5, 2) := by decide +kernel
theorem dX8_put_30 : decode cX8_put 30 = .ok (.iload 5, 2) := by decide +kernel
theorem dX8_put_32 : decode cX8_put 32 = .ok (.ifCond .eq 10, 3) := by decide +kernel
theorem dX8_put_35 : decode cX8_put 35 = .ok (.aload_n 0, 1) := by decide +kernel
theorem dX8_put_36 : decode cX8_put 36 = .ok (.iload 5, 2) := by decide +kernel
theorem dX8_put_38 : decode cX8_put 38 = .ok (.invokevirtual 211, 3) := by decide +kernel
theorem dX8_put_41 : decode cX8_put 41 = .ok (.ireturn, 1) := by decide +kernel
theorem dX8_put_42 : decode cX8_put 42 = .ok (.aload_n 0, 1) := by decide +kernel
theorem dX8_put_43 : decode cX8_put 43 = .ok (.getfield 56, 3) := by decide +kernel
theorem dX8_put_46 : decode cX8_put 46 = .ok (.iload_n 1, 1) := by decide +kernel
theorem dX8_put_47 : decode cX8_put 47 = .ok (.aaload, 1) := by decide +kernel
theorem dX8_put_48 : decode cX8_put 48 = .ok (.iload_n 3, 1) := by decide +kernel
theorem dX8_put_49 : decode cX8_put 49 = .ok (.iload 4, 2) := by decide +kernel
theorem dX8_put_51 : decode cX8_put 51 = .ok (.invokevirtual 244, 3) := by decide +kernel
theorem dX8_put_54 : decode cX8_put 54 = .ok (.iconst 1, 1) := by decide +kernel
theorem dX8_put_55 : decode cX8_put 55 = .ok (.ireturn, 1) := by decide +kernel
theorem dX8_shake_0 : decode cX8_shake 0 = .ok (.iload_n 1, 1) := by decide +kernel
theorem dX8_shake_1 : decode cX8_shake 1 = .ok (.invokestatic 204, 3) := by decide +kernel
theorem dX8_shake_4 : decode cX8_shake 4 = .ok (.ifCond .ne 6, 3) := by decide +kernel
theorem dX8_shake_7 : decode cX8_shake 7 = .ok (.bipush (-2), 2) := by decide +kernel
theorem dX8_shake_9 : decode cX8_shake 9 = .ok (.ireturn, 1) := by decide +kernel
theorem dX8_shake_10 : decode cX8_shake 10 = .ok (.aload_n 0, 1) := by decide +kernel
theorem dX8_shake_11 : decode cX8_shake 11 = .ok (.getfield 56, 3) := by decide +kernel
theorem dX8_shake_14 : decode cX8_shake 14 = .ok (.iload_n 1, 1) := by decide +kernel
theorem dX8_shake_15 : decode cX8_shake 15 = .ok (.aaload, 1) := by decide +kernel
theorem dX8_shake_16 : decode cX8_shake 16 = .ok (.astore_n 3, 1) := by decide +kernel
theorem dX8_shake_17 : decode cX8_shake 17 = .ok (.aload_n 3, 1) := by decide +kernel
theorem dX8_shake_18 : decode cX8_shake 18 = .ok (.getfield 207, 3) := by decide +kernel
theorem dX8_shake_21 : decode cX8_shake 21 = .ok (.ifCond .eq 9, 3) := by decide +kernel
theorem dX8_shake_24 : decode cX8_shake 24 = .ok (.aload_n 0, 1) := by decide +kernel
theorem dX8_shake_25 : decode cX8_shake 25 = .ok (.iconst 1, 1) := by decide +kernel
theorem dX8_shake_26 : decode cX8_shake 26 = .ok (.invokevirtual 211, 3) := by decide +kernel
theorem dX8_shake_29 : decode cX8_shake 29 = .ok (.ireturn, 1) := by decide +kernel
theorem dX8_shake_30 : decode cX8_shake 30 = .ok (.iload_n 2, 1) := by decide +kernel
theorem dX8_shake_31 : decode cX8_shake 31 = .ok (.istore 4, 2) := by decide +kernel
theorem dX8_shake_33 : decode cX8_shake 33 = .ok (.iconst 0, 1) := by decide +kernel
theorem dX8_shake_34 : decode cX8_shake 34 = .ok (.istore 5, 2) := by decide +kernel
theorem dX8_shake_36 : decode cX8_shake 36 = .ok (.iload 5, 2) := by decide +kernel
theorem dX8_shake_38 : decode cX8_shake 38 = .ok (.aload_n 3, 1) := by decide +kernel
theorem dX8_shake_39 : decode cX8_shake 39 = .ok (.getfield 239, 3) := by decide +kernel
theorem dX8_shake_42 : decode cX8_shake 42 = .ok (.if_icmp .ge 37, 3) := by decide +kernel
theorem dX8_shake_45 : decode cX8_shake 45 = .ok (.ldc_w 265, 3) := by decide +kernel
theorem dX8_shake_48 : decode cX8_shake 48 = .ok (.iload 4, 2) := by decide +kernel
theorem dX8_shake_50 : decode cX8_shake 50 = .ok (.imul, 1) := by decide +kernel
theorem dX8_shake_51 : decode cX8_shake 51 = .ok (.sipush 12345, 3) := by decide +kernel
theorem dX8_shake_54 : decode cX8_shake 54 = .ok (.iadd, 1) := by decide +kernel
theorem dX8_shake_55 : decode cX8_shake 55 = .ok (.istore 4, 2) := by decide +kernel
theorem dX8_shake_57 : decode cX8_shake 57 = .ok (.aload_n 3, 1) := by decide +kernel
theorem dX8_shake_58 : decode cX8_shake 58 = .ok (.iload 5, 2) := by decide +kernel
theorem dX8_shake_60 : decode cX8_shake 60 = .ok (.iconst 1, 1) := by decide +kernel
theorem dX8_shake_61 : decode cX8_shake 61 = .ok (.iload 4, 2) := by decide +kernel
theorem dX8_shake_63 : decode cX8_shake 63 = .ok (.bipush 16, 2) := by decide +kernel
theorem dX8_shake_65 : decode cX8_shake 65 = .ok (.iushr, 1) := by decide +kernel
theorem dX8_shake_66 : decode cX8_shake 66 = .ok (.bipush 6, 2) := by decide +kernel
theorem dX8_shake_68 : decode cX8_shake 68 = .ok (.irem, 1) := by decide +kernel
theorem dX8_shake_69 : decode cX8_shake 69 = .ok (.iadd, 1) := by decide +kernel
theorem dX8_shake_70 : decode cX8_shake 70 = .ok (.invokevirtual 244, 3) := by decide +kernel
theorem dX8_shake_73 : decode cX8_shake 73 = .ok (.iinc 5 1, 3) := by decide +kernel
theorem dX8_shake_76 : decode cX8_shake 76 = .ok (.goto (-40), 3) := by decide +kernel
theorem dX8_shake_79 : decode cX8_shake 79 = .ok (.aload_n 3, 1) := by decide +kernel
theorem dX8_shake_80 : decode cX8_shake 80 = .ok (.getfield 239, 3) := by decide +kernel
theorem dX8_shake_83 : decode cX8_shake 83 = .ok (.ireturn, 1) := by decide +kernel
theorem dX8_isSide_0 : decode cX8_isSide 0 = .ok (.iload_n 0, 1) := by decide +kernel
theorem dX8_isSide_1 : decode cX8_isSide 1 = .ok (.ifCond .eq 8, 3) := by decide +kernel
theorem dX8_isSide_4 : decode cX8_isSide 4 = .ok (.iload_n 0, 1) := by decide +kernel
theorem dX8_isSide_5 : decode cX8_isSide 5 = .ok (.iconst 1, 1) := by decide +kernel
theorem dX8_isSide_6 : decode cX8_isSide 6 = .ok (.if_icmp .ne 7, 3) := by decide +kernel
theorem dX8_isSide_9 : decode cX8_isSide 9 = .ok (.iconst 1, 1) := by decide +kernel
theorem dX8_isSide_10 : decode cX8_isSide 10 = .ok (.goto 4, 3) := by decide +kernel
theorem dX8_isSide_13 : decode cX8_isSide 13 = .ok (.iconst 0, 1) := by decide +kernel
theorem dX8_isSide_14 : decode cX8_isSide 14 = .ok (.ireturn, 1) := by decide +kernel
theorem dX8_isSideOrNone_0 : decode cX8_isSideOrNone 0 = .ok (.iload_n 0, 1) := by decide +kernel
theorem dX8_isSideOrNone_1 : decode cX8_isSideOrNone 1 = .ok (.iconst (-1), 1) := by decide +kernel
theorem dX8_isSideOrNone_2 : decode cX8_isSideOrNone 2 = .ok (.if_icmp .eq 10, 3) := by decide +kernel
theorem dX8_isSideOrNone_5 : decode cX8_isSideOrNone 5 = .ok (.iload_n 0, 1) := by decide +kernel
theorem dX8_isSideOrNone_6 : decode cX8_isSideOrNone 6 = .ok (.invokestatic 101, 3) := by decide +kernel
theorem dX8_isSideOrNone_9 : decode cX8_isSideOrNone 9 = .ok (.ifCond .eq 7, 3) := by decide +kernel
theorem dX8_isSideOrNone_12 : decode cX8_isSideOrNone 12 = .ok (.iconst 1, 1) := by decide +kernel
theorem dX8_isSideOrNone_13 : decode cX8_isSideOrNone 13 = .ok (.goto 4, 3) := by decide +kernel
theorem dX8_isSideOrNone_16 : decode cX8_isSideOrNone 16 = .ok (.iconst 0, 1) := by decide +kernel
theorem dX8_isSideOrNone_17 : decode cX8_isSideOrNone 17 = .ok (.ireturn, 1) := by decide +kernel
theorem dX8_isPlace_0 : decode cX8_isPlace 0 = .ok (.iload_n 0, 1) := by decide +kernel
theorem dX8_isPlace_1 : decode cX8_isPlace 1 = .ok (.ifCond .lt 12, 3) := by decide +kernel
theorem dX8_isPlace_4 : decode cX8_isPlace 4 = .ok (.iload_n 0, 1) := by decide +kernel
theorem dX8_isPlace_5 : decode cX8_isPlace 5 = .ok (.iconst 3, 1) := by decide +kernel
theorem dX8_isPlace_6 : decode cX8_isPlace 6 = .ok (.if_icmp .ge 7, 3) := by decide +kernel
theorem dX8_isPlace_9 : decode cX8_isPlace 9 = .ok (.iconst 1, 1) := by decide +kernel
theorem dX8_isPlace_10 : decode cX8_isPlace 10 = .ok (.goto 4, 3) := by decide +kernel
theorem dX8_isPlace_13 : decode cX8_isPlace 13 = .ok (.iconst 0, 1) := by decide +kernel
theorem dX8_isPlace_14 : decode cX8_isPlace 14 = .ok (.ireturn, 1) := by decide +kernel
theorem dX8_isSheet_0 : decode cX8_isSheet 0 = .ok (.iload_n 0, 1) := by decide +kernel
theorem dX8_isSheet_1 : decode cX8_isSheet 1 = .ok (.ifCond .lt 12, 3) := by decide +kernel
theorem dX8_isSheet_4 : decode cX8_isSheet 4 = .ok (.iload_n 0, 1) := by decide +kernel
theorem dX8_isSheet_5 : decode cX8_isSheet 5 = .ok (.iconst 4, 1) := by decide +kernel
theorem dX8_isSheet_6 : decode cX8_isSheet 6 = .ok (.if_icmp .ge 7, 3) := by decide +kernel
theorem dX8_isSheet_9 : decode cX8_isSheet 9 = .ok (.iconst 1, 1) := by decide +kernel
theorem dX8_isSheet_10 : decode cX8_isSheet 10 = .ok (.goto 4, 3) := by decide +kernel
theorem dX8_isSheet_13 : decode cX8_isSheet 13 = .ok (.iconst 0, 1) := by decide +kernel
theorem dX8_isSheet_14 : decode cX8_isSheet 14 = .ok (.ireturn, 1) := by decide +kernel
theorem dX8_isForm_0 : decode cX8_isForm 0 = .ok (.iload_n 0, 1) := by decide +kernel
theorem dX8_isForm_1 : decode cX8_isForm 1 = .ok (.ifCond .lt 12, 3) := by decide +kernel
theorem dX8_isForm_4 : decode cX8_isForm 4 = .ok (.iload_n 0, 1) := by decide +kernel
theorem dX8_isForm_5 : decode cX8_isForm 5 = .ok (.iconst 2, 1) := by decide +kernel
theorem dX8_isForm_6 : decode cX8_isForm 6 = .ok (.if_icmp .gt 7, 3) := by decide +kernel
theorem dX8_isForm_9 : decode cX8_isForm 9 = .ok (.iconst 1, 1) := by decide +kernel
theorem dX8_isForm_10 : decode cX8_isForm 10 = .ok (.goto 4, 3) := by decide +kernel
theorem dX8_isForm_13 : decode cX8_isForm 13 = .ok (.iconst 0, 1) := by decide +kernel
theorem dX8_isForm_14 : decode cX8_isForm 14 = .ok (.ireturn, 1) := by decide +kernel
theorem dX8_seatOf_0 : decode cX8_seatOf 0 = .ok (.iconst 3, 1) := by decide +kernel
theorem dX8_seatOf_1 : decode cX8_seatOf 1 = .ok (.iload_n 0, 1) := by decide +kernel
theorem dX8_seatOf_2 : decode cX8_seatOf 2 = .ok (.imul, 1) := by decide +kernel
theorem dX8_seatOf_3 : decode cX8_seatOf 3 = .ok (.iload_n 1, 1) := by decide +kernel
theorem dX8_seatOf_4 : decode cX8_seatOf 4 = .ok (.iadd, 1) := by decide +kernel
theorem dX8_seatOf_5 : decode cX8_seatOf 5 = .ok (.ireturn, 1) := by decide +kernel
theorem dX8_rowSize_0 : decode cX8_rowSize 0 = .ok (.aload_n 0, 1) := by decide +kernel
theorem dX8_rowSize_1 : decode cX8_rowSize 1 = .ok (.iload_n 1, 1) := by decide +kernel
theorem dX8_rowSize_2 : decode cX8_rowSize 2 = .ok (.invokevirtual 282, 3) := by decide +kernel
theorem dX8_rowSize_5 : decode cX8_rowSize 5 = .ok (.ifCond .eq 19, 3) := by decide +kernel
theorem dX8_rowSize_8 : decode cX8_rowSize 8 = .ok (.aload_n 0, 1) := by decide +kernel
theorem dX8_rowSize_9 : decode cX8_rowSize 9 = .ok (.iload_n 2, 1) := by decide +kernel
theorem dX8_rowSize_10 : decode cX8_rowSize 10 = .ok (.invokevirtual 282, 3) := by decide +kernel
theorem dX8_rowSize_13 : decode cX8_rowSize 13 = .ok (.ifCond .eq 11, 3) := by decide +kernel
theorem dX8_rowSize_16 : decode cX8_rowSize 16 = .ok (.aload_n 0, 1) := by decide +kernel
theorem dX8_rowSize_17 : decode cX8_rowSize 17 = .ok (.iload_n 3, 1) := by decide +kernel
theorem dX8_rowSize_18 : decode cX8_rowSize 18 = .ok (.invokevirtual 282, 3) := by decide +kernel
theorem dX8_rowSize_21 : decode cX8_rowSize 21 = .ok (.ifCond .ne 6, 3) := by decide +kernel
theorem dX8_rowSize_24 : decode cX8_rowSize 24 = .ok (.bipush (-2), 2) := by decide +kernel
theorem dX8_rowSize_26 : decode cX8_rowSize 26 = .ok (.ireturn, 1) := by decide +kernel
theorem dX8_rowSize_27 : decode cX8_rowSize 27 = .ok (.iload_n 1, 1) := by decide +kernel
theorem dX8_rowSize_28 : decode cX8_rowSize 28 = .ok (.iconst (-1), 1) := by decide +kernel
theorem dX8_rowSize_29 : decode cX8_rowSize 29 = .ok (.if_icmp .ne 20, 3) := by decide +kernel
theorem dX8_rowSize_32 : decode cX8_rowSize 32 = .ok (.iload_n 2, 1) := by decide +kernel
theorem dX8_rowSize_33 : decode cX8_rowSize 33 = .ok (.iconst (-1), 1) := by decide +kernel
theorem dX8_rowSize_34 : decode cX8_rowSize 34 = .ok (.if_icmp .ne 12, 3) := by decide +kernel
theorem dX8_rowSize_37 : decode cX8_rowSize 37 = .ok (.iload_n 3, 1) := by decide +kernel
theorem dX8_rowSize_38 : decode cX8_rowSize 38 = .ok (.iconst (-1), 1) := by decide +kernel
theorem dX8_rowSize_39 : decode cX8_rowSize 39 = .ok (.if_icmp .ne 7, 3) := by decide +kernel
theorem dX8_rowSize_42 : decode cX8_rowSize 42 = .ok (.iconst 0, 1) := by decide +kernel
theorem dX8_rowSize_43 : decode cX8_rowSize 43 = .ok (.goto 5, 3) := by decide +kernel
theorem dX8_rowSize_46 : decode cX8_rowSize 46 = .ok (.bipush (-2), 2) := by decide +kernel
theorem dX8_rowSize_48 : decode cX8_rowSize 48 = .ok (.ireturn, 1) := by decide +kernel
theorem dX8_rowSize_49 : decode cX8_rowSize 49 = .ok (.iload_n 2, 1) := by decide +kernel
theorem dX8_rowSize_50 : decode cX8_rowSize 50 = .ok (.iconst (-1), 1) := by decide +kernel
theorem dX8_rowSize_51 : decode cX8_rowSize 51 = .ok (.if_icmp .ne 15, 3) := by decide +kernel
theorem dX8_rowSize_54 : decode cX8_rowSize 54 = .ok (.iload_n 3, 1) := by decide +kernel
theorem dX8_rowSize_55 : decode cX8_rowSize 55 = .ok (.iconst (-1), 1) := by decide +kernel
theorem dX8_rowSize_56 : decode cX8_rowSize 56 = .ok (.if_icmp .ne 7, 3) := by decide +kernel
theorem dX8_rowSize_59 : decode cX8_rowSize 59 = .ok (.iconst 1, 1) := by decide +kernel
theorem dX8_rowSize_60 : decode cX8_rowSize 60 = .ok (.goto 5, 3) := by decide +kernel
theorem dX8_rowSize_63 : decode cX8_rowSize 63 = .ok (.bipush (-2), 2) := by decide +kernel
theorem dX8_rowSize_65 : decode cX8_rowSize 65 = .ok (.ireturn, 1) := by decide +kernel
theorem dX8_rowSize_66 : decode cX8_rowSize 66 = .ok (.iload_n 3, 1) := by decide +kernel
theorem dX8_rowSize_67 : decode cX8_rowSize 67 = .ok (.iconst (-1), 1) := by decide +kernel
theorem dX8_rowSize_68 : decode cX8_rowSize 68 = .ok (.if_icmp .ne 7, 3) := by decide +kernel
theorem dX8_rowSize_71 : decode cX8_rowSize 71 = .ok (.iconst 2, 1) := by decide +kernel
theorem dX8_rowSize_72 : decode cX8_rowSize 72 = .ok (.goto 4, 3) := by decide +kernel
theorem dX8_rowSize_75 : decode cX8_rowSize 75 = .ok (.iconst 3, 1) := by decide +kernel
theorem dX8_rowSize_76 : decode cX8_rowSize 76 = .ok (.ireturn, 1) := by decide +kernel
theorem dX8_isFighterOrNone_0 : decode cX8_isFighterOrNone 0 = .ok (.iload_n 1, 1) := by decide +kernel
theorem dX8_isFighterOrNone_1 : decode cX8_isFighterOrNone 1 = .ok (.iconst (-1), 1) := by decide +kernel
theorem dX8_isFighterOrNone_2 : decode cX8_isFighterOrNone 2 = .ok (.if_icmp .eq 14, 3) := by decide +kernel
theorem dX8_isFighterOrNone_5 : decode cX8_isFighterOrNone 5 = .ok (.aload_n 0, 1) := by decide +kernel
theorem dX8_isFighterOrNone_6 : decode cX8_isFighterOrNone 6 = .ok (.getfield 10, 3) := by decide +kernel
theorem dX8_isFighterOrNone_9 : decode cX8_isFighterOrNone 9 = .ok (.iload_n 1, 1) := by decide +kernel
theorem dX8_isFighterOrNone_10 : decode cX8_isFighterOrNone 10 = .ok (.invokevirtual 89, 3) := by decide +kernel
theorem dX8_isFighterOrNone_13 : decode cX8_isFighterOrNone 13 = .ok (.ifCond .eq 7, 3) := by decide +kernel
theorem dX8_isFighterOrNone_16 : decode cX8_isFighterOrNone 16 = .ok (.iconst 1, 1) := by decide +kernel
theorem dX8_isFighterOrNone_17 : decode cX8_isFighterOrNone 17 = .ok (.goto 4, 3) := by decide +kernel
theorem dX8_isFighterOrNone_20 : decode cX8_isFighterOrNone 20 = .ok (.iconst 0, 1) := by decide +kernel
theorem dX8_isFighterOrNone_21 : decode cX8_isFighterOrNone 21 = .ok (.ireturn, 1) := by decide +kernel
theorem dX8_refusal_0 : decode cX8_refusal 0 = .ok (.ldc2_w 285, 3) := by decide +kernel
theorem dX8_refusal_3 : decode cX8_refusal 3 = .ok (.iload_n 0, 1) := by decide +kernel
theorem dX8_refusal_4 : decode cX8_refusal 4 = .ok (.i2l, 1) := by decide +kernel
theorem dX8_refusal_5 : decode cX8_refusal 5 = .ok (.lsub, 1) := by decide +kernel
theorem dX8_refusal_6 : decode cX8_refusal 6 = .ok (.lreturn, 1) := by decide +kernel
theorem dX8_found_0 : decode cX8_found 0 = .ok (.aload_n 0, 1) := by decide +kernel
theorem dX8_found_1 : decode cX8_found 1 = .ok (.iload_n 1, 1) := by decide +kernel
theorem dX8_found_2 : decode cX8_found 2 = .ok (.putfield 73, 3) := by decide +kernel
theorem dX8_found_5 : decode cX8_found 5 = .ok (.bipush (-10), 2) := by decide +kernel
theorem dX8_found_7 : decode cX8_found 7 = .ok (.iload_n 1, 1) := by decide +kernel
theorem dX8_found_8 : decode cX8_found 8 = .ok (.isub, 1) := by decide +kernel
theorem dX8_found_9 : decode cX8_found 9 = .ok (.ireturn, 1) := by decide +kernel
theorem dX8_itemFault_0 : decode cX8_itemFault 0 = .ok (.aload_n 0, 1) := by decide +kernel
theorem dX8_itemFault_1 : decode cX8_itemFault 1 = .ok (.getfield 207, 3) := by decide +kernel
theorem dX8_itemFault_4 : decode cX8_itemFault 4 = .ok (.ifCond .eq 5, 3) := by decide +kernel
theorem dX8_itemFault_7 : decode cX8_itemFault 7 = .ok (.iconst 1, 1) := by decide +kernel
theorem dX8_itemFault_8 : decode cX8_itemFault 8 = .ok (.ireturn, 1) := by decide +kernel
theorem dX8_itemFault_9 : decode cX8_itemFault 9 = .ok (.aload_n 0, 1) := by decide +kernel
theorem dX8_itemFault_10 : decode cX8_itemFault 10 = .ok (.getfield 250, 3) := by decide +kernel
theorem dX8_itemFault_13 : decode cX8_itemFault 13 = .ok (.iload_n 1, 1) := by decide +kernel
theorem dX8_itemFault_14 : decode cX8_itemFault 14 = .ok (.if_icmp .eq 5, 3) := by decide +kernel
theorem dX8_itemFault_17 : decode cX8_itemFault 17 = .ok (.iconst 3, 1) := by decide +kernel
theorem dX8_itemFault_18 : decode cX8_itemFault 18 = .ok (.ireturn, 1) := by decide +kernel
theorem dX8_itemFault_19 : decode cX8_itemFault 19 = .ok (.aload_n 0, 1) := by decide +kernel
theorem dX8_itemFault_20 : decode cX8_itemFault 20 = .ok (.iload_n 2, 1) := by decide +kernel
theorem dX8_itemFault_21 : decode cX8_itemFault 21 = .ok (.invokevirtual 287, 3) := by decide +kernel
theorem dX8_itemFault_24 : decode cX8_itemFault 24 = .ok (.ifCond .eq 7, 3) := by decide +kernel
theorem dX8_itemFault_27 : decode cX8_itemFault 27 = .ok (.iconst 0, 1) := by decide +kernel
theorem dX8_itemFault_28 : decode cX8_itemFault 28 = .ok (.goto 4, 3) := by decide +kernel
theorem dX8_itemFault_31 : decode cX8_itemFault 31 = .ok (.iconst 2, 1) := by decide +kernel
theorem dX8_itemFault_32 : decode cX8_itemFault 32 = .ok (.ireturn, 1) := by decide +kernel
theorem dX8_seatFight_0 : decode cX8_seatFight 0 = .ok (.aload_n 0, 1) := by decide +kernel
theorem dX8_seatFight_1 : decode cX8_seatFight 1 = .ok (.getfield 25, 3) := by decide +kernel
theorem dX8_seatFight_4 : decode cX8_seatFight 4 = .ok (.aload_n 0, 1) := by decide +kernel
theorem dX8_seatFight_5 : decode cX8_seatFight 5 = .ok (.getfield 60, 3) := by decide +kernel
theorem dX8_seatFight_8 : decode cX8_seatFight 8 = .ok (.aload_n 0, 1) := by decide +kernel
theorem dX8_seatFight_9 : decode cX8_seatFight 9 = .ok (.getfield 64, 3) := by decide +kernel
theorem dX8_seatFight_12 : decode cX8_seatFight 12 = .ok (.aload_n 0, 1) := by decide +kernel
theorem dX8_seatFight_13 : decode cX8_seatFight 13 = .ok (.getfield 67, 3) := by decide +kernel
theorem dX8_seatFight_16 : decode cX8_seatFight 16 = .ok (.invokevirtual 157, 3) := by decide +kernel
theorem dX8_seatFight_19 : decode cX8_seatFight 19 = .ok (.aload_n 0, 1) := by decide +kernel
theorem dX8_seatFight_20 : decode cX8_seatFight 20 = .ok (.iconst (-1), 1) := by decide +kernel
theorem dX8_seatFight_21 : decode cX8_seatFight 21 = .ok (.iconst 0, 1) := by decide +kernel
theorem dX8_seatFight_22 : decode cX8_seatFight 22 = .ok (.invokevirtual 160, 3) := by decide +kernel
theorem dX8_seatFight_25 : decode cX8_seatFight 25 = .ok (.aload_n 0, 1) := by decide +kernel
theorem dX8_seatFight_26 : decode cX8_seatFight 26 = .ok (.aload_n 0, 1) := by decide +kernel
theorem dX8_seatFight_27 : decode cX8_seatFight 27 = .ok (.getfield 18, 3) := by decide +kernel
theorem dX8_seatFight_30 : decode cX8_seatFight 30 = .ok (.iconst 1, 1) := by decide +kernel
theorem dX8_seatFight_31 : decode cX8_seatFight 31 = .ok (.aaload, 1) := by decide +kernel
theorem dX8_seatFight_32 : decode cX8_seatFight 32 = .ok (.invokevirtual 164, 3) := by decide +kernel
theorem dX8_seatFight_35 : decode cX8_seatFight 35 = .ok (.return_, 1) := by decide +kernel
theorem dX8_seatHeroes_0 : decode cX8_seatHeroes 0 = .ok (.iconst 0, 1) := by decide +kernel
theorem dX8_seatHeroes_1 : decode cX8_seatHeroes 1 = .ok (.iconst 0, 1) := by decide +kernel
theorem dX8_seatHeroes_2 : decode cX8_seatHeroes 2 = .ok (.invokestatic 139, 3) := by decide +kernel
theorem dX8_seatHeroes_5 : decode cX8_seatHeroes 5 = .ok (.istore_n 3, 1) := by decide +kernel
theorem dX8_seatHeroes_6 : decode cX8_seatHeroes 6 = .ok (.iconst 0, 1) := by decide +kernel
theorem dX8_seatHeroes_7 : decode cX8_seatHeroes 7 = .ok (.istore 4, 2) := by decide +kernel
theorem dX8_seatHeroes_9 : decode cX8_seatHeroes 9 = .ok (.iload 4, 2) := by decide +kernel
theorem dX8_seatHeroes_11 : decode cX8_seatHeroes 11 = .ok (.aload_n 0, 1) := by decide +kernel
theorem dX8_seatHeroes_12 : decode cX8_seatHeroes 12 = .ok (.getfield 18, 3) := by decide +kernel
theorem dX8_seatHeroes_15 : decode cX8_seatHeroes 15 = .ok (.iconst 0, 1) := by decide +kernel
theorem dX8_seatHeroes_16 : decode cX8_seatHeroes 16 = .ok (.aaload, 1) := by decide +kernel
theorem dX8_seatHeroes_17 : decode cX8_seatHeroes 17 = .ok (.getfield 118, 3) := by decide +kernel
theorem dX8_seatHeroes_20 : decode cX8_seatHeroes 20 = .ok (.if_icmp .ge 42, 3) := by decide +kernel
theorem dX8_seatHeroes_23 : decode cX8_seatHeroes 23 = .ok (.iload 4, 2) := by decide +kernel
theorem dX8_seatHeroes_25 : decode cX8_seatHeroes 25 = .ok (.iload_n 1, 1) := by decide +kernel
theorem dX8_seatHeroes_26 : decode cX8_seatHeroes 26 = .ok (.if_icmp .eq 30, 3) := by decide +kernel
theorem dX8_seatHeroes_29 : decode cX8_seatHeroes 29 = .ok (.aload_n 0, 1) := by decide +kernel
theorem dX8_seatHeroes_30 : decode cX8_seatHeroes 30 = .ok (.getfield 25, 3) := by decide +kernel
theorem dX8_seatHeroes_33 : decode cX8_seatHeroes 33 = .ok (.iload_n 3, 1) := by decide +kernel
theorem dX8_seatHeroes_34 : decode cX8_seatHeroes 34 = .ok (.aload_n 0, 1) := by decide +kernel
theorem dX8_seatHeroes_35 : decode cX8_seatHeroes 35 = .ok (.getfield 10, 3) := by decide +kernel
theorem dX8_seatHeroes_38 : decode cX8_seatHeroes 38 = .ok (.aload_n 0, 1) := by decide +kernel
theorem dX8_seatHeroes_39 : decode cX8_seatHeroes 39 = .ok (.getfield 18, 3) := by decide +kernel
theorem dX8_seatHeroes_42 : decode cX8_seatHeroes 42 = .ok (.iconst 0, 1) := by decide +kernel
theorem dX8_seatHeroes_43 : decode cX8_seatHeroes 43 = .ok (.aaload, 1) := by decide +kernel
theorem dX8_seatHeroes_44 : decode cX8_seatHeroes 44 = .ok (.iload 4, 2) := by decide +kernel
theorem dX8_seatHeroes_46 : decode cX8_seatHeroes 46 = .ok (.invokevirtual 111, 3) := by decide +kernel
theorem dX8_seatHeroes_49 : decode cX8_seatHeroes 49 = .ok (.iload_n 2, 1) := by decide +kernel
theorem dX8_seatHeroes_50 : decode cX8_seatHeroes 50 = .ok (.invokevirtual 288, 3) := by decide +kernel
theorem dX8_seatHeroes_53 : decode cX8_seatHeroes 53 = .ok (.iinc 3 1, 3) := by decide +kernel
theorem dX8_seatHeroes_56 : decode cX8_seatHeroes 56 = .ok (.iinc 4 1, 3) := by decide +kernel
theorem dX8_seatHeroes_59 : decode cX8_seatHeroes 59 = .ok (.goto (-50), 3) := by decide +kernel
theorem dX8_seatHeroes_62 : decode cX8_seatHeroes 62 = .ok (.return_, 1) := by decide +kernel
theorem dX8_seatFoes_0 : decode cX8_seatFoes 0 = .ok (.iconst 0, 1) := by decide +kernel
theorem dX8_seatFoes_1 : decode cX8_seatFoes 1 = .ok (.istore_n 2, 1) := by decide +kernel
theorem dX8_seatFoes_2 : decode cX8_seatFoes 2 = .ok (.iload_n 2, 1) := by decide +kernel
theorem dX8_seatFoes_3 : decode cX8_seatFoes 3 = .ok (.aload_n 1, 1) := by decide +kernel
theorem dX8_seatFoes_4 : decode cX8_seatFoes 4 = .ok (.getfield 118, 3) := by decide +kernel
theorem dX8_seatFoes_7 : decode cX8_seatFoes 7 = .ok (.if_icmp .ge 31, 3) := by decide +kernel
theorem dX8_seatFoes_10 : decode cX8_seatFoes 10 = .ok (.aload_n 0, 1) := by decide +kernel
theorem dX8_seatFoes_11 : decode cX8_seatFoes 11 = .ok (.getfield 25, 3) := by decide +kernel
theorem dX8_seatFoes_14 : decode cX8_seatFoes 14 = .ok (.iconst 1, 1) := by decide +kernel
theorem dX8_seatFoes_15 : decode cX8_seatFoes 15 = .ok (.iload_n 2, 1) := by decide +kernel
theorem dX8_seatFoes_16 : decode cX8_seatFoes 16 = .ok (.invokestatic 139, 3) := by decide +kernel
theorem dX8_seatFoes_19 : decode cX8_seatFoes 19 = .ok (.aload_n 0, 1) := by decide +kernel
theorem dX8_seatFoes_20 : decode cX8_seatFoes 20 = .ok (.getfield 10, 3) := by decide +kernel
theorem dX8_seatFoes_23 : decode cX8_seatFoes 23 = .ok (.aload_n 1, 1) := by decide +kernel
theorem dX8_seatFoes_24 : decode cX8_seatFoes 24 = .ok (.iload_n 2, 1) := by decide +kernel
theorem dX8_seatFoes_25 : decode cX8_seatFoes 25 = .ok (.invokevirtual 111, 3) := by decide +kernel
theorem dX8_seatFoes_28 : decode cX8_seatFoes 28 = .ok (.iconst 0, 1) := by decide +kernel
theorem dX8_seatFoes_29 : decode cX8_seatFoes 29 = .ok (.invokevirtual 288, 3) := by decide +kernel
theorem dX8_seatFoes_32 : decode cX8_seatFoes 32 = .ok (.iinc 2 1, 3) := by decide +kernel
theorem dX8_seatFoes_35 : decode cX8_seatFoes 35 = .ok (.goto (-33), 3) := by decide +kernel
theorem dX8_seatFoes_38 : decode cX8_seatFoes 38 = .ok (.return_, 1) := by decide +kernel
theorem dX8_reckonFight_0 : decode cX8_reckonFight 0 = .ok (.aload_n 0, 1) := by decide +kernel
theorem dX8_reckonFight_1 : decode cX8_reckonFight 1 = .ok (.invokevirtual 214, 3) := by decide +kernel
theorem dX8_reckonFight_4 : decode cX8_reckonFight 4 = .ok (.aload_n 0, 1) := by decide +kernel
theorem dX8_reckonFight_5 : decode cX8_reckonFight 5 = .ok (.getfield 32, 3) := by decide +kernel
theorem dX8_reckonFight_8 : decode cX8_reckonFight 8 = .ok (.aload_n 0, 1) := by decide +kernel
theorem dX8_reckonFight_9 : decode cX8_reckonFight 9 = .ok (.getfield 25, 3) := by decide +kernel
theorem dX8_reckonFight_12 : decode cX8_reckonFight 12 = .ok (.invokevirtual 168, 3) := by decide +kernel
theorem dX8_reckonFight_15 : decode cX8_reckonFight 15 = .ok (.ireturn, 1) := by decide +kernel
theorem dJ9_max_7cf53_0 : decode cJ9_max_7cf53 0 = .ok (.iload_n 0, 1) := by decide +kernel
theorem dJ9_max_7cf53_1 : decode cJ9_max_7cf53 1 = .ok (.iload_n 1, 1) := by decide +kernel
theorem dJ9_max_7cf53_2 : decode cJ9_max_7cf53 2 = .ok (.if_icmp .lt 7, 3) := by decide +kernel
theorem dJ9_max_7cf53_5 : decode cJ9_max_7cf53 5 = .ok (.iload_n 0, 1) := by decide +kernel
theorem dJ9_max_7cf53_6 : decode cJ9_max_7cf53 6 = .ok (.goto 4, 3) := by decide +kernel
theorem dJ9_max_7cf53_9 : decode cJ9_max_7cf53 9 = .ok (.iload_n 1, 1) := by decide +kernel
theorem dJ9_max_7cf53_10 : decode cJ9_max_7cf53 10 = .ok (.ireturn, 1) := by decide +kernel
theorem dJ9_min_7cf53_0 : decode cJ9_min_7cf53 0 = .ok (.iload_n 0, 1) := by decide +kernel
theorem dJ9_min_7cf53_1 : decode cJ9_min_7cf53 1 = .ok (.iload_n 1, 1) := by decide +kernel
theorem dJ9_min_7cf53_2 : decode cJ9_min_7cf53 2 = .ok (.if_icmp .gt 7, 3) := by decide +kernel
theorem dJ9_min_7cf53_5 : decode cJ9_min_7cf53 5 = .ok (.iload_n 0, 1) := by decide +kernel
theorem dJ9_min_7cf53_6 : decode cJ9_min_7cf53 6 = .ok (.goto 4, 3) := by decide +kernel
theorem dJ9_min_7cf53_9 : decode cJ9_min_7cf53 9 = .ok (.iload_n 1, 1) := by decide +kernel
theorem dJ9_min_7cf53_10 : decode cJ9_min_7cf53 10 = .ok (.ireturn, 1) := by decide +kernel
theorem dL_cell_0 : decode cL_cell 0 = .ok (.iload_n 1, 1) := by decide +kernel
theorem dL_cell_1 : decode cL_cell 1 = .ok (.aload_n 0, 1) := by decide +kernel
theorem dL_cell_2 : decode cL_cell 2 = .ok (.arraylength, 1) := by decide +kernel
theorem dL_cell_3 : decode cL_cell 3 = .ok (.if_icmp .ge 9, 3) := by decide +kernel
theorem dL_cell_6 : decode cL_cell 6 = .ok (.aload_n 0, 1) := by decide +kernel
theorem dL_cell_7 : decode cL_cell 7 = .ok (.iload_n 1, 1) := by decide +kernel
theorem dL_cell_8 : decode cL_cell 8 = .ok (.iaload, 1) := by decide +kernel
theorem dL_cell_9 : decode cL_cell 9 = .ok (.goto 9, 3) := by decide +kernel
theorem dL_cell_12 : decode cL_cell 12 = .ok (.ldc 7, 2) := by decide +kernel
theorem dL_cell_14 : decode cL_cell 14 = .ok (.iload_n 1, 1) := by decide +kernel
theorem dL_cell_15 : decode cL_cell 15 = .ok (.iconst 3, 1) := by decide +kernel
theorem dL_cell_16 : decode cL_cell 16 = .ok (.iadd, 1) := by decide +kernel
theorem dL_cell_17 : decode cL_cell 17 = .ok (.imul, 1) := by decide +kernel
theorem dL_cell_18 : decode cL_cell 18 = .ok (.ireturn, 1) := by decide +kernel
theorem dL_up_0 : decode cL_up 0 = .ok (.iload_n 0, 1) := by decide +kernel
theorem dL_up_1 : decode cL_up 1 = .ok (.ldc 8, 2) := by decide +kernel
theorem dL_up_3 : decode cL_up 3 = .ok (.iand, 1) := by decide +kernel
theorem dL_up_4 : decode cL_up 4 = .ok (.iload_n 1, 1) := by decide +kernel
theorem dL_up_5 : decode cL_up 5 = .ok (.irem, 1) := by decide +kernel
theorem dL_up_6 : decode cL_up 6 = .ok (.ireturn, 1) := by decide +kernel
theorem dL_build_0 : decode cL_build 0 = .ok (.iconst 0, 1) := by decide +kernel
theorem dL_build_1 : decode cL_build 1 = .ok (.istore 5, 2) := by decide +kernel
theorem dL_build_3 : decode cL_build 3 = .ok (.iload 5, 2) := by decide +kernel
theorem dL_build_5 : decode cL_build 5 = .ok (.iload_n 3, 1) := by decide +kernel
theorem dL_build_6 : decode cL_build 6 = .ok (.if_icmp .ge 197, 3) := by decide +kernel
theorem dL_build_9 : decode cL_build 9 = .ok (.aload_n 1, 1) := by decide +kernel
theorem dL_build_10 : decode cL_build 10 = .ok (.iload 5, 2) := by decide +kernel
theorem dL_build_12 : decode cL_build 12 = .ok (.invokestatic 9, 3) := by decide +kernel
theorem dL_build_15 : decode cL_build 15 = .ok (.istore 6, 2) := by decide +kernel
theorem dL_build_17 : decode cL_build 17 = .ok (.iconst 1, 1) := by decide +kernel
theorem dL_build_18 : decode cL_build 18 = .ok (.iload 6, 2) := by decide +kernel
theorem dL_build_20 : decode cL_build 20 = .ok (.iconst 3, 1) := by decide +kernel
theorem dL_build_21 : decode cL_build 21 = .ok (.ishr, 1) := by decide +kernel
theorem dL_build_22 : decode cL_build 22 = .ok (.iload 4, 2) := by decide +kernel
theorem dL_build_24 : decode cL_build 24 = .ok (.invokestatic 15, 3) := by decide +kernel
theorem dL_build_27 : decode cL_build 27 = .ok (.iadd, 1) := by decide +kernel
theorem dL_build_28 : decode cL_build 28 = .ok (.istore 7, 2) := by decide +kernel
theorem dL_build_30 : decode cL_build 30 = .ok (.iload 6, 2) := by decide +kernel
theorem dL_build_32 : decode cL_build 32 = .ok (.iconst 3, 1) := by decide +kernel
theorem dL_build_33 : decode cL_build 33 = .ok (.iand, 1) := by decide +kernel
theorem dL_build_34 : decode cL_build 34 = .ok (.iconst 3, 1) := by decide +kernel
theorem dL_build_35 : decode cL_build 35 = .ok (.if_icmp .ne 7, 3) := by decide +kernel
theorem dL_build_38 : decode cL_build 38 = .ok (.iconst 0, 1) := by decide +kernel
theorem dL_build_39 : decode cL_build 39 = .ok (.goto 7, 3) := by decide +kernel
theorem dL_build_42 : decode cL_build 42 = .ok (.iload 6, 2) := by decide +kernel
theorem dL_build_44 : decode cL_build 44 = .ok (.iconst 3, 1) := by decide +kernel
theorem dL_build_45 : decode cL_build 45 = .ok (.iand, 1) := by decide +kernel
theorem dL_build_46 : decode cL_build 46 = .ok (.istore 8, 2) := by decide +kernel
theorem dL_build_48 : decode cL_build 48 = .ok (.iload 6, 2) := by decide +kernel
theorem dL_build_50 : decode cL_build 50 = .ok (.bipush 8, 2) := by decide +kernel
theorem dL_build_52 : decode cL_build 52 = .ok (.ishr, 1) := by decide +kernel
theorem dL_build_53 : decode cL_build 53 = .ok (.bipush 7, 2) := by decide +kernel
theorem dL_build_55 : decode cL_build 55 = .ok (.invokestatic 15, 3) := by decide +kernel
theorem dL_build_58 : decode cL_build 58 = .ok (.istore 9, 2) := by decide +kernel
theorem dL_build_60 : decode cL_build 60 = .ok (.iconst 1, 1) := by decide +kernel
theorem dL_build_61 : decode cL_build 61 = .ok (.iload 6, 2) := by decide +kernel
theorem dL_build_63 : decode cL_build 63 = .ok (.bipush 12, 2) := by decide +kernel
theorem dL_build_65 : decode cL_build 65 = .ok (.ishr, 1) := by decide +kernel
theorem dL_build_66 : decode cL_build 66 = .ok (.iconst 4, 1) := by decide +kernel
theorem dL_build_67 : decode cL_build 67 = .ok (.invokestatic 15, 3) := by decide +kernel
theorem dL_build_70 : decode cL_build 70 = .ok (.iadd, 1) := by decide +kernel
theorem dL_build_71 : decode cL_build 71 = .ok (.istore 10, 2) := by decide +kernel
theorem dL_build_73 : decode cL_build 73 = .ok (.iload 6, 2) := by decide +kernel
theorem dL_build_75 : decode cL_build 75 = .ok (.bipush 16, 2) := by decide +kernel
theorem dL_build_77 : decode cL_build 77 = .ok (.ishr, 1) := by decide +kernel
theorem dL_build_78 : decode cL_build 78 = .ok (.iconst 3, 1) := by decide +kernel
theorem dL_build_79 : decode cL_build 79 = .ok (.iand, 1) := by decide +kernel
theorem dL_build_80 : decode cL_build 80 = .ok (.ifCond .le 7, 3) := by decide +kernel
theorem dL_build_83 : decode cL_build 83 = .ok (.iconst 0, 1) := by decide +kernel
theorem dL_build_84 : decode cL_build 84 = .ok (.goto 12, 3) := by decide +kernel
theorem dL_build_87 : decode cL_build 87 = .ok (.iload 6, 2) := by decide +kernel
theorem dL_build_89 : decode cL_build 89 = .ok (.bipush 18, 2) := by decide +kernel
theorem dL_build_91 : decode cL_build 91 = .ok (.ishr, 1) := by decide +kernel
theorem dL_build_92 : decode cL_build 92 = .ok (.iconst 4, 1) := by decide +kernel
theorem dL_build_93 : decode cL_build 93 = .ok (.invokestatic 15, 3) := by decide +kernel
theorem dL_build_96 : decode cL_build 96 = .ok (.istore 11, 2) := by decide +kernel
theorem dL_build_98 : decode cL_build 98 = .ok (.iload 6, 2) := by decide +kernel
theorem dL_build_100 : decode cL_build 100 = .ok (.bipush 21, 2) := by decide +kernel
theorem dL_build_102 : decode cL_build 102 = .ok (.ishr, 1) := by decide +kernel
theorem dL_build_103 : decode cL_build 103 = .ok (.bipush 10, 2) := by decide +kernel
theorem dL_build_105 : decode cL_build 105 = .ok (.invokestatic 15, 3) := by decide +kernel
theorem dL_build_108 : decode cL_build 108 = .ok (.istore 12, 2) := by decide +kernel
theorem dL_build_110 : decode cL_build 110 = .ok (.aload_n 0, 1) := by decide +kernel
theorem dL_build_111 : decode cL_build 111 = .ok (.iload 8, 2) := by decide +kernel
theorem dL_build_113 : decode cL_build 113 = .ok (.iload 7, 2) := by decide +kernel
theorem dL_build_115 : decode cL_build 115 = .ok (.iload 9, 2) := by decide +kernel
theorem dL_build_117 : decode cL_build 117 = .ok (.iload 10, 2) := by decide +kernel
theorem dL_build_119 : decode cL_build 119 = .ok (.iload 11, 2) := by decide +kernel
theorem dL_build_121 : decode cL_build 121 = .ok (.iload 12, 2) := by decide +kernel
theorem dL_build_123 : decode cL_build 123 = .ok (.invokevirtual 19, 3) := by decide +kernel
theorem dL_build_126 : decode cL_build 126 = .ok (.iload 5, 2) := by decide +kernel
theorem dL_build_128 : decode cL_build 128 = .ok (.if_icmp .eq 5, 3) := by decide +kernel
theorem dL_build_131 : decode cL_build 131 = .ok (.iconst 0, 1) := by decide +kernel
theorem dL_build_132 : decode cL_build 132 = .ok (.ireturn, 1) := by decide +kernel
theorem dL_build_133 : decode cL_build 133 = .ok (.aload_n 2, 1) := by decide +kernel
theorem dL_build_134 : decode cL_build 134 = .ok (.bipush 6, 2) := by decide +kernel
theorem dL_build_136 : decode cL_build 136 = .ok (.iload 5, 2) := by decide +kernel
theorem dL_build_138 : decode cL_build 138 = .ok (.imul, 1) := by decide +kernel
theorem dL_build_139 : decode cL_build 139 = .ok (.iload 8, 2) := by decide +kernel
theorem dL_build_141 : decode cL_build 141 = .ok (.iastore, 1) := by decide +kernel
theorem dL_build_142 : decode cL_build 142 = .ok (.aload_n 2, 1) := by decide +kernel
theorem dL_build_143 : decode cL_build 143 = .ok (.bipush 6, 2) := by decide +kernel
theorem dL_build_145 : decode cL_build 145 = .ok (.iload 5, 2) := by decide +kernel
theorem dL_build_147 : decode cL_build 147 = .ok (.imul, 1) := by decide +kernel
theorem dL_build_148 : decode cL_build 148 = .ok (.iconst 1, 1) := by decide +kernel
theorem dL_build_149 : decode cL_build 149 = .ok (.iadd, 1) := by decide +kernel
theorem dL_build_150 : decode cL_build 150 = .ok (.iload 7, 2) := by decide +kernel
theorem dL_build_152 : decode cL_build 152 = .ok (.iastore, 1) := by decide +kernel
theorem dL_build_153 : decode cL_build 153 = .ok (.aload_n 2, 1) := by decide +kernel
theorem dL_build_154 : decode cL_build 154 = .ok (.bipush 6, 2) := by decide +kernel
theorem dL_build_156 : decode cL_build 156 = .ok (.iload 5, 2) := by decide +kernel
theorem dL_build_158 : decode cL_build 158 = .ok (.imul, 1) := by decide +kernel
theorem dL_build_159 : decode cL_build 159 = .ok (.iconst 2, 1) := by decide +kernel
theorem dL_build_160 : decode cL_build 160 = .ok (.iadd, 1) := by decide +kernel
theorem dL_build_161 : decode cL_build 161 = .ok (.iload 9, 2) := by decide +kernel
theorem dL_build_163 : decode cL_build 163 = .ok (.iastore, 1) := by decide +kernel
theorem dL_build_164 : decode cL_build 164 = .ok (.aload_n 2, 1) := by decide +kernel
theorem dL_build_165 : decode cL_build 165 = .ok (.bipush 6, 2) := by decide +kernel
theorem dL_build_167 : decode cL_build 167 = .ok (.iload 5, 2) := by decide +kernel
theorem dL_build_169 : decode cL_build 169 = .ok (.imul, 1) := by decide +kernel
theorem dL_build_170 : decode cL_build 170 = .ok (.iconst 3, 1) := by decide +kernel
theorem dL_build_171 : decode cL_build 171 = .ok (.iadd, 1) := by decide +kernel
theorem dL_build_172 : decode cL_build 172 = .ok (.iload 10, 2) := by decide +kernel
theorem dL_build_174 : decode cL_build 174 = .ok (.iastore, 1) := by decide +kernel
theorem dL_build_175 : decode cL_build 175 = .ok (.aload_n 2, 1) := by decide +kernel
theorem dL_build_176 : decode cL_build 176 = .ok (.bipush 6, 2) := by decide +kernel
theorem dL_build_178 : decode cL_build 178 = .ok (.iload 5, 2) := by decide +kernel
theorem dL_build_180 : decode cL_build 180 = .ok (.imul, 1) := by decide +kernel
theorem dL_build_181 : decode cL_build 181 = .ok (.iconst 4, 1) := by decide +kernel
theorem dL_build_182 : decode cL_build 182 = .ok (.iadd, 1) := by decide +kernel
theorem dL_build_183 : decode cL_build 183 = .ok (.iload 11, 2) := by decide +kernel
theorem dL_build_185 : decode cL_build 185 = .ok (.iastore, 1) := by decide +kernel
theorem dL_build_186 : decode cL_build 186 = .ok (.aload_n 2, 1) := by decide +kernel
theorem dL_build_187 : decode cL_build 187 = .ok (.bipush 6, 2) := by decide +kernel
theorem dL_build_189 : decode cL_build 189 = .ok (.iload 5, 2) := by decide +kernel
theorem dL_build_191 : decode cL_build 191 = .ok (.imul, 1) := by decide +kernel
theorem dL_build_192 : decode cL_build 192 = .ok (.iconst 5, 1) := by decide +kernel
theorem dL_build_193 : decode cL_build 193 = .ok (.iadd, 1) := by decide +kernel
theorem dL_build_194 : decode cL_build 194 = .ok (.iload 12, 2) := by decide +kernel
theorem dL_build_196 : decode cL_build 196 = .ok (.iastore, 1) := by decide +kernel
theorem dL_build_197 : decode cL_build 197 = .ok (.iinc 5 1, 3) := by decide +kernel
theorem dL_build_200 : decode cL_build 200 = .ok (.goto (-197), 3) := by decide +kernel
theorem dL_build_203 : decode cL_build 203 = .ok (.iconst 1, 1) := by decide +kernel
theorem dL_build_204 : decode cL_build 204 = .ok (.ireturn, 1) := by decide +kernel
theorem dL_law_0 : decode cL_law 0 = .ok (.new 20, 3) := by decide +kernel
theorem dL_law_3 : decode cL_law 3 = .ok (.dup, 1) := by decide +kernel
theorem dL_law_4 : decode cL_law 4 = .ok (.invokespecial 25, 3) := by decide +kernel
theorem dL_law_7 : decode cL_law 7 = .ok (.astore_n 1, 1) := by decide +kernel
theorem dL_law_8 : decode cL_law 8 = .ok (.bipush 24, 2) := by decide +kernel
theorem dL_law_10 : decode cL_law 10 = .ok (.newarray .int, 2) := by decide +kernel
theorem dL_law_12 : decode cL_law 12 = .ok (.astore_n 2, 1) := by decide +kernel
theorem dL_law_13 : decode cL_law 13 = .ok (.aload_n 1, 1) := by decide +kernel
theorem dL_law_14 : decode cL_law 14 = .ok (.aload_n 0, 1) := by decide +kernel
theorem dL_law_15 : decode cL_law 15 = .ok (.aload_n 2, 1) := by decide +kernel
theorem dL_law_16 : decode cL_law 16 = .ok (.iconst 4, 1) := by decide +kernel
theorem dL_law_17 : decode cL_law 17 = .ok (.bipush 7, 2) := by decide +kernel
theorem dL_law_19 : decode cL_law 19 = .ok (.invokestatic 26, 3) := by decide +kernel
theorem dL_law_22 : decode cL_law 22 = .ok (.ifCond .ne 5, 3) := by decide +kernel
theorem dL_law_25 : decode cL_law 25 = .ok (.iconst 0, 1) := by decide +kernel
theorem dL_law_26 : decode cL_law 26 = .ok (.ireturn, 1) := by decide +kernel
theorem dL_law_27 : decode cL_law 27 = .ok (.iconst 1, 1) := by decide +kernel
theorem dL_law_28 : decode cL_law 28 = .ok (.aload_n 0, 1) := by decide +kernel
theorem dL_law_29 : decode cL_law 29 = .ok (.iconst 4, 1) := by decide +kernel
theorem dL_law_30 : decode cL_law 30 = .ok (.invokestatic 9, 3) := by decide +kernel
theorem dL_law_33 : decode cL_law 33 = .ok (.iconst 1, 1) := by decide +kernel
theorem dL_law_34 : decode cL_law 34 = .ok (.iand, 1) := by decide +kernel
theorem dL_law_35 : decode cL_law 35 = .ok (.iadd, 1) := by decide +kernel
theorem dL_law_36 : decode cL_law 36 = .ok (.istore_n 3, 1) := by decide +kernel
theorem dL_law_37 : decode cL_law 37 = .ok (.iconst 1, 1) := by decide +kernel
theorem dL_law_38 : decode cL_law 38 = .ok (.aload_n 0, 1) := by decide +kernel
theorem dL_law_39 : decode cL_law 39 = .ok (.iconst 5, 1) := by decide +kernel
theorem dL_law_40 : decode cL_law 40 = .ok (.invokestatic 9, 3) := by decide +kernel
theorem dL_law_43 : decode cL_law 43 = .ok (.iconst 1, 1) := by decide +kernel
theorem dL_law_44 : decode cL_law 44 = .ok (.iand, 1) := by decide +kernel
theorem dL_law_45 : decode cL_law 45 = .ok (.iadd, 1) := by decide +kernel
theorem dL_law_46 : decode cL_law 46 = .ok (.istore 4, 2) := by decide +kernel
theorem dL_law_48 : decode cL_law 48 = .ok (.iconst 1, 1) := by decide +kernel
theorem dL_law_49 : decode cL_law 49 = .ok (.aload_n 0, 1) := by decide +kernel
theorem dL_law_50 : decode cL_law 50 = .ok (.bipush 6, 2) := by decide +kernel
theorem dL_law_52 : decode cL_law 52 = .ok (.invokestatic 9, 3) := by decide +kernel
theorem dL_law_55 : decode cL_law 55 = .ok (.iconst 4, 1) := by decide +kernel
theorem dL_law_56 : decode cL_law 56 = .ok (.invokestatic 15, 3) := by decide +kernel
theorem dL_law_59 : decode cL_law 59 = .ok (.iadd, 1) := by decide +kernel
theorem dL_law_60 : decode cL_law 60 = .ok (.istore 5, 2) := by decide +kernel
theorem dL_law_62 : decode cL_law 62 = .ok (.aload_n 1, 1) := by decide +kernel
theorem dL_law_63 : decode cL_law 63 = .ok (.iconst 0, 1) := by decide +kernel
theorem dL_law_64 : decode cL_law 64 = .ok (.aload_n 0, 1) := by decide +kernel
theorem dL_law_65 : decode cL_law 65 = .ok (.bipush 7, 2) := by decide +kernel
theorem dL_law_67 : decode cL_law 67 = .ok (.invokestatic 9, 3) := by decide +kernel
theorem dL_law_70 : decode cL_law 70 = .ok (.iconst 4, 1) := by decide +kernel
theorem dL_law_71 : decode cL_law 71 = .ok (.invokestatic 15, 3) := by decide +kernel
theorem dL_law_74 : decode cL_law 74 = .ok (.iload_n 3, 1) := by decide +kernel
theorem dL_law_75 : decode cL_law 75 = .ok (.iconst 1, 1) := by decide +kernel
theorem dL_law_76 : decode cL_law 76 = .ok (.if_icmp .le 16, 3) := by decide +kernel
theorem dL_law_79 : decode cL_law 79 = .ok (.aload_n 0, 1) := by decide +kernel
theorem dL_law_80 : decode cL_law 80 = .ok (.bipush 8, 2) := by decide +kernel
theorem dL_law_82 : decode cL_law 82 = .ok (.invokestatic 9, 3) := by decide +kernel
theorem dL_law_85 : decode cL_law 85 = .ok (.iconst 4, 1) := by decide +kernel
theorem dL_law_86 : decode cL_law 86 = .ok (.invokestatic 15, 3) := by decide +kernel
theorem dL_law_89 : decode cL_law 89 = .ok (.goto 4, 3) := by decide +kernel
theorem dL_law_92 : decode cL_law 92 = .ok (.iconst (-1), 1) := by decide +kernel
theorem dL_law_93 : decode cL_law 93 = .ok (.iconst (-1), 1) := by decide +kernel
theorem dL_law_94 : decode cL_law 94 = .ok (.invokevirtual 30, 3) := by decide +kernel
theorem dL_law_97 : decode cL_law 97 = .ok (.iload_n 3, 1) := by decide +kernel
theorem dL_law_98 : decode cL_law 98 = .ok (.if_icmp .ne 87, 3) := by decide +kernel
theorem dL_law_101 : decode cL_law 101 = .ok (.aload_n 1, 1) := by decide +kernel
theorem dL_law_102 : decode cL_law 102 = .ok (.iconst 1, 1) := by decide +kernel
theorem dL_law_103 : decode cL_law 103 = .ok (.aload_n 0, 1) := by decide +kernel
theorem dL_law_104 : decode cL_law 104 = .ok (.bipush 9, 2) := by decide +kernel
theorem dL_law_106 : decode cL_law 106 = .ok (.invokestatic 9, 3) := by decide +kernel
theorem dL_law_109 : decode cL_law 109 = .ok (.iconst 4, 1) := by decide +kernel
theorem dL_law_110 : decode cL_law 110 = .ok (.invokestatic 15, 3) := by decide +kernel
theorem dL_law_113 : decode cL_law 113 = .ok (.iload 4, 2) := by decide +kernel
theorem dL_law_115 : decode cL_law 115 = .ok (.iconst 1, 1) := by decide +kernel
theorem dL_law_116 : decode cL_law 116 = .ok (.if_icmp .le 16, 3) := by decide +kernel
theorem dL_law_119 : decode cL_law 119 = .ok (.aload_n 0, 1) := by decide +kernel
theorem dL_law_120 : decode cL_law 120 = .ok (.bipush 10, 2) := by decide +kernel
theorem dL_law_122 : decode cL_law 122 = .ok (.invokestatic 9, 3) := by decide +kernel
theorem dL_law_125 : decode cL_law 125 = .ok (.iconst 4, 1) := by decide +kernel
theorem dL_law_126 : decode cL_law 126 = .ok (.invokestatic 15, 3) := by decide +kernel
theorem dL_law_129 : decode cL_law 129 = .ok (.goto 4, 3) := by decide +kernel
theorem dL_law_132 : decode cL_law 132 = .ok (.iconst (-1), 1) := by decide +kernel
theorem dL_law_133 : decode cL_law 133 = .ok (.iconst (-1), 1) := by decide +kernel
theorem dL_law_134 : decode cL_law 134 = .ok (.invokevirtual 30, 3) := by decide +kernel
theorem dL_law_137 : decode cL_law 137 = .ok (.iload 4, 2) := by decide +kernel
theorem dL_law_139 : decode cL_law 139 = .ok (.if_icmp .ne 46, 3) := by decide +kernel
theorem dL_law_142 : decode cL_law 142 = .ok (.aload_n 1, 1) := by decide +kernel
theorem dL_law_143 : decode cL_law 143 = .ok (.iload 5, 2) := by decide +kernel
theorem dL_law_145 : decode cL_law 145 = .ok (.aload_n 0, 1) := by decide +kernel
theorem dL_law_146 : decode cL_law 146 = .ok (.bipush 11, 2) := by decide +kernel
theorem dL_law_148 : decode cL_law 148 = .ok (.invokestatic 9, 3) := by decide +kernel
theorem dL_law_151 : decode cL_law 151 = .ok (.iconst 1, 1) := by decide +kernel
theorem dL_law_152 : decode cL_law 152 = .ok (.iand, 1) := by decide +kernel
theorem dL_law_153 : decode cL_law 153 = .ok (.aload_n 0, 1) := by decide +kernel
theorem dL_law_154 : decode cL_law 154 = .ok (.bipush 12, 2) := by decide +kernel
theorem dL_law_156 : decode cL_law 156 = .ok (.invokestatic 9, 3) := by decide +kernel
theorem dL_law_159 : decode cL_law 159 = .ok (.iconst 3, 1) := by decide +kernel
theorem dL_law_160 : decode cL_law 160 = .ok (.invokestatic 15, 3) := by decide +kernel
theorem dL_law_163 : decode cL_law 163 = .ok (.iconst 1, 1) := by decide +kernel
theorem dL_law_164 : decode cL_law 164 = .ok (.isub, 1) := by decide +kernel
theorem dL_law_165 : decode cL_law 165 = .ok (.invokevirtual 34, 3) := by decide +kernel
theorem dL_law_168 : decode cL_law 168 = .ok (.iconst 1, 1) := by decide +kernel
theorem dL_law_169 : decode cL_law 169 = .ok (.if_icmp .ne 16, 3) := by decide +kernel
theorem dL_law_172 : decode cL_law 172 = .ok (.aload_n 1, 1) := by decide +kernel
theorem dL_law_173 : decode cL_law 173 = .ok (.iconst 0, 1) := by decide +kernel
theorem dL_law_174 : decode cL_law 174 = .ok (.iconst 1, 1) := by decide +kernel
theorem dL_law_175 : decode cL_law 175 = .ok (.bipush 24, 2) := by decide +kernel
theorem dL_law_177 : decode cL_law 177 = .ok (.invokevirtual 38, 3) := by decide +kernel
theorem dL_law_180 : decode cL_law 180 = .ok (.bipush 24, 2) := by decide +kernel
theorem dL_law_182 : decode cL_law 182 = .ok (.if_icmp .eq 5, 3) := by decide +kernel
theorem dL_law_185 : decode cL_law 185 = .ok (.iconst 0, 1) := by decide +kernel
theorem dL_law_186 : decode cL_law 186 = .ok (.ireturn, 1) := by decide +kernel
theorem dL_law_187 : decode cL_law 187 = .ok (.aload_n 1, 1) := by decide +kernel
theorem dL_law_188 : decode cL_law 188 = .ok (.invokevirtual 41, 3) := by decide +kernel
theorem dL_law_191 : decode cL_law 191 = .ok (.bipush (-5), 2) := by decide +kernel
theorem dL_law_193 : decode cL_law 193 = .ok (.if_icmp .ne 30, 3) := by decide +kernel
theorem dL_law_196 : decode cL_law 196 = .ok (.aload_n 1, 1) := by decide +kernel
theorem dL_law_197 : decode cL_law 197 = .ok (.invokevirtual 45, 3) := by decide +kernel
theorem dL_law_200 : decode cL_law 200 = .ok (.bipush 22, 2) := by decide +kernel
theorem dL_law_202 : decode cL_law 202 = .ok (.if_icmp .gt 19, 3) := by decide +kernel
theorem dL_law_205 : decode cL_law 205 = .ok (.aload_n 1, 1) := by decide +kernel
theorem dL_law_206 : decode cL_law 206 = .ok (.iconst 0, 1) := by decide +kernel
theorem dL_law_207 : decode cL_law 207 = .ok (.invokevirtual 48, 3) := by decide +kernel
theorem dL_law_210 : decode cL_law 210 = .ok (.ldc2_w 52, 3) := by decide +kernel
theorem dL_law_213 : decode cL_law 213 = .ok (.lcmp, 1) := by decide +kernel
theorem dL_law_214 : decode cL_law 214 = .ok (.ifCond .ne 7, 3) := by decide +kernel
theorem dL_law_217 : decode cL_law 217 = .ok (.iconst 1, 1) := by decide +kernel
theorem dL_law_218 : decode cL_law 218 = .ok (.goto 4, 3) := by decide +kernel
theorem dL_law_221 : decode cL_law 221 = .ok (.iconst 0, 1) := by decide +kernel
theorem dL_law_222 : decode cL_law 222 = .ok (.ireturn, 1) := by decide +kernel
theorem dL_law_223 : decode cL_law 223 = .ok (.aload_n 1, 1) := by decide +kernel
theorem dL_law_224 : decode cL_law 224 = .ok (.iconst 0, 1) := by decide +kernel
theorem dL_law_225 : decode cL_law 225 = .ok (.invokevirtual 48, 3) := by decide +kernel
theorem dL_law_228 : decode cL_law 228 = .ok (.lstore 6, 2) := by decide +kernel
theorem dL_law_230 : decode cL_law 230 = .ok (.aload_n 1, 1) := by decide +kernel
theorem dL_law_231 : decode cL_law 231 = .ok (.iconst 1, 1) := by decide +kernel
theorem dL_law_232 : decode cL_law 232 = .ok (.invokevirtual 48, 3) := by decide +kernel
theorem dL_law_235 : decode cL_law 235 = .ok (.lstore 8, 2) := by decide +kernel
theorem dL_law_237 : decode cL_law 237 = .ok (.aload_n 1, 1) := by decide +kernel
theorem dL_law_238 : decode cL_law 238 = .ok (.iconst 2, 1) := by decide +kernel
theorem dL_law_239 : decode cL_law 239 = .ok (.invokevirtual 48, 3) := by decide +kernel
theorem dL_law_242 : decode cL_law 242 = .ok (.lstore 10, 2) := by decide +kernel
theorem dL_law_244 : decode cL_law 244 = .ok (.lload 6, 2) := by decide +kernel
theorem dL_law_246 : decode cL_law 246 = .ok (.lconst 0, 1) := by decide +kernel
theorem dL_law_247 : decode cL_law 247 = .ok (.lcmp, 1) := by decide +kernel
theorem dL_law_248 : decode cL_law 248 = .ok (.ifCond .lt 33, 3) := by decide +kernel
theorem dL_law_251 : decode cL_law 251 = .ok (.lload 8, 2) := by decide +kernel
theorem dL_law_253 : decode cL_law 253 = .ok (.lconst 0, 1) := by decide +kernel
theorem dL_law_254 : decode cL_law 254 = .ok (.lcmp, 1) := by decide +kernel
theorem dL_law_255 : decode cL_law 255 = .ok (.ifCond .lt 26, 3) := by decide +kernel
theorem dL_law_258 : decode cL_law 258 = .ok (.lload 10, 2) := by decide +kernel
theorem dL_law_260 : decode cL_law 260 = .ok (.lconst 0, 1) := by decide +kernel
theorem dL_law_261 : decode cL_law 261 = .ok (.lcmp, 1) := by decide +kernel
theorem dL_law_262 : decode cL_law 262 = .ok (.ifCond .lt 19, 3) := by decide +kernel
theorem dL_law_265 : decode cL_law 265 = .ok (.lload 6, 2) := by decide +kernel
theorem dL_law_267 : decode cL_law 267 = .ok (.lload 8, 2) := by decide +kernel
theorem dL_law_269 : decode cL_law 269 = .ok (.ladd, 1) := by decide +kernel
theorem dL_law_270 : decode cL_law 270 = .ok (.lload 10, 2) := by decide +kernel
theorem dL_law_272 : decode cL_law 272 = .ok (.ladd, 1) := by decide +kernel
theorem dL_law_273 : decode cL_law 273 = .ok (.aload_n 1, 1) := by decide +kernel
theorem dL_law_274 : decode cL_law 274 = .ok (.invokevirtual 54, 3) := by decide +kernel
theorem dL_law_277 : decode cL_law 277 = .ok (.lcmp, 1) := by decide +kernel
theorem dL_law_278 : decode cL_law 278 = .ok (.ifCond .eq 5, 3) := by decide +kernel
theorem dL_law_281 : decode cL_law 281 = .ok (.iconst 0, 1) := by decide +kernel
theorem dL_law_282 : decode cL_law 282 = .ok (.ireturn, 1) := by decide +kernel
theorem dL_law_283 : decode cL_law 283 = .ok (.iconst 3, 1) := by decide +kernel
theorem dL_law_284 : decode cL_law 284 = .ok (.newarray .int, 2) := by decide +kernel
theorem dL_law_286 : decode cL_law 286 = .ok (.astore 12, 2) := by decide +kernel
theorem dL_law_288 : decode cL_law 288 = .ok (.iconst 0, 1) := by decide +kernel
theorem dL_law_289 : decode cL_law 289 = .ok (.istore 13, 2) := by decide +kernel
theorem dL_law_291 : decode cL_law 291 = .ok (.iload 13, 2) := by decide +kernel
theorem dL_law_293 : decode cL_law 293 = .ok (.iconst 5, 1) := by decide +kernel
theorem dL_law_294 : decode cL_law 294 = .ok (.if_icmp .ge 308, 3) := by decide +kernel
theorem dL_law_297 : decode cL_law 297 = .ok (.aload_n 1, 1) := by decide +kernel
theorem dL_law_298 : decode cL_law 298 = .ok (.iconst 0, 1) := by decide +kernel
theorem dL_law_299 : decode cL_law 299 = .ok (.aload_n 0, 1) := by decide +kernel
theorem dL_law_300 : decode cL_law 300 = .ok (.bipush 20, 2) := by decide +kernel
theorem dL_law_302 : decode cL_law 302 = .ok (.iload 13, 2) := by decide +kernel
theorem dL_law_304 : decode cL_law 304 = .ok (.iadd, 1) := by decide +kernel
theorem dL_law_305 : decode cL_law 305 = .ok (.invokestatic 9, 3) := by decide +kernel
theorem dL_law_308 : decode cL_law 308 = .ok (.invokevirtual 58, 3) := by decide +kernel
theorem dL_law_311 : decode cL_law 311 = .ok (.bipush 24, 2) := by decide +kernel
theorem dL_law_313 : decode cL_law 313 = .ok (.if_icmp .eq 5, 3) := by decide +kernel
theorem dL_law_316 : decode cL_law 316 = .ok (.iconst 0, 1) := by decide +kernel
theorem dL_law_317 : decode cL_law 317 = .ok (.ireturn, 1) := by decide +kernel
theorem dL_law_318 : decode cL_law 318 = .ok (.iconst 0, 1) := by decide +kernel
theorem dL_law_319 : decode cL_law 319 = .ok (.istore 14, 2) := by decide +kernel
theorem dL_law_321 : decode cL_law 321 = .ok (.iload 14, 2) := by decide +kernel
theorem dL_law_323 : decode cL_law 323 = .ok (.bipush 24, 2) := by decide +kernel
theorem dL_law_325 : decode cL_law 325 = .ok (.if_icmp .ge 40, 3) := by decide +kernel
theorem dL_law_328 : decode cL_law 328 = .ok (.iload 13, 2) := by decide +kernel
theorem dL_law_330 : decode cL_law 330 = .ok (.iconst 2, 1) := by decide +kernel
theorem dL_law_331 : decode cL_law 331 = .ok (.if_icmp .ge 34, 3) := by decide +kernel
theorem dL_law_334 : decode cL_law 334 = .ok (.aload_n 1, 1) := by decide +kernel
theorem dL_law_335 : decode cL_law 335 = .ok (.iconst 0, 1) := by decide +kernel
theorem dL_law_336 : decode cL_law 336 = .ok (.iconst 1, 1) := by decide +kernel
theorem dL_law_337 : decode cL_law 337 = .ok (.iload 14, 2) := by decide +kernel
theorem dL_law_339 : decode cL_law 339 = .ok (.iload 13, 2) := by decide +kernel
theorem dL_law_341 : decode cL_law 341 = .ok (.ifCond .ne 7, 3) := by decide +kernel
theorem dL_law_344 : decode cL_law 344 = .ok (.iconst 1, 1) := by decide +kernel
theorem dL_law_345 : decode cL_law 345 = .ok (.goto 5, 3) := by decide +kernel
theorem dL_law_348 : decode cL_law 348 = .ok (.bipush 6, 2) := by decide +kernel
theorem dL_law_350 : decode cL_law 350 = .ok (.invokevirtual 61, 3) := by decide +kernel
theorem dL_law_353 : decode cL_law 353 = .ok (.iconst 1, 1) := by decide +kernel
theorem dL_law_354 : decode cL_law 354 = .ok (.if_icmp .eq 5, 3) := by decide +kernel
theorem dL_law_357 : decode cL_law 357 = .ok (.iconst 0, 1) := by decide +kernel
theorem dL_law_358 : decode cL_law 358 = .ok (.ireturn, 1) := by decide +kernel
theorem dL_law_359 : decode cL_law 359 = .ok (.iinc 14 1, 3) := by decide +kernel
theorem dL_law_362 : decode cL_law 362 = .ok (.goto (-41), 3) := by decide +kernel
theorem dL_law_365 : decode cL_law 365 = .ok (.aload_n 1, 1) := by decide +kernel
theorem dL_law_366 : decode cL_law 366 = .ok (.iconst 0, 1) := by decide +kernel
theorem dL_law_367 : decode cL_law 367 = .ok (.invokevirtual 64, 3) := by decide +kernel
theorem dL_law_370 : decode cL_law 370 = .ok (.istore 14, 2) := by decide +kernel
theorem dL_law_372 : decode cL_law 372 = .ok (.iload 14, 2) := by decide +kernel
theorem dL_law_374 : decode cL_law 374 = .ok (.ifCond .lt 50, 3) := by decide +kernel
theorem dL_law_377 : decode cL_law 377 = .ok (.iload 14, 2) := by decide +kernel
theorem dL_law_379 : decode cL_law 379 = .ok (.iconst 2, 1) := by decide +kernel
theorem dL_law_380 : decode cL_law 380 = .ok (.if_icmp .gt 44, 3) := by decide +kernel
theorem dL_law_383 : decode cL_law 383 = .ok (.aload_n 1, 1) := by decide +kernel
theorem dL_law_384 : decode cL_law 384 = .ok (.iconst 0, 1) := by decide +kernel
theorem dL_law_385 : decode cL_law 385 = .ok (.invokevirtual 68, 3) := by decide +kernel
theorem dL_law_388 : decode cL_law 388 = .ok (.iload 14, 2) := by decide +kernel
theorem dL_law_390 : decode cL_law 390 = .ok (.if_icmp .ne 34, 3) := by decide +kernel
theorem dL_law_393 : decode cL_law 393 = .ok (.aload_n 1, 1) := by decide +kernel
theorem dL_law_394 : decode cL_law 394 = .ok (.iconst 1, 1) := by decide +kernel
theorem dL_law_395 : decode cL_law 395 = .ok (.invokevirtual 68, 3) := by decide +kernel
theorem dL_law_398 : decode cL_law 398 = .ok (.aload_n 1, 1) := by decide +kernel
theorem dL_law_399 : decode cL_law 399 = .ok (.invokevirtual 45, 3) := by decide +kernel
theorem dL_law_402 : decode cL_law 402 = .ok (.if_icmp .gt 22, 3) := by decide +kernel
theorem dL_law_405 : decode cL_law 405 = .ok (.aload_n 1, 1) := by decide +kernel
theorem dL_law_406 : decode cL_law 406 = .ok (.iconst 2, 1) := by decide +kernel
theorem dL_law_407 : decode cL_law 407 = .ok (.invokevirtual 68, 3) := by decide +kernel
theorem dL_law_410 : decode cL_law 410 = .ok (.iconst 1, 1) := by decide +kernel
theorem dL_law_411 : decode cL_law 411 = .ok (.if_icmp .lt 13, 3) := by decide +kernel
theorem dL_law_414 : decode cL_law 414 = .ok (.aload_n 1, 1) := by decide +kernel
theorem dL_law_415 : decode cL_law 415 = .ok (.iconst 2, 1) := by decide +kernel
theorem dL_law_416 : decode cL_law 416 = .ok (.invokevirtual 68, 3) := by decide +kernel
theorem dL_law_419 : decode cL_law 419 = .ok (.iload 5, 2) := by decide +kernel
theorem dL_law_421 : decode cL_law 421 = .ok (.if_icmp .le 5, 3) := by decide +kernel
theorem dL_law_424 : decode cL_law 424 = .ok (.iconst 0, 1) := by decide +kernel
theorem dL_law_425 : decode cL_law 425 = .ok (.ireturn, 1) := by decide +kernel
theorem dL_law_426 : decode cL_law 426 = .ok (.aload 12, 2) := by decide +kernel
theorem dL_law_428 : decode cL_law 428 = .ok (.iload 14, 2) := by decide +kernel
theorem dL_law_430 : decode cL_law 430 = .ok (.dup2, 1) := by decide +kernel
theorem dL_law_431 : decode cL_law 431 = .ok (.iaload, 1) := by decide +kernel
theorem dL_law_432 : decode cL_law 432 = .ok (.iconst 1, 1) := by decide +kernel
theorem dL_law_433 : decode cL_law 433 = .ok (.iadd, 1) := by decide +kernel
theorem dL_law_434 : decode cL_law 434 = .ok (.iastore, 1) := by decide +kernel
theorem dL_law_435 : decode cL_law 435 = .ok (.iload 14, 2) := by decide +kernel
theorem dL_law_437 : decode cL_law 437 = .ok (.ifCond .ne 8, 3) := by decide +kernel
theorem dL_law_440 : decode cL_law 440 = .ok (.lload 6, 2) := by decide +kernel
theorem dL_law_442 : decode cL_law 442 = .ok (.goto 16, 3) := by decide +kernel
theorem dL_law_445 : decode cL_law 445 = .ok (.iload 14, 2) := by decide +kernel
theorem dL_law_447 : decode cL_law 447 = .ok (.iconst 1, 1) := by decide +kernel
theorem dL_law_448 : decode cL_law 448 = .ok (.if_icmp .ne 8, 3) := by decide +kernel
theorem dL_law_451 : decode cL_law 451 = .ok (.lload 8, 2) := by decide +kernel
theorem dL_law_453 : decode cL_law 453 = .ok (.goto 5, 3) := by decide +kernel
theorem dL_law_456 : decode cL_law 456 = .ok (.lload 10, 2) := by decide +kernel
theorem dL_law_458 : decode cL_law 458 = .ok (.lstore 15, 2) := by decide +kernel
theorem dL_law_460 : decode cL_law 460 = .ok (.lload 15, 2) := by decide +kernel
theorem dL_law_462 : decode cL_law 462 = .ok (.lconst 1, 1) := by decide +kernel
theorem dL_law_463 : decode cL_law 463 = .ok (.lcmp, 1) := by decide +kernel
theorem dL_law_464 : decode cL_law 464 = .ok (.ifCond .lt 23, 3) := by decide +kernel
theorem dL_law_467 : decode cL_law 467 = .ok (.iload 14, 2) := by decide +kernel
theorem dL_law_469 : decode cL_law 469 = .ok (.iconst 2, 1) := by decide +kernel
theorem dL_law_470 : decode cL_law 470 = .ok (.if_icmp .ge 19, 3) := by decide +kernel
theorem dL_law_473 : decode cL_law 473 = .ok (.aload_n 1, 1) := by decide +kernel
theorem dL_law_474 : decode cL_law 474 = .ok (.aload_n 1, 1) := by decide +kernel
theorem dL_law_475 : decode cL_law 475 = .ok (.iconst 2, 1) := by decide +kernel
theorem dL_law_476 : decode cL_law 476 = .ok (.invokevirtual 68, 3) := by decide +kernel
theorem dL_law_479 : decode cL_law 479 = .ok (.invokevirtual 71, 3) := by decide +kernel
theorem dL_law_482 : decode cL_law 482 = .ok (.lconst 1, 1) := by decide +kernel
theorem dL_law_483 : decode cL_law 483 = .ok (.lcmp, 1) := by decide +kernel
theorem dL_law_484 : decode cL_law 484 = .ok (.ifCond .ge 5, 3) := by decide +kernel
theorem dL_law_487 : decode cL_law 487 = .ok (.iconst 0, 1) := by decide +kernel
theorem dL_law_488 : decode cL_law 488 = .ok (.ireturn, 1) := by decide +kernel
theorem dL_law_489 : decode cL_law 489 = .ok (.iconst 0, 1) := by decide +kernel
theorem dL_law_490 : decode cL_law 490 = .ok (.istore 17, 2) := by decide +kernel
theorem dL_law_492 : decode cL_law 492 = .ok (.iload 17, 2) := by decide +kernel
theorem dL_law_494 : decode cL_law 494 = .ok (.iconst 2, 1) := by decide +kernel
theorem dL_law_495 : decode cL_law 495 = .ok (.if_icmp .ge 101, 3) := by decide +kernel
theorem dL_law_498 : decode cL_law 498 = .ok (.iconst 0, 1) := by decide +kernel
theorem dL_law_499 : decode cL_law 499 = .ok (.istore 18, 2) := by decide +kernel
theorem dL_law_501 : decode cL_law 501 = .ok (.iload 18, 2) := by decide +kernel
theorem dL_law_503 : decode cL_law 503 = .ok (.iconst 1, 1) := by decide +kernel
theorem dL_law_504 : decode cL_law 504 = .ok (.if_icmp .ge 86, 3) := by decide +kernel
theorem dL_law_507 : decode cL_law 507 = .ok (.iload 13, 2) := by decide +kernel
theorem dL_law_509 : decode cL_law 509 = .ok (.iconst 1, 1) := by decide +kernel
theorem dL_law_510 : decode cL_law 510 = .ok (.if_icmp .le 80, 3) := by decide +kernel
theorem dL_law_513 : decode cL_law 513 = .ok (.aload_n 1, 1) := by decide +kernel
theorem dL_law_514 : decode cL_law 514 = .ok (.bipush 10, 2) := by decide +kernel
theorem dL_law_516 : decode cL_law 516 = .ok (.iconst 3, 1) := by decide +kernel
theorem dL_law_517 : decode cL_law 517 = .ok (.iload 17, 2) := by decide +kernel
theorem dL_law_519 : decode cL_law 519 = .ok (.imul, 1) := by decide +kernel
theorem dL_law_520 : decode cL_law 520 = .ok (.iadd, 1) := by decide +kernel
theorem dL_law_521 : decode cL_law 521 = .ok (.iload 18, 2) := by decide +kernel
theorem dL_law_523 : decode cL_law 523 = .ok (.iadd, 1) := by decide +kernel
theorem dL_law_524 : decode cL_law 524 = .ok (.invokevirtual 68, 3) := by decide +kernel
theorem dL_law_527 : decode cL_law 527 = .ok (.istore 19, 2) := by decide +kernel
theorem dL_law_529 : decode cL_law 529 = .ok (.iload 19, 2) := by decide +kernel
theorem dL_law_531 : decode cL_law 531 = .ok (.ifCond .lt 51, 3) := by decide +kernel
theorem dL_law_534 : decode cL_law 534 = .ok (.aload_n 1, 1) := by decide +kernel
theorem dL_law_535 : decode cL_law 535 = .ok (.iload 17, 2) := by decide +kernel
theorem dL_law_537 : decode cL_law 537 = .ok (.iload 18, 2) := by decide +kernel
theorem dL_law_539 : decode cL_law 539 = .ok (.iload 19, 2) := by decide +kernel
theorem dL_law_541 : decode cL_law 541 = .ok (.iconst 0, 1) := by decide +kernel
theorem dL_law_542 : decode cL_law 542 = .ok (.invokevirtual 74, 3) := by decide +kernel
theorem dL_law_545 : decode cL_law 545 = .ok (.aload_n 1, 1) := by decide +kernel
theorem dL_law_546 : decode cL_law 546 = .ok (.iload 17, 2) := by decide +kernel
theorem dL_law_548 : decode cL_law 548 = .ok (.iload 18, 2) := by decide +kernel
theorem dL_law_550 : decode cL_law 550 = .ok (.iload 19, 2) := by decide +kernel
theorem dL_law_552 : decode cL_law 552 = .ok (.iconst 1, 1) := by decide +kernel
theorem dL_law_553 : decode cL_law 553 = .ok (.invokevirtual 74, 3) := by decide +kernel
theorem dL_law_556 : decode cL_law 556 = .ok (.ladd, 1) := by decide +kernel
theorem dL_law_557 : decode cL_law 557 = .ok (.lconst 1, 1) := by decide +kernel
theorem dL_law_558 : decode cL_law 558 = .ok (.lcmp, 1) := by decide +kernel
theorem dL_law_559 : decode cL_law 559 = .ok (.ifCond .lt 23, 3) := by decide +kernel
theorem dL_law_562 : decode cL_law 562 = .ok (.iload 19, 2) := by decide +kernel
theorem dL_law_564 : decode cL_law 564 = .ok (.ifCond .ne 20, 3) := by decide +kernel
theorem dL_law_567 : decode cL_law 567 = .ok (.aload_n 1, 1) := by decide +kernel
theorem dL_law_568 : decode cL_law 568 = .ok (.iload 17, 2) := by decide +kernel
theorem dL_law_570 : decode cL_law 570 = .ok (.iload 18, 2) := by decide +kernel
theorem dL_law_572 : decode cL_law 572 = .ok (.iconst 0, 1) := by decide +kernel
theorem dL_law_573 : decode cL_law 573 = .ok (.iconst 0, 1) := by decide +kernel
theorem dL_law_574 : decode cL_law 574 = .ok (.invokevirtual 74, 3) := by decide +kernel
theorem dL_law_577 : decode cL_law 577 = .ok (.lconst 1, 1) := by decide +kernel
theorem dL_law_578 : decode cL_law 578 = .ok (.lcmp, 1) := by decide +kernel
theorem dL_law_579 : decode cL_law 579 = .ok (.ifCond .ge 5, 3) := by decide +kernel
theorem dL_law_582 : decode cL_law 582 = .ok (.iconst 0, 1) := by decide +kernel
theorem dL_law_583 : decode cL_law 583 = .ok (.ireturn, 1) := by decide +kernel
theorem dL_law_584 : decode cL_law 584 = .ok (.iinc 18 1, 3) := by decide +kernel
theorem dL_law_587 : decode cL_law 587 = .ok (.goto (-86), 3) := by decide +kernel
theorem dL_law_590 : decode cL_law 590 = .ok (.iinc 17 1, 3) := by decide +kernel
theorem dL_law_593 : decode cL_law 593 = .ok (.goto (-101), 3) := by decide +kernel
theorem dL_law_596 : decode cL_law 596 = .ok (.iinc 13 1, 3) := by decide +kernel
theorem dL_law_599 : decode cL_law 599 = .ok (.goto (-308), 3) := by decide +kernel
theorem dL_law_602 : decode cL_law 602 = .ok (.lload 6, 2) := by decide +kernel
theorem dL_law_604 : decode cL_law 604 = .ok (.aload_n 1, 1) := by decide +kernel
theorem dL_law_605 : decode cL_law 605 = .ok (.invokevirtual 54, 3) := by decide +kernel
theorem dL_law_608 : decode cL_law 608 = .ok (.lcmp, 1) := by decide +kernel
theorem dL_law_609 : decode cL_law 609 = .ok (.ifCond .ne 11, 3) := by decide +kernel
theorem dL_law_612 : decode cL_law 612 = .ok (.aload 12, 2) := by decide +kernel
theorem dL_law_614 : decode cL_law 614 = .ok (.iconst 0, 1) := by decide +kernel
theorem dL_law_615 : decode cL_law 615 = .ok (.iaload, 1) := by decide +kernel
theorem dL_law_616 : decode cL_law 616 = .ok (.iconst 5, 1) := by decide +kernel
theorem dL_law_617 : decode cL_law 617 = .ok (.if_icmp .ne 43, 3) := by decide +kernel
theorem dL_law_620 : decode cL_law 620 = .ok (.lload 8, 2) := by decide +kernel
theorem dL_law_622 : decode cL_law 622 = .ok (.aload_n 1, 1) := by decide +kernel
theorem dL_law_623 : decode cL_law 623 = .ok (.invokevirtual 54, 3) := by decide +kernel
theorem dL_law_626 : decode cL_law 626 = .ok (.lcmp, 1) := by decide +kernel
theorem dL_law_627 : decode cL_law 627 = .ok (.ifCond .ne 11, 3) := by decide +kernel
theorem dL_law_630 : decode cL_law 630 = .ok (.aload 12, 2) := by decide +kernel
theorem dL_law_632 : decode cL_law 632 = .ok (.iconst 1, 1) := by decide +kernel
theorem dL_law_633 : decode cL_law 633 = .ok (.iaload, 1) := by decide +kernel
theorem dL_law_634 : decode cL_law 634 = .ok (.iconst 5, 1) := by decide +kernel
theorem dL_law_635 : decode cL_law 635 = .ok (.if_icmp .ne 25, 3) := by decide +kernel
theorem dL_law_638 : decode cL_law 638 = .ok (.lload 10, 2) := by decide +kernel
theorem dL_law_640 : decode cL_law 640 = .ok (.aload_n 1, 1) := by decide +kernel
theorem dL_law_641 : decode cL_law 641 = .ok (.invokevirtual 54, 3) := by decide +kernel
theorem dL_law_644 : decode cL_law 644 = .ok (.lcmp, 1) := by decide +kernel
theorem dL_law_645 : decode cL_law 645 = .ok (.ifCond .ne 11, 3) := by decide +kernel
theorem dL_law_648 : decode cL_law 648 = .ok (.aload 12, 2) := by decide +kernel
theorem dL_law_650 : decode cL_law 650 = .ok (.iconst 2, 1) := by decide +kernel
theorem dL_law_651 : decode cL_law 651 = .ok (.iaload, 1) := by decide +kernel
theorem dL_law_652 : decode cL_law 652 = .ok (.iconst 5, 1) := by decide +kernel
theorem dL_law_653 : decode cL_law 653 = .ok (.if_icmp .ne 7, 3) := by decide +kernel
theorem dL_law_656 : decode cL_law 656 = .ok (.iconst 1, 1) := by decide +kernel
theorem dL_law_657 : decode cL_law 657 = .ok (.goto 4, 3) := by decide +kernel
theorem dL_law_660 : decode cL_law 660 = .ok (.iconst 0, 1) := by decide +kernel
theorem dL_law_661 : decode cL_law 661 = .ok (.ireturn, 1) := by decide +kernel
