theorem dX8_wish_98 : decode cX8_wish 98 = .ok (.goto (-44), 3) := by decide +kernel
theorem dX8_wish_101 : decode cX8_wish 101 = .ok (.aload_n 0, 1) := by decide +kernel
theorem dX8_wish_102 : decode cX8_wish 102 = .ok (.getfield 70, 3) := by decide +kernel
theorem dX8_wish_105 : decode cX8_wish 105 = .ok (.ireturn, 1) := by decide +kernel
theorem dX8_band_0 : decode cX8_band 0 = .ok (.iload_n 1, 1) := by decide +kernel
theorem dX8_band_1 : decode cX8_band 1 = .ok (.ifCond .lt 20, 3) := by decide +kernel
theorem dX8_band_4 : decode cX8_band 4 = .ok (.iload_n 1, 1) := by decide +kernel
theorem dX8_band_5 : decode cX8_band 5 = .ok (.aload_n 0, 1) := by decide +kernel
theorem dX8_band_6 : decode cX8_band 6 = .ok (.getfield 70, 3) := by decide +kernel
theorem dX8_band_9 : decode cX8_band 9 = .ok (.if_icmp .ge 12, 3) := by decide +kernel
theorem dX8_band_12 : decode cX8_band 12 = .ok (.iload_n 1, 1) := by decide +kernel
theorem dX8_band_13 : decode cX8_band 13 = .ok (.aload_n 0, 1) := by decide +kernel
theorem dX8_band_14 : decode cX8_band 14 = .ok (.getfield 43, 3) := by decide +kernel
theorem dX8_band_17 : decode cX8_band 17 = .ok (.arraylength, 1) := by decide +kernel
theorem dX8_band_18 : decode cX8_band 18 = .ok (.if_icmp .lt 8, 3) := by decide +kernel
theorem dX8_band_21 : decode cX8_band 21 = .ok (.bipush (-2), 2) := by decide +kernel
theorem dX8_band_23 : decode cX8_band 23 = .ok (.goto 9, 3) := by decide +kernel
theorem dX8_band_26 : decode cX8_band 26 = .ok (.aload_n 0, 1) := by decide +kernel
theorem dX8_band_27 : decode cX8_band 27 = .ok (.getfield 43, 3) := by decide +kernel
theorem dX8_band_30 : decode cX8_band 30 = .ok (.iload_n 1, 1) := by decide +kernel
theorem dX8_band_31 : decode cX8_band 31 = .ok (.iaload, 1) := by decide +kernel
theorem dX8_band_32 : decode cX8_band 32 = .ok (.ireturn, 1) := by decide +kernel
theorem dX8_play_0 : decode cX8_play 0 = .ok (.iload_n 1, 1) := by decide +kernel
theorem dX8_play_1 : decode cX8_play 1 = .ok (.invokestatic 204, 3) := by decide +kernel
theorem dX8_play_4 : decode cX8_play 4 = .ok (.ifCond .ne 6, 3) := by decide +kernel
theorem dX8_play_7 : decode cX8_play 7 = .ok (.bipush (-2), 2) := by decide +kernel
theorem dX8_play_9 : decode cX8_play 9 = .ok (.ireturn, 1) := by decide +kernel
theorem dX8_play_10 : decode cX8_play 10 = .ok (.aload_n 0, 1) := by decide +kernel
theorem dX8_play_11 : decode cX8_play 11 = .ok (.getfield 56, 3) := by decide +kernel
theorem dX8_play_14 : decode cX8_play 14 = .ok (.iload_n 1, 1) := by decide +kernel
theorem dX8_play_15 : decode cX8_play 15 = .ok (.aaload, 1) := by decide +kernel
theorem dX8_play_16 : decode cX8_play 16 = .ok (.getfield 207, 3) := by decide +kernel
theorem dX8_play_19 : decode cX8_play 19 = .ok (.ifCond .eq 9, 3) := by decide +kernel
theorem dX8_play_22 : decode cX8_play 22 = .ok (.aload_n 0, 1) := by decide +kernel
theorem dX8_play_23 : decode cX8_play 23 = .ok (.iconst 1, 1) := by decide +kernel
theorem dX8_play_24 : decode cX8_play 24 = .ok (.invokevirtual 211, 3) := by decide +kernel
theorem dX8_play_27 : decode cX8_play 27 = .ok (.ireturn, 1) := by decide +kernel
theorem dX8_play_28 : decode cX8_play 28 = .ok (.aload_n 0, 1) := by decide +kernel
theorem dX8_play_29 : decode cX8_play 29 = .ok (.invokevirtual 214, 3) := by decide +kernel
theorem dX8_play_32 : decode cX8_play 32 = .ok (.aload_n 0, 1) := by decide +kernel
theorem dX8_play_33 : decode cX8_play 33 = .ok (.getfield 50, 3) := by decide +kernel
theorem dX8_play_36 : decode cX8_play 36 = .ok (.aload_n 0, 1) := by decide +kernel
theorem dX8_play_37 : decode cX8_play 37 = .ok (.getfield 25, 3) := by decide +kernel
theorem dX8_play_40 : decode cX8_play 40 = .ok (.aload_n 0, 1) := by decide +kernel
theorem dX8_play_41 : decode cX8_play 41 = .ok (.getfield 56, 3) := by decide +kernel
theorem dX8_play_44 : decode cX8_play 44 = .ok (.iload_n 1, 1) := by decide +kernel
theorem dX8_play_45 : decode cX8_play 45 = .ok (.aaload, 1) := by decide +kernel
theorem dX8_play_46 : decode cX8_play 46 = .ok (.invokevirtual 217, 3) := by decide +kernel
theorem dX8_play_49 : decode cX8_play 49 = .ok (.ifCond .eq 13, 3) := by decide +kernel
theorem dX8_play_52 : decode cX8_play 52 = .ok (.aload_n 0, 1) := by decide +kernel
theorem dX8_play_53 : decode cX8_play 53 = .ok (.getfield 50, 3) := by decide +kernel
theorem dX8_play_56 : decode cX8_play 56 = .ok (.getfield 221, 3) := by decide +kernel
theorem dX8_play_59 : decode cX8_play 59 = .ok (.goto 8, 3) := by decide +kernel
theorem dX8_play_62 : decode cX8_play 62 = .ok (.aload_n 0, 1) := by decide +kernel
theorem dX8_play_63 : decode cX8_play 63 = .ok (.iconst 2, 1) := by decide +kernel
theorem dX8_play_64 : decode cX8_play 64 = .ok (.invokevirtual 211, 3) := by decide +kernel
theorem dX8_play_67 : decode cX8_play 67 = .ok (.ireturn, 1) := by decide +kernel
theorem dX8_played_0 : decode cX8_played 0 = .ok (.iload_n 1, 1) := by decide +kernel
theorem dX8_played_1 : decode cX8_played 1 = .ok (.tableswitch 51 0 2 #[27, 35, 43], 27) := by decide +kernel
theorem dX8_played_28 : decode cX8_played 28 = .ok (.aload_n 0, 1) := by decide +kernel
theorem dX8_played_29 : decode cX8_played 29 = .ok (.getfield 50, 3) := by decide +kernel
theorem dX8_played_32 : decode cX8_played 32 = .ok (.getfield 221, 3) := by decide +kernel
theorem dX8_played_35 : decode cX8_played 35 = .ok (.ireturn, 1) := by decide +kernel
theorem dX8_played_36 : decode cX8_played 36 = .ok (.aload_n 0, 1) := by decide +kernel
theorem dX8_played_37 : decode cX8_played 37 = .ok (.getfield 50, 3) := by decide +kernel
theorem dX8_played_40 : decode cX8_played 40 = .ok (.getfield 224, 3) := by decide +kernel
theorem dX8_played_43 : decode cX8_played 43 = .ok (.ireturn, 1) := by decide +kernel
theorem dX8_played_44 : decode cX8_played 44 = .ok (.aload_n 0, 1) := by decide +kernel
theorem dX8_played_45 : decode cX8_played 45 = .ok (.getfield 50, 3) := by decide +kernel
theorem dX8_played_48 : decode cX8_played 48 = .ok (.getfield 227, 3) := by decide +kernel
theorem dX8_played_51 : decode cX8_played 51 = .ok (.ireturn, 1) := by decide +kernel
theorem dX8_played_52 : decode cX8_played 52 = .ok (.iload_n 1, 1) := by decide +kernel
theorem dX8_played_53 : decode cX8_played 53 = .ok (.bipush 10, 2) := by decide +kernel
theorem dX8_played_55 : decode cX8_played 55 = .ok (.if_icmp .lt 9, 3) := by decide +kernel
theorem dX8_played_58 : decode cX8_played 58 = .ok (.iload_n 1, 1) := by decide +kernel
theorem dX8_played_59 : decode cX8_played 59 = .ok (.bipush 16, 2) := by decide +kernel
theorem dX8_played_61 : decode cX8_played 61 = .ok (.if_icmp .lt 8, 3) := by decide +kernel
theorem dX8_played_64 : decode cX8_played 64 = .ok (.bipush (-2), 2) := by decide +kernel
theorem dX8_played_66 : decode cX8_played 66 = .ok (.goto 15, 3) := by decide +kernel
theorem dX8_played_69 : decode cX8_played 69 = .ok (.aload_n 0, 1) := by decide +kernel
theorem dX8_played_70 : decode cX8_played 70 = .ok (.getfield 50, 3) := by decide +kernel
theorem dX8_played_73 : decode cX8_played 73 = .ok (.getfield 230, 3) := by decide +kernel
theorem dX8_played_76 : decode cX8_played 76 = .ok (.iload_n 1, 1) := by decide +kernel
theorem dX8_played_77 : decode cX8_played 77 = .ok (.bipush 10, 2) := by decide +kernel
theorem dX8_played_79 : decode cX8_played 79 = .ok (.isub, 1) := by decide +kernel
theorem dX8_played_80 : decode cX8_played 80 = .ok (.iaload, 1) := by decide +kernel
theorem dX8_played_81 : decode cX8_played 81 = .ok (.ireturn, 1) := by decide +kernel
theorem dX8_sheet_0 : decode cX8_sheet 0 = .ok (.iload_n 1, 1) := by decide +kernel
theorem dX8_sheet_1 : decode cX8_sheet 1 = .ok (.invokestatic 204, 3) := by decide +kernel
theorem dX8_sheet_4 : decode cX8_sheet 4 = .ok (.ifCond .eq 16, 3) := by decide +kernel
theorem dX8_sheet_7 : decode cX8_sheet 7 = .ok (.iload_n 2, 1) := by decide +kernel
theorem dX8_sheet_8 : decode cX8_sheet 8 = .ok (.invokestatic 233, 3) := by decide +kernel
theorem dX8_sheet_11 : decode cX8_sheet 11 = .ok (.ifCond .eq 9, 3) := by decide +kernel
theorem dX8_sheet_14 : decode cX8_sheet 14 = .ok (.iload_n 3, 1) := by decide +kernel
theorem dX8_sheet_15 : decode cX8_sheet 15 = .ok (.bipush 60, 2) := by decide +kernel
theorem dX8_sheet_17 : decode cX8_sheet 17 = .ok (.if_icmp .le 6, 3) := by decide +kernel
theorem dX8_sheet_20 : decode cX8_sheet 20 = .ok (.bipush (-2), 2) := by decide +kernel
theorem dX8_sheet_22 : decode cX8_sheet 22 = .ok (.ireturn, 1) := by decide +kernel
theorem dX8_sheet_23 : decode cX8_sheet 23 = .ok (.iload_n 3, 1) := by decide +kernel
theorem dX8_sheet_24 : decode cX8_sheet 24 = .ok (.ifCond .ge 9, 3) := by decide +kernel
theorem dX8_sheet_27 : decode cX8_sheet 27 = .ok (.aload_n 0, 1) := by decide +kernel
theorem dX8_sheet_28 : decode cX8_sheet 28 = .ok (.iconst 5, 1) := by decide +kernel
theorem dX8_sheet_29 : decode cX8_sheet 29 = .ok (.invokevirtual 211, 3) := by decide +kernel
theorem dX8_sheet_32 : decode cX8_sheet 32 = .ok (.ireturn, 1) := by decide +kernel
theorem dX8_sheet_33 : decode cX8_sheet 33 = .ok (.aload_n 0, 1) := by decide +kernel
theorem dX8_sheet_34 : decode cX8_sheet 34 = .ok (.getfield 56, 3) := by decide +kernel
theorem dX8_sheet_37 : decode cX8_sheet 37 = .ok (.iload_n 1, 1) := by decide +kernel
theorem dX8_sheet_38 : decode cX8_sheet 38 = .ok (.aaload, 1) := by decide +kernel
theorem dX8_sheet_39 : decode cX8_sheet 39 = .ok (.iload_n 2, 1) := by decide +kernel
theorem dX8_sheet_40 : decode cX8_sheet 40 = .ok (.iload_n 3, 1) := by decide +kernel
theorem dX8_sheet_41 : decode cX8_sheet 41 = .ok (.invokevirtual 236, 3) := by decide +kernel
theorem dX8_sheet_44 : decode cX8_sheet 44 = .ok (.iload_n 3, 1) := by decide +kernel
theorem dX8_sheet_45 : decode cX8_sheet 45 = .ok (.ireturn, 1) := by decide +kernel
theorem dX8_lose_0 : decode cX8_lose 0 = .ok (.iload_n 1, 1) := by decide +kernel
theorem dX8_lose_1 : decode cX8_lose 1 = .ok (.invokestatic 204, 3) := by decide +kernel
theorem dX8_lose_4 : decode cX8_lose 4 = .ok (.ifCond .ne 6, 3) := by decide +kernel
theorem dX8_lose_7 : decode cX8_lose 7 = .ok (.bipush (-2), 2) := by decide +kernel
theorem dX8_lose_9 : decode cX8_lose 9 = .ok (.ireturn, 1) := by decide +kernel
theorem dX8_lose_10 : decode cX8_lose 10 = .ok (.aload_n 0, 1) := by decide +kernel
theorem dX8_lose_11 : decode cX8_lose 11 = .ok (.getfield 56, 3) := by decide +kernel
theorem dX8_lose_14 : decode cX8_lose 14 = .ok (.iload_n 1, 1) := by decide +kernel
theorem dX8_lose_15 : decode cX8_lose 15 = .ok (.aaload, 1) := by decide +kernel
theorem dX8_lose_16 : decode cX8_lose 16 = .ok (.getfield 207, 3) := by decide +kernel
theorem dX8_lose_19 : decode cX8_lose 19 = .ok (.ifCond .eq 9, 3) := by decide +kernel
theorem dX8_lose_22 : decode cX8_lose 22 = .ok (.aload_n 0, 1) := by decide +kernel
theorem dX8_lose_23 : decode cX8_lose 23 = .ok (.iconst 1, 1) := by decide +kernel
theorem dX8_lose_24 : decode cX8_lose 24 = .ok (.invokevirtual 211, 3) := by decide +kernel
theorem dX8_lose_27 : decode cX8_lose 27 = .ok (.ireturn, 1) := by decide +kernel
theorem dX8_lose_28 : decode cX8_lose 28 = .ok (.aload_n 0, 1) := by decide +kernel
theorem dX8_lose_29 : decode cX8_lose 29 = .ok (.getfield 56, 3) := by decide +kernel
theorem dX8_lose_32 : decode cX8_lose 32 = .ok (.iload_n 1, 1) := by decide +kernel
theorem dX8_lose_33 : decode cX8_lose 33 = .ok (.aaload, 1) := by decide +kernel
theorem dX8_lose_34 : decode cX8_lose 34 = .ok (.iconst 1, 1) := by decide +kernel
theorem dX8_lose_35 : decode cX8_lose 35 = .ok (.putfield 207, 3) := by decide +kernel
theorem dX8_lose_38 : decode cX8_lose 38 = .ok (.aload_n 0, 1) := by decide +kernel
theorem dX8_lose_39 : decode cX8_lose 39 = .ok (.getfield 56, 3) := by decide +kernel
theorem dX8_lose_42 : decode cX8_lose 42 = .ok (.iload_n 1, 1) := by decide +kernel
theorem dX8_lose_43 : decode cX8_lose 43 = .ok (.aaload, 1) := by decide +kernel
theorem dX8_lose_44 : decode cX8_lose 44 = .ok (.getfield 239, 3) := by decide +kernel
theorem dX8_lose_47 : decode cX8_lose 47 = .ok (.ireturn, 1) := by decide +kernel
theorem dX8_put_0 : decode cX8_put 0 = .ok (.iload_n 1, 1) := by decide +kernel
theorem dX8_put_1 : decode cX8_put 1 = .ok (.invokestatic 204, 3) := by decide +kernel
theorem dX8_put_4 : decode cX8_put 4 = .ok (.ifCond .eq 10, 3) := by decide +kernel
theorem dX8_put_7 : decode cX8_put 7 = .ok (.iload_n 2, 1) := by decide +kernel
theorem dX8_put_8 : decode cX8_put 8 = .ok (.invokestatic 233, 3) := by decide +kernel
theorem dX8_put_11 : decode cX8_put 11 = .ok (.ifCond .ne 6, 3) := by decide +kernel
theorem dX8_put_14 : decode cX8_put 14 = .ok (.bipush (-2), 2) := by decide +kernel
theorem dX8_put_16 : decode cX8_put 16 = .ok (.ireturn, 1) := by decide +kernel
theorem dX8_put_17 : decode cX8_put 17 = .ok (.aload_n 0, 1) := by decide +kernel
theorem dX8_put_18 : decode cX8_put 18 = .ok (.getfield 56, 3) := by decide +kernel
theorem dX8_put_21 : decode cX8_put 21 = .ok (.iload_n 1, 1) := by decide +kernel
theorem dX8_put_22 : decode cX8_put 22 = .ok (.aaload, 1) := by decide +kernel
theorem dX8_put_23 : decode cX8_put 23 = .ok (.iload_n 2, 1) := by decide +kernel
theorem dX8_put_24 : decode cX8_put 24 = .ok (.iload_n 3, 1) := by decide +kernel
theorem dX8_put_25 : decode cX8_put 25 = .ok (.invokestatic 240, 3) := by decide +kernel
theorem dX8_put_28 : decode cX8_put 28 = .ok (.istore 5, 2) := by decide +kernel
theorem dX8_put_30 : decode cX8_put 30 = .ok (.iload 5, 2) := by decide +kernel
theorem dX8_put_32 : decode cX8_put 32 = .ok (.ifCond .eq 10, 3) := by decide +kernel
theorem dX8_put_35 : decode cX8_put 35 = .ok (.aload_n 0, 1) := by decide +kernel
theorem dX8_put_36 : decode cX8_put 36 = .ok (.iload 5, 2) := by decide +kernel
theorem dX8_put_38 : decode cX8_put 38 = .ok (.invokevirtual 211, 3) := by decide +kernel
theorem dX8_put_41 : decode cX8_put 41 = .ok (.ireturn, 1) := by decide +kernel
theorem dX8_put_42 : decode cX8_put 42 = .ok (.aload_n 0, 1) := by decide +kernel
theorem dX8_put_43 : decode cX8_put 43 = .ok (.getfield 56, 3) := by decide +kernel
theorem dX8_put_46 : decode cX8_put 46 = .ok (.iload_n 1, 1) := by decide +kernel
theorem dX8_put_47 : decode cX8_put 47 = .ok (.aaload, 1) := by decide +kernel
theorem dX8_put_48 : decode cX8_put 48 = .ok (.iload_n 3, 1) := by decide +kernel
theorem dX8_put_49 : decode cX8_put 49 = .ok (.iload 4, 2) := by decide +kernel
theorem dX8_put_51 : decode cX8_put 51 = .ok (.invokevirtual 244, 3) := by decide +kernel
theorem dX8_put_54 : decode cX8_put 54 = .ok (.iconst 1, 1) := by decide +kernel
theorem dX8_put_55 : decode cX8_put 55 = .ok (.ireturn, 1) := by decide +kernel
theorem dX8_get_0 : decode cX8_get 0 = .ok (.iload_n 1, 1) := by decide +kernel
theorem dX8_get_1 : decode cX8_get 1 = .ok (.invokestatic 204, 3) := by decide +kernel
theorem dX8_get_4 : decode cX8_get 4 = .ok (.ifCond .eq 10, 3) := by decide +kernel
theorem dX8_get_7 : decode cX8_get 7 = .ok (.iload_n 2, 1) := by decide +kernel
theorem dX8_get_8 : decode cX8_get 8 = .ok (.invokestatic 233, 3) := by decide +kernel
theorem dX8_get_11 : decode cX8_get 11 = .ok (.ifCond .ne 6, 3) := by decide +kernel
theorem dX8_get_14 : decode cX8_get 14 = .ok (.ldc 152, 2) := by decide +kernel
theorem dX8_get_16 : decode cX8_get 16 = .ok (.ireturn, 1) := by decide +kernel
theorem dX8_get_17 : decode cX8_get 17 = .ok (.aload_n 0, 1) := by decide +kernel
theorem dX8_get_18 : decode cX8_get 18 = .ok (.getfield 56, 3) := by decide +kernel
theorem dX8_get_21 : decode cX8_get 21 = .ok (.iload_n 1, 1) := by decide +kernel
theorem dX8_get_22 : decode cX8_get 22 = .ok (.aaload, 1) := by decide +kernel
theorem dX8_get_23 : decode cX8_get 23 = .ok (.iload_n 2, 1) := by decide +kernel
theorem dX8_get_24 : decode cX8_get 24 = .ok (.iload_n 3, 1) := by decide +kernel
theorem dX8_get_25 : decode cX8_get 25 = .ok (.invokestatic 240, 3) := by decide +kernel
theorem dX8_get_28 : decode cX8_get 28 = .ok (.istore 4, 2) := by decide +kernel
theorem dX8_get_30 : decode cX8_get 30 = .ok (.iload 4, 2) := by decide +kernel
theorem dX8_get_32 : decode cX8_get 32 = .ok (.ifCond .eq 12, 3) := by decide +kernel
theorem dX8_get_35 : decode cX8_get 35 = .ok (.aload_n 0, 1) := by decide +kernel
theorem dX8_get_36 : decode cX8_get 36 = .ok (.iload 4, 2) := by decide +kernel
theorem dX8_get_38 : decode cX8_get 38 = .ok (.putfield 73, 3) := by decide +kernel
theorem dX8_get_41 : decode cX8_get 41 = .ok (.ldc 152, 2) := by decide +kernel
theorem dX8_get_43 : decode cX8_get 43 = .ok (.ireturn, 1) := by decide +kernel
theorem dX8_get_44 : decode cX8_get 44 = .ok (.aload_n 0, 1) := by decide +kernel
theorem dX8_get_45 : decode cX8_get 45 = .ok (.getfield 56, 3) := by decide +kernel
theorem dX8_get_48 : decode cX8_get 48 = .ok (.iload_n 1, 1) := by decide +kernel
theorem dX8_get_49 : decode cX8_get 49 = .ok (.aaload, 1) := by decide +kernel
theorem dX8_get_50 : decode cX8_get 50 = .ok (.iload_n 3, 1) := by decide +kernel
theorem dX8_get_51 : decode cX8_get 51 = .ok (.invokevirtual 247, 3) := by decide +kernel
theorem dX8_get_54 : decode cX8_get 54 = .ok (.ireturn, 1) := by decide +kernel
theorem dX8_copy_0 : decode cX8_copy 0 = .ok (.iload_n 1, 1) := by decide +kernel
theorem dX8_copy_1 : decode cX8_copy 1 = .ok (.invokestatic 204, 3) := by decide +kernel
theorem dX8_copy_4 : decode cX8_copy 4 = .ok (.ifCond .eq 10, 3) := by decide +kernel
theorem dX8_copy_7 : decode cX8_copy 7 = .ok (.iload_n 3, 1) := by decide +kernel
theorem dX8_copy_8 : decode cX8_copy 8 = .ok (.invokestatic 204, 3) := by decide +kernel
theorem dX8_copy_11 : decode cX8_copy 11 = .ok (.ifCond .ne 6, 3) := by decide +kernel
theorem dX8_copy_14 : decode cX8_copy 14 = .ok (.bipush (-2), 2) := by decide +kernel
theorem dX8_copy_16 : decode cX8_copy 16 = .ok (.ireturn, 1) := by decide +kernel
theorem dX8_copy_17 : decode cX8_copy 17 = .ok (.aload_n 0, 1) := by decide +kernel
theorem dX8_copy_18 : decode cX8_copy 18 = .ok (.getfield 56, 3) := by decide +kernel
theorem dX8_copy_21 : decode cX8_copy 21 = .ok (.iload_n 1, 1) := by decide +kernel
theorem dX8_copy_22 : decode cX8_copy 22 = .ok (.aaload, 1) := by decide +kernel
theorem dX8_copy_23 : decode cX8_copy 23 = .ok (.astore 6, 2) := by decide +kernel
theorem dX8_copy_25 : decode cX8_copy 25 = .ok (.aload_n 0, 1) := by decide +kernel
theorem dX8_copy_26 : decode cX8_copy 26 = .ok (.getfield 56, 3) := by decide +kernel
theorem dX8_copy_29 : decode cX8_copy 29 = .ok (.iload_n 3, 1) := by decide +kernel
theorem dX8_copy_30 : decode cX8_copy 30 = .ok (.aaload, 1) := by decide +kernel
theorem dX8_copy_31 : decode cX8_copy 31 = .ok (.astore 7, 2) := by decide +kernel
theorem dX8_copy_33 : decode cX8_copy 33 = .ok (.aload 6, 2) := by decide +kernel
theorem dX8_copy_35 : decode cX8_copy 35 = .ok (.getfield 207, 3) := by decide +kernel
theorem dX8_copy_38 : decode cX8_copy 38 = .ok (.ifCond .ne 11, 3) := by decide +kernel
theorem dX8_copy_41 : decode cX8_copy 41 = .ok (.aload 7, 2) := by decide +kernel
theorem dX8_copy_43 : decode cX8_copy 43 = .ok (.getfield 207, 3) := by decide +kernel
theorem dX8_copy_46 : decode cX8_copy 46 = .ok (.ifCond .eq 9, 3) := by decide +kernel
theorem dX8_copy_49 : decode cX8_copy 49 = .ok (.aload_n 0, 1) := by decide +kernel
theorem dX8_copy_50 : decode cX8_copy 50 = .ok (.iconst 1, 1) := by decide +kernel
theorem dX8_copy_51 : decode cX8_copy 51 = .ok (.invokevirtual 211, 3) := by decide +kernel
theorem dX8_copy_54 : decode cX8_copy 54 = .ok (.ireturn, 1) := by decide +kernel
theorem dX8_copy_55 : decode cX8_copy 55 = .ok (.aload 6, 2) := by decide +kernel
theorem dX8_copy_57 : decode cX8_copy 57 = .ok (.getfield 250, 3) := by decide +kernel
theorem dX8_copy_60 : decode cX8_copy 60 = .ok (.aload 7, 2) := by decide +kernel
theorem dX8_copy_62 : decode cX8_copy 62 = .ok (.getfield 250, 3) := by decide +kernel
theorem dX8_copy_65 : decode cX8_copy 65 = .ok (.if_icmp .eq 9, 3) := by decide +kernel
theorem dX8_copy_68 : decode cX8_copy 68 = .ok (.aload_n 0, 1) := by decide +kernel
theorem dX8_copy_69 : decode cX8_copy 69 = .ok (.iconst 4, 1) := by decide +kernel
theorem dX8_copy_70 : decode cX8_copy 70 = .ok (.invokevirtual 211, 3) := by decide +kernel
theorem dX8_copy_73 : decode cX8_copy 73 = .ok (.ireturn, 1) := by decide +kernel
theorem dX8_copy_74 : decode cX8_copy 74 = .ok (.aload 6, 2) := by decide +kernel
theorem dX8_copy_76 : decode cX8_copy 76 = .ok (.iload_n 2, 1) := by decide +kernel
theorem dX8_copy_77 : decode cX8_copy 77 = .ok (.iload 5, 2) := by decide +kernel
theorem dX8_copy_79 : decode cX8_copy 79 = .ok (.invokevirtual 253, 3) := by decide +kernel
theorem dX8_copy_82 : decode cX8_copy 82 = .ok (.ifCond .eq 15, 3) := by decide +kernel
theorem dX8_copy_85 : decode cX8_copy 85 = .ok (.aload 7, 2) := by decide +kernel
theorem dX8_copy_87 : decode cX8_copy 87 = .ok (.iload 4, 2) := by decide +kernel
theorem dX8_copy_89 : decode cX8_copy 89 = .ok (.iload 5, 2) := by decide +kernel
theorem dX8_copy_91 : decode cX8_copy 91 = .ok (.invokevirtual 253, 3) := by decide +kernel
theorem dX8_copy_94 : decode cX8_copy 94 = .ok (.ifCond .ne 9, 3) := by decide +kernel
theorem dX8_copy_97 : decode cX8_copy 97 = .ok (.aload_n 0, 1) := by decide +kernel
theorem dX8_copy_98 : decode cX8_copy 98 = .ok (.iconst 2, 1) := by decide +kernel
theorem dX8_copy_99 : decode cX8_copy 99 = .ok (.invokevirtual 211, 3) := by decide +kernel
theorem dX8_copy_102 : decode cX8_copy 102 = .ok (.ireturn, 1) := by decide +kernel
theorem dX8_copy_103 : decode cX8_copy 103 = .ok (.aload 6, 2) := by decide +kernel
theorem dX8_copy_105 : decode cX8_copy 105 = .ok (.getfield 256, 3) := by decide +kernel
theorem dX8_copy_108 : decode cX8_copy 108 = .ok (.iload_n 2, 1) := by decide +kernel
theorem dX8_copy_109 : decode cX8_copy 109 = .ok (.aload 7, 2) := by decide +kernel
theorem dX8_copy_111 : decode cX8_copy 111 = .ok (.getfield 256, 3) := by decide +kernel
theorem dX8_copy_114 : decode cX8_copy 114 = .ok (.iload 4, 2) := by decide +kernel
theorem dX8_copy_116 : decode cX8_copy 116 = .ok (.iload 5, 2) := by decide +kernel
theorem dX8_copy_118 : decode cX8_copy 118 = .ok (.invokestatic 259, 3) := by decide +kernel
theorem dX8_copy_121 : decode cX8_copy 121 = .ok (.iconst 1, 1) := by decide +kernel
theorem dX8_copy_122 : decode cX8_copy 122 = .ok (.ireturn, 1) := by decide +kernel
theorem dX8_shake_0 : decode cX8_shake 0 = .ok (.iload_n 1, 1) := by decide +kernel
theorem dX8_shake_1 : decode cX8_shake 1 = .ok (.invokestatic 204, 3) := by decide +kernel
theorem dX8_shake_4 : decode cX8_shake 4 = .ok (.ifCond .ne 6, 3) := by decide +kernel
theorem dX8_shake_7 : decode cX8_shake 7 = .ok (.bipush (-2), 2) := by decide +kernel
theorem dX8_shake_9 : decode cX8_shake 9 = .ok (.ireturn, 1) := by decide +kernel
theorem dX8_shake_10 : decode cX8_shake 10 = .ok (.aload_n 0, 1) := by decide +kernel
theorem dX8_shake_11 : decode cX8_shake 11 = .ok (.getfield 56, 3) := by decide +kernel
theorem dX8_shake_14 : decode cX8_shake 14 = .ok (.iload_n 1, 1) := by decide +kernel
theorem dX8_shake_15 : decode cX8_shake 15 = .ok (.aaload, 1) := by decide +kernel
theorem dX8_shake_16 : decode cX8_shake 16 = .ok (.astore_n 3, 1) := by decide +kernel
theorem dX8_shake_17 : decode cX8_shake 17 = .ok (.aload_n 3, 1) := by decide +kernel
theorem dX8_shake_18 : decode cX8_shake 18 = .ok (.getfield 207, 3) := by decide +kernel
theorem dX8_shake_21 : decode cX8_shake 21 = .ok (.ifCond .eq 9, 3) := by decide +kernel
theorem dX8_shake_24 : decode cX8_shake 24 = .ok (.aload_n 0, 1) := by decide +kernel
theorem dX8_shake_25 : decode cX8_shake 25 = .ok (.iconst 1, 1) := by decide +kernel
theorem dX8_shake_26 : decode cX8_shake 26 = .ok (.invokevirtual 211, 3) := by decide +kernel
theorem dX8_shake_29 : decode cX8_shake 29 = .ok (.ireturn, 1) := by decide +kernel
theorem dX8_shake_30 : decode cX8_shake 30 = .ok (.iload_n 2, 1) := by decide +kernel
theorem dX8_shake_31 : decode cX8_shake 31 = .ok (.istore 4, 2) := by decide +kernel
theorem dX8_shake_33 : decode cX8_shake 33 = .ok (.iconst 0, 1) := by decide +kernel
theorem dX8_shake_34 : decode cX8_shake 34 = .ok (.istore 5, 2) := by decide +kernel
theorem dX8_shake_36 : decode cX8_shake 36 = .ok (.iload 5, 2) := by decide +kernel
theorem dX8_shake_38 : decode cX8_shake 38 = .ok (.aload_n 3, 1) := by decide +kernel
theorem dX8_shake_39 : decode cX8_shake 39 = .ok (.getfield 239, 3) := by decide +kernel
theorem dX8_shake_42 : decode cX8_shake 42 = .ok (.if_icmp .ge 37, 3) := by decide +kernel
theorem dX8_shake_45 : decode cX8_shake 45 = .ok (.ldc_w 265, 3) := by decide +kernel
theorem dX8_shake_48 : decode cX8_shake 48 = .ok (.iload 4, 2) := by decide +kernel
theorem dX8_shake_50 : decode cX8_shake 50 = .ok (.imul, 1) := by decide +kernel
theorem dX8_shake_51 : decode cX8_shake 51 = .ok (.sipush 12345, 3) := by decide +kernel
theorem dX8_shake_54 : decode cX8_shake 54 = .ok (.iadd, 1) := by decide +kernel
theorem dX8_shake_55 : decode cX8_shake 55 = .ok (.istore 4, 2) := by decide +kernel
theorem dX8_shake_57 : decode cX8_shake 57 = .ok (.aload_n 3, 1) := by decide +kernel
theorem dX8_shake_58 : decode cX8_shake 58 = .ok (.iload 5, 2) := by decide +kernel
theorem dX8_shake_60 : decode cX8_shake 60 = .ok (.iconst 1, 1) := by decide +kernel
theorem dX8_shake_61 : decode cX8_shake 61 = .ok (.iload 4, 2) := by decide +kernel
theorem dX8_shake_63 : decode cX8_shake 63 = .ok (.bipush 16, 2) := by decide +kernel
theorem dX8_shake_65 : decode cX8_shake 65 = .ok (.iushr, 1) := by decide +kernel
theorem dX8_shake_66 : decode cX8_shake 66 = .ok (.bipush 6, 2) := by decide +kernel
theorem dX8_shake_68 : decode cX8_shake 68 = .ok (.irem, 1) := by decide +kernel
theorem dX8_shake_69 : decode cX8_shake 69 = .ok (.iadd, 1) := by decide +kernel
theorem dX8_shake_70 : decode cX8_shake 70 = .ok (.invokevirtual 244, 3) := by decide +kernel
theorem dX8_shake_73 : decode cX8_shake 73 = .ok (.iinc 5 1, 3) := by decide +kernel
theorem dX8_shake_76 : decode cX8_shake 76 = .ok (.goto (-40), 3) := by decide +kernel
theorem dX8_shake_79 : decode cX8_shake 79 = .ok (.aload_n 3, 1) := by decide +kernel
theorem dX8_shake_80 : decode cX8_shake 80 = .ok (.getfield 239, 3) := by decide +kernel
theorem dX8_shake_83 : decode cX8_shake 83 = .ok (.ireturn, 1) := by decide +kernel
theorem dX8_count_0 : decode cX8_count 0 = .ok (.iload_n 1, 1) := by decide +kernel
theorem dX8_count_1 : decode cX8_count 1 = .ok (.tableswitch 127 0 9 #[55, 63, 73, 83, 88, 93, 101, 106, 111, 119], 55) := by decide +kernel
theorem dX8_count_56 : decode cX8_count 56 = .ok (.aload_n 0, 1) := by decide +kernel
theorem dX8_count_57 : decode cX8_count 57 = .ok (.getfield 10, 3) := by decide +kernel
theorem dX8_count_60 : decode cX8_count 60 = .ok (.getfield 82, 3) := by decide +kernel
theorem dX8_count_63 : decode cX8_count 63 = .ok (.ireturn, 1) := by decide +kernel
theorem dX8_count_64 : decode cX8_count 64 = .ok (.aload_n 0, 1) := by decide +kernel
theorem dX8_count_65 : decode cX8_count 65 = .ok (.getfield 18, 3) := by decide +kernel
theorem dX8_count_68 : decode cX8_count 68 = .ok (.iconst 0, 1) := by decide +kernel
theorem dX8_count_69 : decode cX8_count 69 = .ok (.aaload, 1) := by decide +kernel
theorem dX8_count_70 : decode cX8_count 70 = .ok (.getfield 118, 3) := by decide +kernel
theorem dX8_count_73 : decode cX8_count 73 = .ok (.ireturn, 1) := by decide +kernel
theorem dX8_count_74 : decode cX8_count 74 = .ok (.aload_n 0, 1) := by decide +kernel
theorem dX8_count_75 : decode cX8_count 75 = .ok (.getfield 18, 3) := by decide +kernel
theorem dX8_count_78 : decode cX8_count 78 = .ok (.iconst 1, 1) := by decide +kernel
theorem dX8_count_79 : decode cX8_count 79 = .ok (.aaload, 1) := by decide +kernel
theorem dX8_count_80 : decode cX8_count 80 = .ok (.getfield 118, 3) := by decide +kernel
theorem dX8_count_83 : decode cX8_count 83 = .ok (.ireturn, 1) := by decide +kernel
theorem dX8_count_84 : decode cX8_count 84 = .ok (.aload_n 0, 1) := by decide +kernel
theorem dX8_count_85 : decode cX8_count 85 = .ok (.getfield 60, 3) := by decide +kernel
theorem dX8_count_88 : decode cX8_count 88 = .ok (.ireturn, 1) := by decide +kernel
theorem dX8_count_89 : decode cX8_count 89 = .ok (.aload_n 0, 1) := by decide +kernel
theorem dX8_count_90 : decode cX8_count 90 = .ok (.getfield 64, 3) := by decide +kernel
theorem dX8_count_93 : decode cX8_count 93 = .ok (.ireturn, 1) := by decide +kernel
theorem dX8_count_94 : decode cX8_count 94 = .ok (.aload_n 0, 1) := by decide +kernel
theorem dX8_count_95 : decode cX8_count 95 = .ok (.getfield 39, 3) := by decide +kernel
theorem dX8_count_98 : decode cX8_count 98 = .ok (.getfield 172, 3) := by decide +kernel
theorem dX8_count_101 : decode cX8_count 101 = .ok (.ireturn, 1) := by decide +kernel
theorem dX8_count_102 : decode cX8_count 102 = .ok (.aload_n 0, 1) := by decide +kernel
theorem dX8_count_103 : decode cX8_count 103 = .ok (.getfield 73, 3) := by decide +kernel
theorem dX8_count_106 : decode cX8_count 106 = .ok (.ireturn, 1) := by decide +kernel
theorem dX8_count_107 : decode cX8_count 107 = .ok (.aload_n 0, 1) := by decide +kernel
theorem dX8_count_108 : decode cX8_count 108 = .ok (.getfield 67, 3) := by decide +kernel
theorem dX8_count_111 : decode cX8_count 111 = .ok (.ireturn, 1) := by decide +kernel
theorem dX8_count_112 : decode cX8_count 112 = .ok (.aload_n 0, 1) := by decide +kernel
theorem dX8_count_113 : decode cX8_count 113 = .ok (.getfield 39, 3) := by decide +kernel
theorem dX8_count_116 : decode cX8_count 116 = .ok (.getfield 176, 3) := by decide +kernel
theorem dX8_count_119 : decode cX8_count 119 = .ok (.ireturn, 1) := by decide +kernel
theorem dX8_count_120 : decode cX8_count 120 = .ok (.aload_n 0, 1) := by decide +kernel
theorem dX8_count_121 : decode cX8_count 121 = .ok (.getfield 39, 3) := by decide +kernel
theorem dX8_count_124 : decode cX8_count 124 = .ok (.getfield 179, 3) := by decide +kernel
theorem dX8_count_127 : decode cX8_count 127 = .ok (.ireturn, 1) := by decide +kernel
theorem dX8_count_128 : decode cX8_count 128 = .ok (.bipush (-2), 2) := by decide +kernel
theorem dX8_count_130 : decode cX8_count 130 = .ok (.ireturn, 1) := by decide +kernel
theorem dX8_digest_0 : decode cX8_digest 0 = .ok (.ldc2_w 266, 3) := by decide +kernel
theorem dX8_digest_3 : decode cX8_digest 3 = .ok (.lstore_n 1, 1) := by decide +kernel
theorem dX8_digest_4 : decode cX8_digest 4 = .ok (.iconst 0, 1) := by decide +kernel
theorem dX8_digest_5 : decode cX8_digest 5 = .ok (.istore_n 3, 1) := by decide +kernel
theorem dX8_digest_6 : decode cX8_digest 6 = .ok (.iload_n 3, 1) := by decide +kernel
theorem dX8_digest_7 : decode cX8_digest 7 = .ok (.bipush 9, 2) := by decide +kernel
theorem dX8_digest_9 : decode cX8_digest 9 = .ok (.if_icmp .gt 28, 3) := by decide +kernel
theorem dX8_digest_12 : decode cX8_digest 12 = .ok (.iload_n 3, 1) := by decide +kernel
theorem dX8_digest_13 : decode cX8_digest 13 = .ok (.bipush 6, 2) := by decide +kernel
theorem dX8_digest_15 : decode cX8_digest 15 = .ok (.if_icmp .eq 16, 3) := by decide +kernel
theorem dX8_digest_18 : decode cX8_digest 18 = .ok (.ldc2_w 268, 3) := by decide +kernel
theorem dX8_digest_21 : decode cX8_digest 21 = .ok (.lload_n 1, 1) := by decide +kernel
theorem dX8_digest_22 : decode cX8_digest 22 = .ok (.lmul, 1) := by decide +kernel
theorem dX8_digest_23 : decode cX8_digest 23 = .ok (.aload_n 0, 1) := by decide +kernel
theorem dX8_digest_24 : decode cX8_digest 24 = .ok (.iload_n 3, 1) := by decide +kernel
theorem dX8_digest_25 : decode cX8_digest 25 = .ok (.invokevirtual 270, 3) := by decide +kernel
theorem dX8_digest_28 : decode cX8_digest 28 = .ok (.i2l, 1) := by decide +kernel
theorem dX8_digest_29 : decode cX8_digest 29 = .ok (.ladd, 1) := by decide +kernel
theorem dX8_digest_30 : decode cX8_digest 30 = .ok (.lstore_n 1, 1) := by decide +kernel
theorem dX8_digest_31 : decode cX8_digest 31 = .ok (.iinc 3 1, 3) := by decide +kernel
theorem dX8_digest_34 : decode cX8_digest 34 = .ok (.goto (-28), 3) := by decide +kernel
theorem dX8_digest_37 : decode cX8_digest 37 = .ok (.iconst 0, 1) := by decide +kernel
theorem dX8_digest_38 : decode cX8_digest 38 = .ok (.istore_n 3, 1) := by decide +kernel
theorem dX8_digest_39 : decode cX8_digest 39 = .ok (.iload_n 3, 1) := by decide +kernel
theorem dX8_digest_40 : decode cX8_digest 40 = .ok (.aload_n 0, 1) := by decide +kernel
theorem dX8_digest_41 : decode cX8_digest 41 = .ok (.getfield 10, 3) := by decide +kernel
theorem dX8_digest_44 : decode cX8_digest 44 = .ok (.getfield 82, 3) := by decide +kernel
theorem dX8_digest_47 : decode cX8_digest 47 = .ok (.if_icmp .ge 39, 3) := by decide +kernel
theorem dX8_digest_50 : decode cX8_digest 50 = .ok (.iconst 0, 1) := by decide +kernel
theorem dX8_digest_51 : decode cX8_digest 51 = .ok (.istore 4, 2) := by decide +kernel
theorem dX8_digest_53 : decode cX8_digest 53 = .ok (.iload 4, 2) := by decide +kernel
theorem dX8_digest_55 : decode cX8_digest 55 = .ok (.iconst 5, 1) := by decide +kernel
theorem dX8_digest_56 : decode cX8_digest 56 = .ok (.if_icmp .gt 24, 3) := by decide +kernel
theorem dX8_digest_59 : decode cX8_digest 59 = .ok (.ldc2_w 268, 3) := by decide +kernel
theorem dX8_digest_62 : decode cX8_digest 62 = .ok (.lload_n 1, 1) := by decide +kernel
theorem dX8_digest_63 : decode cX8_digest 63 = .ok (.lmul, 1) := by decide +kernel
theorem dX8_digest_64 : decode cX8_digest 64 = .ok (.aload_n 0, 1) := by decide +kernel
theorem dX8_digest_65 : decode cX8_digest 65 = .ok (.iload_n 3, 1) := by decide +kernel
theorem dX8_digest_66 : decode cX8_digest 66 = .ok (.iload 4, 2) := by decide +kernel
theorem dX8_digest_68 : decode cX8_digest 68 = .ok (.invokevirtual 273, 3) := by decide +kernel
theorem dX8_digest_71 : decode cX8_digest 71 = .ok (.i2l, 1) := by decide +kernel
theorem dX8_digest_72 : decode cX8_digest 72 = .ok (.ladd, 1) := by decide +kernel
theorem dX8_digest_73 : decode cX8_digest 73 = .ok (.lstore_n 1, 1) := by decide +kernel
theorem dX8_digest_74 : decode cX8_digest 74 = .ok (.iinc 4 1, 3) := by decide +kernel
theorem dX8_digest_77 : decode cX8_digest 77 = .ok (.goto (-24), 3) := by decide +kernel
theorem dX8_digest_80 : decode cX8_digest 80 = .ok (.iinc 3 1, 3) := by decide +kernel
theorem dX8_digest_83 : decode cX8_digest 83 = .ok (.goto (-44), 3) := by decide +kernel
theorem dX8_digest_86 : decode cX8_digest 86 = .ok (.iconst 0, 1) := by decide +kernel
theorem dX8_digest_87 : decode cX8_digest 87 = .ok (.istore_n 3, 1) := by decide +kernel
theorem dX8_digest_88 : decode cX8_digest 88 = .ok (.iload_n 3, 1) := by decide +kernel
theorem dX8_digest_89 : decode cX8_digest 89 = .ok (.iconst 1, 1) := by decide +kernel
theorem dX8_digest_90 : decode cX8_digest 90 = .ok (.if_icmp .gt 39, 3) := by decide +kernel
theorem dX8_digest_93 : decode cX8_digest 93 = .ok (.iconst 0, 1) := by decide +kernel
theorem dX8_digest_94 : decode cX8_digest 94 = .ok (.istore 4, 2) := by decide +kernel
theorem dX8_digest_96 : decode cX8_digest 96 = .ok (.iload 4, 2) := by decide +kernel
theorem dX8_digest_98 : decode cX8_digest 98 = .ok (.iconst 3, 1) := by decide +kernel
theorem dX8_digest_99 : decode cX8_digest 99 = .ok (.if_icmp .ge 24, 3) := by decide +kernel
theorem dX8_digest_102 : decode cX8_digest 102 = .ok (.ldc2_w 268, 3) := by decide +kernel
theorem dX8_digest_105 : decode cX8_digest 105 = .ok (.lload_n 1, 1) := by decide +kernel
theorem dX8_digest_106 : decode cX8_digest 106 = .ok (.lmul, 1) := by decide +kernel
theorem dX8_digest_107 : decode cX8_digest 107 = .ok (.aload_n 0, 1) := by decide +kernel
theorem dX8_digest_108 : decode cX8_digest 108 = .ok (.iload_n 3, 1) := by decide +kernel
theorem dX8_digest_109 : decode cX8_digest 109 = .ok (.iload 4, 2) := by decide +kernel
theorem dX8_digest_111 : decode cX8_digest 111 = .ok (.invokevirtual 276, 3) := by decide +kernel
theorem dX8_digest_114 : decode cX8_digest 114 = .ok (.i2l, 1) := by decide +kernel
theorem dX8_digest_115 : decode cX8_digest 115 = .ok (.ladd, 1) := by decide +kernel
theorem dX8_digest_116 : decode cX8_digest 116 = .ok (.lstore_n 1, 1) := by decide +kernel
theorem dX8_digest_117 : decode cX8_digest 117 = .ok (.iinc 4 1, 3) := by decide +kernel
theorem dX8_digest_120 : decode cX8_digest 120 = .ok (.goto (-24), 3) := by decide +kernel
theorem dX8_digest_123 : decode cX8_digest 123 = .ok (.iinc 3 1, 3) := by decide +kernel
theorem dX8_digest_126 : decode cX8_digest 126 = .ok (.goto (-38), 3) := by decide +kernel
theorem dX8_digest_129 : decode cX8_digest 129 = .ok (.iconst 0, 1) := by decide +kernel
theorem dX8_digest_130 : decode cX8_digest 130 = .ok (.istore_n 3, 1) := by decide +kernel
theorem dX8_digest_131 : decode cX8_digest 131 = .ok (.iload_n 3, 1) := by decide +kernel
theorem dX8_digest_132 : decode cX8_digest 132 = .ok (.iconst 2, 1) := by decide +kernel
theorem dX8_digest_133 : decode cX8_digest 133 = .ok (.if_icmp .gt 22, 3) := by decide +kernel
theorem dX8_digest_136 : decode cX8_digest 136 = .ok (.ldc2_w 268, 3) := by decide +kernel
theorem dX8_digest_139 : decode cX8_digest 139 = .ok (.lload_n 1, 1) := by decide +kernel
theorem dX8_digest_140 : decode cX8_digest 140 = .ok (.lmul, 1) := by decide +kernel
theorem dX8_digest_141 : decode cX8_digest 141 = .ok (.aload_n 0, 1) := by decide +kernel
theorem dX8_digest_142 : decode cX8_digest 142 = .ok (.iload_n 3, 1) := by decide +kernel
theorem dX8_digest_143 : decode cX8_digest 143 = .ok (.invokevirtual 279, 3) := by decide +kernel
theorem dX8_digest_146 : decode cX8_digest 146 = .ok (.i2l, 1) := by decide +kernel
theorem dX8_digest_147 : decode cX8_digest 147 = .ok (.ladd, 1) := by decide +kernel
theorem dX8_digest_148 : decode cX8_digest 148 = .ok (.lstore_n 1, 1) := by decide +kernel
theorem dX8_digest_149 : decode cX8_digest 149 = .ok (.iinc 3 1, 3) := by decide +kernel
theorem dX8_digest_152 : decode cX8_digest 152 = .ok (.goto (-21), 3) := by decide +kernel
theorem dX8_digest_155 : decode cX8_digest 155 = .ok (.lload_n 1, 1) := by decide +kernel
theorem dX8_digest_156 : decode cX8_digest 156 = .ok (.lreturn, 1) := by decide +kernel
theorem dX8_isSide_0 : decode cX8_isSide 0 = .ok (.iload_n 0, 1) := by decide +kernel
theorem dX8_isSide_1 : decode cX8_isSide 1 = .ok (.ifCond .eq 8, 3) := by decide +kernel
theorem dX8_isSide_4 : decode cX8_isSide 4 = .ok (.iload_n 0, 1) := by decide +kernel
theorem dX8_isSide_5 : decode cX8_isSide 5 = .ok (.iconst 1, 1) := by decide +kernel
theorem dX8_isSide_6 : decode cX8_isSide 6 = .ok (.if_icmp .ne 7, 3) := by decide +kernel
theorem dX8_isSide_9 : decode cX8_isSide 9 = .ok (.iconst 1, 1) := by decide +kernel
theorem dX8_isSide_10 : decode cX8_isSide 10 = .ok (.goto 4, 3) := by decide +kernel
theorem dX8_isSide_13 : decode cX8_isSide 13 = .ok (.iconst 0, 1) := by decide +kernel
theorem dX8_isSide_14 : decode cX8_isSide 14 = .ok (.ireturn, 1) := by decide +kernel
theorem dX8_isSideOrNone_0 : decode cX8_isSideOrNone 0 = .ok (.iload_n 0, 1) := by decide +kernel
theorem dX8_isSideOrNone_1 : decode cX8_isSideOrNone 1 = .ok (.iconst (-1), 1) := by decide +kernel
theorem dX8_isSideOrNone_2 : decode cX8_isSideOrNone 2 = .ok (.if_icmp .eq 10, 3) := by decide +kernel
theorem dX8_isSideOrNone_5 : decode cX8_isSideOrNone 5 = .ok (.iload_n 0, 1) := by decide +kernel
theorem dX8_isSideOrNone_6 : decode cX8_isSideOrNone 6 = .ok (.invokestatic 101, 3) := by decide +kernel
theorem dX8_isSideOrNone_9 : decode cX8_isSideOrNone 9 = .ok (.ifCond .eq 7, 3) := by decide +kernel
theorem dX8_isSideOrNone_12 : decode cX8_isSideOrNone 12 = .ok (.iconst 1, 1) := by decide +kernel
theorem dX8_isSideOrNone_13 : decode cX8_isSideOrNone 13 = .ok (.goto 4, 3) := by decide +kernel
theorem dX8_isSideOrNone_16 : decode cX8_isSideOrNone 16 = .ok (.iconst 0, 1) := by decide +kernel
theorem dX8_isSideOrNone_17 : decode cX8_isSideOrNone 17 = .ok (.ireturn, 1) := by decide +kernel
theorem dX8_isPlace_0 : decode cX8_isPlace 0 = .ok (.iload_n 0, 1) := by decide +kernel
theorem dX8_isPlace_1 : decode cX8_isPlace 1 = .ok (.ifCond .lt 12, 3) := by decide +kernel
theorem dX8_isPlace_4 : decode cX8_isPlace 4 = .ok (.iload_n 0, 1) := by decide +kernel
theorem dX8_isPlace_5 : decode cX8_isPlace 5 = .ok (.iconst 3, 1) := by decide +kernel
theorem dX8_isPlace_6 : decode cX8_isPlace 6 = .ok (.if_icmp .ge 7, 3) := by decide +kernel
theorem dX8_isPlace_9 : decode cX8_isPlace 9 = .ok (.iconst 1, 1) := by decide +kernel
theorem dX8_isPlace_10 : decode cX8_isPlace 10 = .ok (.goto 4, 3) := by decide +kernel
theorem dX8_isPlace_13 : decode cX8_isPlace 13 = .ok (.iconst 0, 1) := by decide +kernel
theorem dX8_isPlace_14 : decode cX8_isPlace 14 = .ok (.ireturn, 1) := by decide +kernel
theorem dX8_isSheet_0 : decode cX8_isSheet 0 = .ok (.iload_n 0, 1) := by decide +kernel
theorem dX8_isSheet_1 : decode cX8_isSheet 1 = .ok (.ifCond .lt 12, 3) := by decide +kernel
theorem dX8_isSheet_4 : decode cX8_isSheet 4 = .ok (.iload_n 0, 1) := by decide +kernel
theorem dX8_isSheet_5 : decode cX8_isSheet 5 = .ok (.iconst 4, 1) := by decide +kernel
theorem dX8_isSheet_6 : decode cX8_isSheet 6 = .ok (.if_icmp .ge 7, 3) := by decide +kernel
theorem dX8_isSheet_9 : decode cX8_isSheet 9 = .ok (.iconst 1, 1) := by decide +kernel
theorem dX8_isSheet_10 : decode cX8_isSheet 10 = .ok (.goto 4, 3) := by decide +kernel
theorem dX8_isSheet_13 : decode cX8_isSheet 13 = .ok (.iconst 0, 1) := by decide +kernel
theorem dX8_isSheet_14 : decode cX8_isSheet 14 = .ok (.ireturn, 1) := by decide +kernel
theorem dX8_isForm_0 : decode cX8_isForm 0 = .ok (.iload_n 0, 1) := by decide +kernel
theorem dX8_isForm_1 : decode cX8_isForm 1 = .ok (.ifCond .lt 12, 3) := by decide +kernel
theorem dX8_isForm_4 : decode cX8_isForm 4 = .ok (.iload_n 0, 1) := by decide +kernel
theorem dX8_isForm_5 : decode cX8_isForm 5 = .ok (.iconst 2, 1) := by decide +kernel
theorem dX8_isForm_6 : decode cX8_isForm 6 = .ok (.if_icmp .gt 7, 3) := by decide +kernel
theorem dX8_isForm_9 : decode cX8_isForm 9 = .ok (.iconst 1, 1) := by decide +kernel
theorem dX8_isForm_10 : decode cX8_isForm 10 = .ok (.goto 4, 3) := by decide +kernel
theorem dX8_isForm_13 : decode cX8_isForm 13 = .ok (.iconst 0, 1) := by decide +kernel
theorem dX8_isForm_14 : decode cX8_isForm 14 = .ok (.ireturn, 1) := by decide +kernel
theorem dX8_seatOf_0 : decode cX8_seatOf 0 = .ok (.iconst 3, 1) := by decide +kernel
theorem dX8_seatOf_1 : decode cX8_seatOf 1 = .ok (.iload_n 0, 1) := by decide +kernel
theorem dX8_seatOf_2 : decode cX8_seatOf 2 = .ok (.imul, 1) := by decide +kernel
theorem dX8_seatOf_3 : decode cX8_seatOf 3 = .ok (.iload_n 1, 1) := by decide +kernel
theorem dX8_seatOf_4 : decode cX8_seatOf 4 = .ok (.iadd, 1) := by decide +kernel
theorem dX8_seatOf_5 : decode cX8_seatOf 5 = .ok (.ireturn, 1) := by decide +kernel
theorem dX8_rowSize_0 : decode cX8_rowSize 0 = .ok (.aload_n 0, 1) := by decide +kernel
theorem dX8_rowSize_1 : decode cX8_rowSize 1 = .ok (.iload_n 1, 1) := by decide +kernel
theorem dX8_rowSize_2 : decode cX8_rowSize 2 = .ok (.invokevirtual 282, 3) := by decide +kernel
theorem dX8_rowSize_5 : decode cX8_rowSize 5 = .ok (.ifCond .eq 19, 3) := by decide +kernel
theorem dX8_rowSize_8 : decode cX8_rowSize 8 = .ok (.aload_n 0, 1) := by decide +kernel
theorem dX8_rowSize_9 : decode cX8_rowSize 9 = .ok (.iload_n 2, 1) := by decide +kernel
theorem dX8_rowSize_10 : decode cX8_rowSize 10 = .ok (.invokevirtual 282, 3) := by decide +kernel
theorem dX8_rowSize_13 : decode cX8_rowSize 13 = .ok (.ifCond .eq 11, 3) := by decide +kernel
theorem dX8_rowSize_16 : decode cX8_rowSize 16 = .ok (.aload_n 0, 1) := by decide +kernel
theorem dX8_rowSize_17 : decode cX8_rowSize 17 = .ok (.iload_n 3, 1) := by decide +kernel
theorem dX8_rowSize_18 : decode cX8_rowSize 18 = .ok (.invokevirtual 282, 3) := by decide +kernel
theorem dX8_rowSize_21 : decode cX8_rowSize 21 = .ok (.ifCond .ne 6, 3) := by decide +kernel
theorem dX8_rowSize_24 : decode cX8_rowSize 24 = .ok (.bipush (-2), 2) := by decide +kernel
theorem dX8_rowSize_26 : decode cX8_rowSize 26 = .ok (.ireturn, 1) := by decide +kernel
theorem dX8_rowSize_27 : decode cX8_rowSize 27 = .ok (.iload_n 1, 1) := by decide +kernel
theorem dX8_rowSize_28 : decode cX8_rowSize 28 = .ok (.iconst (-1), 1) := by decide +kernel
theorem dX8_rowSize_29 : decode cX8_rowSize 29 = .ok (.if_icmp .ne 20, 3) := by decide +kernel
theorem dX8_rowSize_32 : decode cX8_rowSize 32 = .ok (.iload_n 2, 1) := by decide +kernel
theorem dX8_rowSize_33 : decode cX8_rowSize 33 = .ok (.iconst (-1), 1) := by decide +kernel
theorem dX8_rowSize_34 : decode cX8_rowSize 34 = .ok (.if_icmp .ne 12, 3) := by decide +kernel
theorem dX8_rowSize_37 : decode cX8_rowSize 37 = .ok (.iload_n 3, 1) := by decide +kernel
theorem dX8_rowSize_38 : decode cX8_rowSize 38 = .ok (.iconst (-1), 1) := by decide +kernel
theorem dX8_rowSize_39 : decode cX8_rowSize 39 = .ok (.if_icmp .ne 7, 3) := by decide +kernel
theorem dX8_rowSize_42 : decode cX8_rowSize 42 = .ok (.iconst 0, 1) := by decide +kernel
theorem dX8_rowSize_43 : decode cX8_rowSize 43 = .ok (.goto 5, 3) := by decide +kernel
theorem dX8_rowSize_46 : decode cX8_rowSize 46 = .ok (.bipush (-2), 2) := by decide +kernel
theorem dX8_rowSize_48 : decode cX8_rowSize 48 = .ok (.ireturn, 1) := by decide +kernel
theorem dX8_rowSize_49 : decode cX8_rowSize 49 = .ok (.iload_n 2, 1) := by decide +kernel
theorem dX8_rowSize_50 : decode cX8_rowSize 50 = .ok (.iconst (-1), 1) := by decide +kernel
theorem dX8_rowSize_51 : decode cX8_rowSize 51 = .ok (.if_icmp .ne 15, 3) := by decide +kernel
theorem dX8_rowSize_54 : decode cX8_rowSize 54 = .ok (.iload_n 3, 1) := by decide +kernel
theorem dX8_rowSize_55 : decode cX8_rowSize 55 = .ok (.iconst (-1), 1) := by decide +kernel
theorem dX8_rowSize_56 : decode cX8_rowSize 56 = .ok (.if_icmp .ne 7, 3) := by decide +kernel
theorem dX8_rowSize_59 : decode cX8_rowSize 59 = .ok (.iconst 1, 1) := by decide +kernel
theorem dX8_rowSize_60 : decode cX8_rowSize 60 = .ok (.goto 5, 3) := by decide +kernel
theorem dX8_rowSize_63 : decode cX8_rowSize 63 = .ok (.bipush (-2), 2) := by decide +kernel
theorem dX8_rowSize_65 : decode cX8_rowSize 65 = .ok (.ireturn, 1) := by decide +kernel
theorem dX8_rowSize_66 : decode cX8_rowSize 66 = .ok (.iload_n 3, 1) := by decide +kernel
theorem dX8_rowSize_67 : decode cX8_rowSize 67 = .ok (.iconst (-1), 1) := by decide +kernel
theorem dX8_rowSize_68 : decode cX8_rowSize 68 = .ok (.if_icmp .ne 7, 3) := by decide +kernel
theorem dX8_rowSize_71 : decode cX8_rowSize 71 = .ok (.iconst 2, 1) := by decide +kernel
theorem dX8_rowSize_72 : decode cX8_rowSize 72 = .ok (.goto 4, 3) := by decide +kernel
theorem dX8_rowSize_75 : decode cX8_rowSize 75 = .ok (.iconst 3, 1) := by decide +kernel
theorem dX8_rowSize_76 : decode cX8_rowSize 76 = .ok (.ireturn, 1) := by decide +kernel
theorem dX8_isFighterOrNone_0 : decode cX8_isFighterOrNone 0 = .ok (.iload_n 1, 1) := by decide +kernel
theorem dX8_isFighterOrNone_1 : decode cX8_isFighterOrNone 1 = .ok (.iconst (-1), 1) := by decide +kernel
theorem dX8_isFighterOrNone_2 : decode cX8_isFighterOrNone 2 = .ok (.if_icmp .eq 14, 3) := by decide +kernel
theorem dX8_isFighterOrNone_5 : decode cX8_isFighterOrNone 5 = .ok (.aload_n 0, 1) := by decide +kernel
theorem dX8_isFighterOrNone_6 : decode cX8_isFighterOrNone 6 = .ok (.getfield 10, 3) := by decide +kernel
theorem dX8_isFighterOrNone_9 : decode cX8_isFighterOrNone 9 = .ok (.iload_n 1, 1) := by decide +kernel
theorem dX8_isFighterOrNone_10 : decode cX8_isFighterOrNone 10 = .ok (.invokevirtual 89, 3) := by decide +kernel
theorem dX8_isFighterOrNone_13 : decode cX8_isFighterOrNone 13 = .ok (.ifCond .eq 7, 3) := by decide +kernel
theorem dX8_isFighterOrNone_16 : decode cX8_isFighterOrNone 16 = .ok (.iconst 1, 1) := by decide +kernel
theorem dX8_isFighterOrNone_17 : decode cX8_isFighterOrNone 17 = .ok (.goto 4, 3) := by decide +kernel
theorem dX8_isFighterOrNone_20 : decode cX8_isFighterOrNone 20 = .ok (.iconst 0, 1) := by decide +kernel
theorem dX8_isFighterOrNone_21 : decode cX8_isFighterOrNone 21 = .ok (.ireturn, 1) := by decide +kernel
theorem dX8_refusal_0 : decode cX8_refusal 0 = .ok (.ldc2_w 285, 3) := by decide +kernel
theorem dX8_refusal_3 : decode cX8_refusal 3 = .ok (.iload_n 0, 1) := by decide +kernel
theorem dX8_refusal_4 : decode cX8_refusal 4 = .ok (.i2l, 1) := by decide +kernel
theorem dX8_refusal_5 : decode cX8_refusal 5 = .ok (.lsub, 1) := by decide +kernel
theorem dX8_refusal_6 : decode cX8_refusal 6 = .ok (.lreturn, 1) := by decide +kernel
theorem dX8_found_0 : decode cX8_found 0 = .ok (.aload_n 0, 1) := by decide +kernel
theorem dX8_found_1 : decode cX8_found 1 = .ok (.iload_n 1, 1) := by decide +kernel
theorem dX8_found_2 : decode cX8_found 2 = .ok (.putfield 73, 3) := by decide +kernel
theorem dX8_found_5 : decode cX8_found 5 = .ok (.bipush (-10), 2) := by decide +kernel
theorem dX8_found_7 : decode cX8_found 7 = .ok (.iload_n 1, 1) := by decide +kernel
theorem dX8_found_8 : decode cX8_found 8 = .ok (.isub, 1) := by decide +kernel
theorem dX8_found_9 : decode cX8_found 9 = .ok (.ireturn, 1) := by decide +kernel
theorem dX8_itemFault_0 : decode cX8_itemFault 0 = .ok (.aload_n 0, 1) := by decide +kernel
theorem dX8_itemFault_1 : decode cX8_itemFault 1 = .ok (.getfield 207, 3) := by decide +kernel
theorem dX8_itemFault_4 : decode cX8_itemFault 4 = .ok (.ifCond .eq 5, 3) := by decide +kernel
theorem dX8_itemFault_7 : decode cX8_itemFault 7 = .ok (.iconst 1, 1) := by decide +kernel
theorem dX8_itemFault_8 : decode cX8_itemFault 8 = .ok (.ireturn, 1) := by decide +kernel
theorem dX8_itemFault_9 : decode cX8_itemFault 9 = .ok (.aload_n 0, 1) := by decide +kernel
theorem dX8_itemFault_10 : decode cX8_itemFault 10 = .ok (.getfield 250, 3) := by decide +kernel
theorem dX8_itemFault_13 : decode cX8_itemFault 13 = .ok (.iload_n 1, 1) := by decide +kernel
theorem dX8_itemFault_14 : decode cX8_itemFault 14 = .ok (.if_icmp .eq 5, 3) := by decide +kernel
theorem dX8_itemFault_17 : decode cX8_itemFault 17 = .ok (.iconst 3, 1) := by decide +kernel
theorem dX8_itemFault_18 : decode cX8_itemFault 18 = .ok (.ireturn, 1) := by decide +kernel
theorem dX8_itemFault_19 : decode cX8_itemFault 19 = .ok (.aload_n 0, 1) := by decide +kernel
theorem dX8_itemFault_20 : decode cX8_itemFault 20 = .ok (.iload_n 2, 1) := by decide +kernel
theorem dX8_itemFault_21 : decode cX8_itemFault 21 = .ok (.invokevirtual 287, 3) := by decide +kernel
theorem dX8_itemFault_24 : decode cX8_itemFault 24 = .ok (.ifCond .eq 7, 3) := by decide +kernel
theorem dX8_itemFault_27 : decode cX8_itemFault 27 = .ok (.iconst 0, 1) := by decide +kernel
theorem dX8_itemFault_28 : decode cX8_itemFault 28 = .ok (.goto 4, 3) := by decide +kernel
theorem dX8_itemFault_31 : decode cX8_itemFault 31 = .ok (.iconst 2, 1) := by decide +kernel
theorem dX8_itemFault_32 : decode cX8_itemFault 32 = .ok (.ireturn, 1) := by decide +kernel
theorem dX8_seatFight_0 : decode cX8_seatFight 0 = .ok (.aload_n 0, 1) := by decide +kernel
theorem dX8_seatFight_1 : decode cX8_seatFight 1 = .ok (.getfield 25, 3) := by decide +kernel
theorem dX8_seatFight_4 : decode cX8_seatFight 4 = .ok (.aload_n 0, 1) := by decide +kernel
theorem dX8_seatFight_5 : decode cX8_seatFight 5 = .ok (.getfield 60, 3) := by decide +kernel
theorem dX8_seatFight_8 : decode cX8_seatFight 8 = .ok (.aload_n 0, 1) := by decide +kernel
theorem dX8_seatFight_9 : decode cX8_seatFight 9 = .ok (.getfield 64, 3) := by decide +kernel
theorem dX8_seatFight_12 : decode cX8_seatFight 12 = .ok (.aload_n 0, 1) := by decide +kernel
theorem dX8_seatFight_13 : decode cX8_seatFight 13 = .ok (.getfield 67, 3) := by decide +kernel
theorem dX8_seatFight_16 : decode cX8_seatFight 16 = .ok (.invokevirtual 157, 3) := by decide +kernel
theorem dX8_seatFight_19 : decode cX8_seatFight 19 = .ok (.aload_n 0, 1) := by decide +kernel
theorem dX8_seatFight_20 : decode cX8_seatFight 20 = .ok (.iconst (-1), 1) := by decide +kernel
theorem dX8_seatFight_21 : decode cX8_seatFight 21 = .ok (.iconst 0, 1) := by decide +kernel
theorem dX8_seatFight_22 : decode cX8_seatFight 22 = .ok (.invokevirtual 160, 3) := by decide +kernel
theorem dX8_seatFight_25 : decode cX8_seatFight 25 = .ok (.aload_n 0, 1) := by decide +kernel
theorem dX8_seatFight_26 : decode cX8_seatFight 26 = .ok (.aload_n 0, 1) := by decide +kernel
theorem dX8_seatFight_27 : decode cX8_seatFight 27 = .ok (.getfield 18, 3) := by decide +kernel
theorem dX8_seatFight_30 : decode cX8_seatFight 30 = .ok (.iconst 1, 1) := by decide +kernel
theorem dX8_seatFight_31 : decode cX8_seatFight 31 = .ok (.aaload, 1) := by decide +kernel
theorem dX8_seatFight_32 : decode cX8_seatFight 32 = .ok (.invokevirtual 164, 3) := by decide +kernel
theorem dX8_seatFight_35 : decode cX8_seatFight 35 = .ok (.return_, 1) := by decide +kernel
theorem dX8_seatHeroes_0 : decode cX8_seatHeroes 0 = .ok (.iconst 0, 1) := by decide +kernel
theorem dX8_seatHeroes_1 : decode cX8_seatHeroes 1 = .ok (.iconst 0, 1) := by decide +kernel
theorem dX8_seatHeroes_2 : decode cX8_seatHeroes 2 = .ok (.invokestatic 139, 3) := by decide +kernel
theorem dX8_seatHeroes_5 : decode cX8_seatHeroes 5 = .ok (.istore_n 3, 1) := by decide +kernel
theorem dX8_seatHeroes_6 : decode cX8_seatHeroes 6 = .ok (.iconst 0, 1) := by decide +kernel
theorem dX8_seatHeroes_7 : decode cX8_seatHeroes 7 = .ok (.istore 4, 2) := by decide +kernel
theorem dX8_seatHeroes_9 : decode cX8_seatHeroes 9 = .ok (.iload 4, 2) := by decide +kernel
theorem dX8_seatHeroes_11 : decode cX8_seatHeroes 11 = .ok (.aload_n 0, 1) := by decide +kernel
theorem dX8_seatHeroes_12 : decode cX8_seatHeroes 12 = .ok (.getfield 18, 3) := by decide +kernel
theorem dX8_seatHeroes_15 : decode cX8_seatHeroes 15 = .ok (.iconst 0, 1) := by decide +kernel
theorem dX8_seatHeroes_16 : decode cX8_seatHeroes 16 = .ok (.aaload, 1) := by decide +kernel
theorem dX8_seatHeroes_17 : decode cX8_seatHeroes 17 = .ok (.getfield 118, 3) := by decide +kernel
theorem dX8_seatHeroes_20 : decode cX8_seatHeroes 20 = .ok (.if_icmp .ge 42, 3) := by decide +kernel
theorem dX8_seatHeroes_23 : decode cX8_seatHeroes 23 = .ok (.iload 4, 2) := by decide +kernel
theorem dX8_seatHeroes_25 : decode cX8_seatHeroes 25 = .ok (.iload_n 1, 1) := by decide +kernel
theorem dX8_seatHeroes_26 : decode cX8_seatHeroes 26 = .ok (.if_icmp .eq 30, 3) := by decide +kernel
theorem dX8_seatHeroes_29 : decode cX8_seatHeroes 29 = .ok (.aload_n 0, 1) := by decide +kernel
theorem dX8_seatHeroes_30 : decode cX8_seatHeroes 30 = .ok (.getfield 25, 3) := by decide +kernel
theorem dX8_seatHeroes_33 : decode cX8_seatHeroes 33 = .ok (.iload_n 3, 1) := by decide +kernel
theorem dX8_seatHeroes_34 : decode cX8_seatHeroes 34 = .ok (.aload_n 0, 1) := by decide +kernel
theorem dX8_seatHeroes_35 : decode cX8_seatHeroes 35 = .ok (.getfield 10, 3) := by decide +kernel
theorem dX8_seatHeroes_38 : decode cX8_seatHeroes 38 = .ok (.aload_n 0, 1) := by decide +kernel
theorem dX8_seatHeroes_39 : decode cX8_seatHeroes 39 = .ok (.getfield 18, 3) := by decide +kernel
theorem dX8_seatHeroes_42 : decode cX8_seatHeroes 42 = .ok (.iconst 0, 1) := by decide +kernel
theorem dX8_seatHeroes_43 : decode cX8_seatHeroes 43 = .ok (.aaload, 1) := by decide +kernel
theorem dX8_seatHeroes_44 : decode cX8_seatHeroes 44 = .ok (.iload 4, 2) := by decide +kernel
theorem dX8_seatHeroes_46 : decode cX8_seatHeroes 46 = .ok (.invokevirtual 111, 3) := by decide +kernel
theorem dX8_seatHeroes_49 : decode cX8_seatHeroes 49 = .ok (.iload_n 2, 1) := by decide +kernel
theorem dX8_seatHeroes_50 : decode cX8_seatHeroes 50 = .ok (.invokevirtual 288, 3) := by decide +kernel
theorem dX8_seatHeroes_53 : decode cX8_seatHeroes 53 = .ok (.iinc 3 1, 3) := by decide +kernel
theorem dX8_seatHeroes_56 : decode cX8_seatHeroes 56 = .ok (.iinc 4 1, 3) := by decide +kernel
theorem dX8_seatHeroes_59 : decode cX8_seatHeroes 59 = .ok (.goto (-50), 3) := by decide +kernel
theorem dX8_seatHeroes_62 : decode cX8_seatHeroes 62 = .ok (.return_, 1) := by decide +kernel
theorem dX8_seatFoes_0 : decode cX8_seatFoes 0 = .ok (.iconst 0, 1) := by decide +kernel
theorem dX8_seatFoes_1 : decode cX8_seatFoes 1 = .ok (.istore_n 2, 1) := by decide +kernel
theorem dX8_seatFoes_2 : decode cX8_seatFoes 2 = .ok (.iload_n 2, 1) := by decide +kernel
theorem dX8_seatFoes_3 : decode cX8_seatFoes 3 = .ok (.aload_n 1, 1) := by decide +kernel
theorem dX8_seatFoes_4 : decode cX8_seatFoes 4 = .ok (.getfield 118, 3) := by decide +kernel
theorem dX8_seatFoes_7 : decode cX8_seatFoes 7 = .ok (.if_icmp .ge 31, 3) := by decide +kernel
theorem dX8_seatFoes_10 : decode cX8_seatFoes 10 = .ok (.aload_n 0, 1) := by decide +kernel
theorem dX8_seatFoes_11 : decode cX8_seatFoes 11 = .ok (.getfield 25, 3) := by decide +kernel
theorem dX8_seatFoes_14 : decode cX8_seatFoes 14 = .ok (.iconst 1, 1) := by decide +kernel
theorem dX8_seatFoes_15 : decode cX8_seatFoes 15 = .ok (.iload_n 2, 1) := by decide +kernel
theorem dX8_seatFoes_16 : decode cX8_seatFoes 16 = .ok (.invokestatic 139, 3) := by decide +kernel
theorem dX8_seatFoes_19 : decode cX8_seatFoes 19 = .ok (.aload_n 0, 1) := by decide +kernel
theorem dX8_seatFoes_20 : decode cX8_seatFoes 20 = .ok (.getfield 10, 3) := by decide +kernel
theorem dX8_seatFoes_23 : decode cX8_seatFoes 23 = .ok (.aload_n 1, 1) := by decide +kernel
theorem dX8_seatFoes_24 : decode cX8_seatFoes 24 = .ok (.iload_n 2, 1) := by decide +kernel
theorem dX8_seatFoes_25 : decode cX8_seatFoes 25 = .ok (.invokevirtual 111, 3) := by decide +kernel
theorem dX8_seatFoes_28 : decode cX8_seatFoes 28 = .ok (.iconst 0, 1) := by decide +kernel
theorem dX8_seatFoes_29 : decode cX8_seatFoes 29 = .ok (.invokevirtual 288, 3) := by decide +kernel
theorem dX8_seatFoes_32 : decode cX8_seatFoes 32 = .ok (.iinc 2 1, 3) := by decide +kernel
theorem dX8_seatFoes_35 : decode cX8_seatFoes 35 = .ok (.goto (-33), 3) := by decide +kernel
theorem dX8_seatFoes_38 : decode cX8_seatFoes 38 = .ok (.return_, 1) := by decide +kernel
theorem dX8_reckonFight_0 : decode cX8_reckonFight 0 = .ok (.aload_n 0, 1) := by decide +kernel
theorem dX8_reckonFight_1 : decode cX8_reckonFight 1 = .ok (.invokevirtual 214, 3) := by decide +kernel
theorem dX8_reckonFight_4 : decode cX8_reckonFight 4 = .ok (.aload_n 0, 1) := by decide +kernel
theorem dX8_reckonFight_5 : decode cX8_reckonFight 5 = .ok (.getfield 32, 3) := by decide +kernel
theorem dX8_reckonFight_8 : decode cX8_reckonFight 8 = .ok (.aload_n 0, 1) := by decide +kernel
theorem dX8_reckonFight_9 : decode cX8_reckonFight 9 = .ok (.getfield 25, 3) := by decide +kernel
theorem dX8_reckonFight_12 : decode cX8_reckonFight 12 = .ok (.invokevirtual 168, 3) := by decide +kernel
theorem dX8_reckonFight_15 : decode cX8_reckonFight 15 = .ok (.ireturn, 1) := by decide +kernel
theorem dX8_chanceAgainst_0 : decode cX8_chanceAgainst 0 = .ok (.aload_n 0, 1) := by decide +kernel
theorem dX8_chanceAgainst_1 : decode cX8_chanceAgainst 1 = .ok (.getfield 25, 3) := by decide +kernel
theorem dX8_chanceAgainst_4 : decode cX8_chanceAgainst 4 = .ok (.aload_n 0, 1) := by decide +kernel
theorem dX8_chanceAgainst_5 : decode cX8_chanceAgainst 5 = .ok (.getfield 60, 3) := by decide +kernel
theorem dX8_chanceAgainst_8 : decode cX8_chanceAgainst 8 = .ok (.aload_n 0, 1) := by decide +kernel
theorem dX8_chanceAgainst_9 : decode cX8_chanceAgainst 9 = .ok (.getfield 64, 3) := by decide +kernel
theorem dX8_chanceAgainst_12 : decode cX8_chanceAgainst 12 = .ok (.aload_n 0, 1) := by decide +kernel
theorem dX8_chanceAgainst_13 : decode cX8_chanceAgainst 13 = .ok (.getfield 67, 3) := by decide +kernel
theorem dX8_chanceAgainst_16 : decode cX8_chanceAgainst 16 = .ok (.invokevirtual 157, 3) := by decide +kernel
theorem dX8_chanceAgainst_19 : decode cX8_chanceAgainst 19 = .ok (.aload_n 0, 1) := by decide +kernel
theorem dX8_chanceAgainst_20 : decode cX8_chanceAgainst 20 = .ok (.iconst (-1), 1) := by decide +kernel
theorem dX8_chanceAgainst_21 : decode cX8_chanceAgainst 21 = .ok (.iload_n 2, 1) := by decide +kernel
theorem dX8_chanceAgainst_22 : decode cX8_chanceAgainst 22 = .ok (.invokevirtual 160, 3) := by decide +kernel
theorem dX8_chanceAgainst_25 : decode cX8_chanceAgainst 25 = .ok (.aload_n 0, 1) := by decide +kernel
theorem dX8_chanceAgainst_26 : decode cX8_chanceAgainst 26 = .ok (.aload_n 1, 1) := by decide +kernel
theorem dX8_chanceAgainst_27 : decode cX8_chanceAgainst 27 = .ok (.invokevirtual 164, 3) := by decide +kernel
theorem dX8_chanceAgainst_30 : decode cX8_chanceAgainst 30 = .ok (.aload_n 0, 1) := by decide +kernel
theorem dX8_chanceAgainst_31 : decode cX8_chanceAgainst 31 = .ok (.getfield 32, 3) := by decide +kernel
theorem dX8_chanceAgainst_34 : decode cX8_chanceAgainst 34 = .ok (.aload_n 0, 1) := by decide +kernel
theorem dX8_chanceAgainst_35 : decode cX8_chanceAgainst 35 = .ok (.getfield 25, 3) := by decide +kernel
theorem dX8_chanceAgainst_38 : decode cX8_chanceAgainst 38 = .ok (.invokevirtual 168, 3) := by decide +kernel
theorem dX8_chanceAgainst_41 : decode cX8_chanceAgainst 41 = .ok (.ifCond .eq 13, 3) := by decide +kernel
theorem dX8_chanceAgainst_44 : decode cX8_chanceAgainst 44 = .ok (.aload_n 0, 1) := by decide +kernel
theorem dX8_chanceAgainst_45 : decode cX8_chanceAgainst 45 = .ok (.getfield 32, 3) := by decide +kernel
theorem dX8_chanceAgainst_48 : decode cX8_chanceAgainst 48 = .ok (.invokevirtual 135, 3) := by decide +kernel
theorem dX8_chanceAgainst_51 : decode cX8_chanceAgainst 51 = .ok (.goto 5, 3) := by decide +kernel
theorem dX8_chanceAgainst_54 : decode cX8_chanceAgainst 54 = .ok (.bipush (-5), 2) := by decide +kernel
theorem dX8_chanceAgainst_56 : decode cX8_chanceAgainst 56 = .ok (.ireturn, 1) := by decide +kernel
theorem dX8_reckonDay_0 : decode cX8_reckonDay 0 = .ok (.aload_n 0, 1) := by decide +kernel
theorem dX8_reckonDay_1 : decode cX8_reckonDay 1 = .ok (.getfield 39, 3) := by decide +kernel
theorem dX8_reckonDay_4 : decode cX8_reckonDay 4 = .ok (.getfield 172, 3) := by decide +kernel
theorem dX8_reckonDay_7 : decode cX8_reckonDay 7 = .ok (.ifCond .eq 15, 3) := by decide +kernel
theorem dX8_reckonDay_10 : decode cX8_reckonDay 10 = .ok (.aload_n 0, 1) := by decide +kernel
theorem dX8_reckonDay_11 : decode cX8_reckonDay 11 = .ok (.getfield 18, 3) := by decide +kernel
theorem dX8_reckonDay_14 : decode cX8_reckonDay 14 = .ok (.iconst 0, 1) := by decide +kernel
theorem dX8_reckonDay_15 : decode cX8_reckonDay 15 = .ok (.aaload, 1) := by decide +kernel
theorem dX8_reckonDay_16 : decode cX8_reckonDay 16 = .ok (.getfield 118, 3) := by decide +kernel
theorem dX8_reckonDay_19 : decode cX8_reckonDay 19 = .ok (.ifCond .ne 6, 3) := by decide +kernel
theorem dX8_reckonDay_22 : decode cX8_reckonDay 22 = .ok (.bipush (-3), 2) := by decide +kernel
theorem dX8_reckonDay_24 : decode cX8_reckonDay 24 = .ok (.ireturn, 1) := by decide +kernel
theorem dX8_reckonDay_25 : decode cX8_reckonDay 25 = .ok (.iconst 0, 1) := by decide +kernel
theorem dX8_reckonDay_26 : decode cX8_reckonDay 26 = .ok (.istore_n 1, 1) := by decide +kernel
theorem dX8_reckonDay_27 : decode cX8_reckonDay 27 = .ok (.iload_n 1, 1) := by decide +kernel
theorem dX8_reckonDay_28 : decode cX8_reckonDay 28 = .ok (.aload_n 0, 1) := by decide +kernel
theorem dX8_reckonDay_29 : decode cX8_reckonDay 29 = .ok (.getfield 39, 3) := by decide +kernel
theorem dX8_reckonDay_32 : decode cX8_reckonDay 32 = .ok (.getfield 172, 3) := by decide +kernel
theorem dX8_reckonDay_35 : decode cX8_reckonDay 35 = .ok (.if_icmp .ge 92, 3) := by decide +kernel
theorem dX8_reckonDay_38 : decode cX8_reckonDay 38 = .ok (.aload_n 0, 1) := by decide +kernel
theorem dX8_reckonDay_39 : decode cX8_reckonDay 39 = .ok (.getfield 39, 3) := by decide +kernel
theorem dX8_reckonDay_42 : decode cX8_reckonDay 42 = .ok (.getfield 292, 3) := by decide +kernel
theorem dX8_reckonDay_45 : decode cX8_reckonDay 45 = .ok (.iload_n 1, 1) := by decide +kernel
theorem dX8_reckonDay_46 : decode cX8_reckonDay 46 = .ok (.aload_n 0, 1) := by decide +kernel
theorem dX8_reckonDay_47 : decode cX8_reckonDay 47 = .ok (.aload_n 0, 1) := by decide +kernel
theorem dX8_reckonDay_48 : decode cX8_reckonDay 48 = .ok (.getfield 39, 3) := by decide +kernel
theorem dX8_reckonDay_51 : decode cX8_reckonDay 51 = .ok (.getfield 173, 3) := by decide +kernel
theorem dX8_reckonDay_54 : decode cX8_reckonDay 54 = .ok (.iload_n 1, 1) := by decide +kernel
theorem dX8_reckonDay_55 : decode cX8_reckonDay 55 = .ok (.aaload, 1) := by decide +kernel
theorem dX8_reckonDay_56 : decode cX8_reckonDay 56 = .ok (.iconst 0, 1) := by decide +kernel
theorem dX8_reckonDay_57 : decode cX8_reckonDay 57 = .ok (.invokevirtual 191, 3) := by decide +kernel
theorem dX8_reckonDay_60 : decode cX8_reckonDay 60 = .ok (.iastore, 1) := by decide +kernel
theorem dX8_reckonDay_61 : decode cX8_reckonDay 61 = .ok (.aload_n 0, 1) := by decide +kernel
theorem dX8_reckonDay_62 : decode cX8_reckonDay 62 = .ok (.getfield 39, 3) := by decide +kernel
theorem dX8_reckonDay_65 : decode cX8_reckonDay 65 = .ok (.getfield 295, 3) := by decide +kernel
theorem dX8_reckonDay_68 : decode cX8_reckonDay 68 = .ok (.iload_n 1, 1) := by decide +kernel
theorem dX8_reckonDay_69 : decode cX8_reckonDay 69 = .ok (.aload_n 0, 1) := by decide +kernel
theorem dX8_reckonDay_70 : decode cX8_reckonDay 70 = .ok (.aload_n 0, 1) := by decide +kernel
theorem dX8_reckonDay_71 : decode cX8_reckonDay 71 = .ok (.getfield 39, 3) := by decide +kernel
theorem dX8_reckonDay_74 : decode cX8_reckonDay 74 = .ok (.getfield 173, 3) := by decide +kernel
theorem dX8_reckonDay_77 : decode cX8_reckonDay 77 = .ok (.iload_n 1, 1) := by decide +kernel
theorem dX8_reckonDay_78 : decode cX8_reckonDay 78 = .ok (.aaload, 1) := by decide +kernel
theorem dX8_reckonDay_79 : decode cX8_reckonDay 79 = .ok (.aload_n 0, 1) := by decide +kernel
theorem dX8_reckonDay_80 : decode cX8_reckonDay 80 = .ok (.getfield 39, 3) := by decide +kernel
theorem dX8_reckonDay_83 : decode cX8_reckonDay 83 = .ok (.getfield 179, 3) := by decide +kernel
theorem dX8_reckonDay_86 : decode cX8_reckonDay 86 = .ok (.invokevirtual 191, 3) := by decide +kernel
theorem dX8_reckonDay_89 : decode cX8_reckonDay 89 = .ok (.iastore, 1) := by decide +kernel
theorem dX8_reckonDay_90 : decode cX8_reckonDay 90 = .ok (.aload_n 0, 1) := by decide +kernel
theorem dX8_reckonDay_91 : decode cX8_reckonDay 91 = .ok (.getfield 39, 3) := by decide +kernel
theorem dX8_reckonDay_94 : decode cX8_reckonDay 94 = .ok (.getfield 292, 3) := by decide +kernel
theorem dX8_reckonDay_97 : decode cX8_reckonDay 97 = .ok (.iload_n 1, 1) := by decide +kernel
theorem dX8_reckonDay_98 : decode cX8_reckonDay 98 = .ok (.iaload, 1) := by decide +kernel
theorem dX8_reckonDay_99 : decode cX8_reckonDay 99 = .ok (.bipush (-5), 2) := by decide +kernel
theorem dX8_reckonDay_101 : decode cX8_reckonDay 101 = .ok (.if_icmp .eq 17, 3) := by decide +kernel
theorem dX8_reckonDay_104 : decode cX8_reckonDay 104 = .ok (.aload_n 0, 1) := by decide +kernel
theorem dX8_reckonDay_105 : decode cX8_reckonDay 105 = .ok (.getfield 39, 3) := by decide +kernel
theorem dX8_reckonDay_108 : decode cX8_reckonDay 108 = .ok (.getfield 295, 3) := by decide +kernel
theorem dX8_reckonDay_111 : decode cX8_reckonDay 111 = .ok (.iload_n 1, 1) := by decide +kernel
theorem dX8_reckonDay_112 : decode cX8_reckonDay 112 = .ok (.iaload, 1) := by decide +kernel
theorem dX8_reckonDay_113 : decode cX8_reckonDay 113 = .ok (.bipush (-5), 2) := by decide +kernel
theorem dX8_reckonDay_115 : decode cX8_reckonDay 115 = .ok (.if_icmp .ne 6, 3) := by decide +kernel
theorem dX8_reckonDay_118 : decode cX8_reckonDay 118 = .ok (.bipush (-5), 2) := by decide +kernel
theorem dX8_reckonDay_120 : decode cX8_reckonDay 120 = .ok (.ireturn, 1) := by decide +kernel
theorem dX8_reckonDay_121 : decode cX8_reckonDay 121 = .ok (.iinc 1 1, 3) := by decide +kernel
theorem dX8_reckonDay_124 : decode cX8_reckonDay 124 = .ok (.goto (-97), 3) := by decide +kernel
theorem dX8_reckonDay_127 : decode cX8_reckonDay 127 = .ok (.iconst 0, 1) := by decide +kernel
theorem dX8_reckonDay_128 : decode cX8_reckonDay 128 = .ok (.ireturn, 1) := by decide +kernel
theorem dX8_tryBand_0 : decode cX8_tryBand 0 = .ok (.aload_n 0, 1) := by decide +kernel
theorem dX8_tryBand_1 : decode cX8_tryBand 1 = .ok (.getfield 25, 3) := by decide +kernel
theorem dX8_tryBand_4 : decode cX8_tryBand 4 = .ok (.aload_n 0, 1) := by decide +kernel
theorem dX8_tryBand_5 : decode cX8_tryBand 5 = .ok (.getfield 60, 3) := by decide +kernel
theorem dX8_tryBand_8 : decode cX8_tryBand 8 = .ok (.aload_n 0, 1) := by decide +kernel
theorem dX8_tryBand_9 : decode cX8_tryBand 9 = .ok (.getfield 64, 3) := by decide +kernel
theorem dX8_tryBand_12 : decode cX8_tryBand 12 = .ok (.aload_n 0, 1) := by decide +kernel
theorem dX8_tryBand_13 : decode cX8_tryBand 13 = .ok (.getfield 67, 3) := by decide +kernel
theorem dX8_tryBand_16 : decode cX8_tryBand 16 = .ok (.invokevirtual 157, 3) := by decide +kernel
theorem dX8_tryBand_19 : decode cX8_tryBand 19 = .ok (.aload_n 0, 1) := by decide +kernel
theorem dX8_tryBand_20 : decode cX8_tryBand 20 = .ok (.iconst (-1), 1) := by decide +kernel
theorem dX8_tryBand_21 : decode cX8_tryBand 21 = .ok (.iconst 0, 1) := by decide +kernel
theorem dX8_tryBand_22 : decode cX8_tryBand 22 = .ok (.invokevirtual 160, 3) := by decide +kernel
theorem dX8_tryBand_25 : decode cX8_tryBand 25 = .ok (.aload_n 0, 1) := by decide +kernel
theorem dX8_tryBand_26 : decode cX8_tryBand 26 = .ok (.getfield 25, 3) := by decide +kernel
theorem dX8_tryBand_29 : decode cX8_tryBand 29 = .ok (.iconst 1, 1) := by decide +kernel
theorem dX8_tryBand_30 : decode cX8_tryBand 30 = .ok (.iconst 0, 1) := by decide +kernel
theorem dX8_tryBand_31 : decode cX8_tryBand 31 = .ok (.invokestatic 139, 3) := by decide +kernel
theorem dX8_tryBand_34 : decode cX8_tryBand 34 = .ok (.aload_n 0, 1) := by decide +kernel
theorem dX8_tryBand_35 : decode cX8_tryBand 35 = .ok (.getfield 10, 3) := by decide +kernel
theorem dX8_tryBand_38 : decode cX8_tryBand 38 = .ok (.iload_n 1, 1) := by decide +kernel
theorem dX8_tryBand_39 : decode cX8_tryBand 39 = .ok (.iconst 0, 1) := by decide +kernel
theorem dX8_tryBand_40 : decode cX8_tryBand 40 = .ok (.invokevirtual 288, 3) := by decide +kernel
theorem dX8_tryBand_43 : decode cX8_tryBand 43 = .ok (.iload_n 2, 1) := by decide +kernel
theorem dX8_tryBand_44 : decode cX8_tryBand 44 = .ok (.iconst (-1), 1) := by decide +kernel
theorem dX8_tryBand_45 : decode cX8_tryBand 45 = .ok (.if_icmp .eq 21, 3) := by decide +kernel
theorem dX8_tryBand_48 : decode cX8_tryBand 48 = .ok (.aload_n 0, 1) := by decide +kernel
theorem dX8_tryBand_49 : decode cX8_tryBand 49 = .ok (.getfield 25, 3) := by decide +kernel
theorem dX8_tryBand_52 : decode cX8_tryBand 52 = .ok (.iconst 1, 1) := by decide +kernel
theorem dX8_tryBand_53 : decode cX8_tryBand 53 = .ok (.iconst 1, 1) := by decide +kernel
theorem dX8_tryBand_54 : decode cX8_tryBand 54 = .ok (.invokestatic 139, 3) := by decide +kernel
theorem dX8_tryBand_57 : decode cX8_tryBand 57 = .ok (.aload_n 0, 1) := by decide +kernel
theorem dX8_tryBand_58 : decode cX8_tryBand 58 = .ok (.getfield 10, 3) := by decide +kernel
theorem dX8_tryBand_61 : decode cX8_tryBand 61 = .ok (.iload_n 2, 1) := by decide +kernel
theorem dX8_tryBand_62 : decode cX8_tryBand 62 = .ok (.iconst 0, 1) := by decide +kernel
theorem dX8_tryBand_63 : decode cX8_tryBand 63 = .ok (.invokevirtual 288, 3) := by decide +kernel
theorem dX8_tryBand_66 : decode cX8_tryBand 66 = .ok (.aload_n 0, 1) := by decide +kernel
theorem dX8_tryBand_67 : decode cX8_tryBand 67 = .ok (.getfield 32, 3) := by decide +kernel
theorem dX8_tryBand_70 : decode cX8_tryBand 70 = .ok (.aload_n 0, 1) := by decide +kernel
theorem dX8_tryBand_71 : decode cX8_tryBand 71 = .ok (.getfield 25, 3) := by decide +kernel
theorem dX8_tryBand_74 : decode cX8_tryBand 74 = .ok (.invokevirtual 168, 3) := by decide +kernel
theorem dX8_tryBand_77 : decode cX8_tryBand 77 = .ok (.ifCond .eq 13, 3) := by decide +kernel
theorem dX8_tryBand_80 : decode cX8_tryBand 80 = .ok (.aload_n 0, 1) := by decide +kernel
theorem dX8_tryBand_81 : decode cX8_tryBand 81 = .ok (.getfield 32, 3) := by decide +kernel
theorem dX8_tryBand_84 : decode cX8_tryBand 84 = .ok (.invokevirtual 135, 3) := by decide +kernel
theorem dX8_tryBand_87 : decode cX8_tryBand 87 = .ok (.goto 5, 3) := by decide +kernel
theorem dX8_tryBand_90 : decode cX8_tryBand 90 = .ok (.bipush (-5), 2) := by decide +kernel
theorem dX8_tryBand_92 : decode cX8_tryBand 92 = .ok (.istore 5, 2) := by decide +kernel
theorem dX8_tryBand_94 : decode cX8_tryBand 94 = .ok (.iload 5, 2) := by decide +kernel
theorem dX8_tryBand_96 : decode cX8_tryBand 96 = .ok (.iload_n 3, 1) := by decide +kernel
theorem dX8_tryBand_97 : decode cX8_tryBand 97 = .ok (.if_icmp .lt 63, 3) := by decide +kernel
theorem dX8_tryBand_100 : decode cX8_tryBand 100 = .ok (.iload 5, 2) := by decide +kernel
theorem dX8_tryBand_102 : decode cX8_tryBand 102 = .ok (.iload 4, 2) := by decide +kernel
theorem dX8_tryBand_104 : decode cX8_tryBand 104 = .ok (.if_icmp .gt 56, 3) := by decide +kernel
theorem dX8_tryBand_107 : decode cX8_tryBand 107 = .ok (.aload_n 0, 1) := by decide +kernel
theorem dX8_tryBand_108 : decode cX8_tryBand 108 = .ok (.getfield 70, 3) := by decide +kernel
theorem dX8_tryBand_111 : decode cX8_tryBand 111 = .ok (.aload_n 0, 1) := by decide +kernel
theorem dX8_tryBand_112 : decode cX8_tryBand 112 = .ok (.getfield 43, 3) := by decide +kernel
theorem dX8_tryBand_115 : decode cX8_tryBand 115 = .ok (.arraylength, 1) := by decide +kernel
theorem dX8_tryBand_116 : decode cX8_tryBand 116 = .ok (.if_icmp .ge 44, 3) := by decide +kernel
theorem dX8_tryBand_119 : decode cX8_tryBand 119 = .ok (.aload_n 0, 1) := by decide +kernel
theorem dX8_tryBand_120 : decode cX8_tryBand 120 = .ok (.getfield 43, 3) := by decide +kernel
theorem dX8_tryBand_123 : decode cX8_tryBand 123 = .ok (.aload_n 0, 1) := by decide +kernel
theorem dX8_tryBand_124 : decode cX8_tryBand 124 = .ok (.getfield 70, 3) := by decide +kernel
theorem dX8_tryBand_127 : decode cX8_tryBand 127 = .ok (.iload_n 2, 1) := by decide +kernel
theorem dX8_tryBand_128 : decode cX8_tryBand 128 = .ok (.iconst (-1), 1) := by decide +kernel
theorem dX8_tryBand_129 : decode cX8_tryBand 129 = .ok (.if_icmp .ne 14, 3) := by decide +kernel
theorem dX8_tryBand_132 : decode cX8_tryBand 132 = .ok (.sipush 256, 3) := by decide +kernel
theorem dX8_tryBand_135 : decode cX8_tryBand 135 = .ok (.bipush 16, 2) := by decide +kernel
theorem dX8_tryBand_137 : decode cX8_tryBand 137 = .ok (.iload_n 1, 1) := by decide +kernel
theorem dX8_tryBand_138 : decode cX8_tryBand 138 = .ok (.imul, 1) := by decide +kernel
theorem dX8_tryBand_139 : decode cX8_tryBand 139 = .ok (.iadd, 1) := by decide +kernel
theorem dX8_tryBand_140 : decode cX8_tryBand 140 = .ok (.goto 9, 3) := by decide +kernel
theorem dX8_tryBand_143 : decode cX8_tryBand 143 = .ok (.bipush 16, 2) := by decide +kernel
theorem dX8_tryBand_145 : decode cX8_tryBand 145 = .ok (.iload_n 1, 1) := by decide +kernel
theorem dX8_tryBand_146 : decode cX8_tryBand 146 = .ok (.imul, 1) := by decide +kernel
theorem dX8_tryBand_147 : decode cX8_tryBand 147 = .ok (.iload_n 2, 1) := by decide +kernel
theorem dX8_tryBand_148 : decode cX8_tryBand 148 = .ok (.iadd, 1) := by decide +kernel
theorem dX8_tryBand_149 : decode cX8_tryBand 149 = .ok (.iastore, 1) := by decide +kernel
theorem dX8_tryBand_150 : decode cX8_tryBand 150 = .ok (.aload_n 0, 1) := by decide +kernel
theorem dX8_tryBand_151 : decode cX8_tryBand 151 = .ok (.dup, 1) := by decide +kernel
theorem dX8_tryBand_152 : decode cX8_tryBand 152 = .ok (.getfield 70, 3) := by decide +kernel
theorem dX8_tryBand_155 : decode cX8_tryBand 155 = .ok (.iconst 1, 1) := by decide +kernel
theorem dX8_tryBand_156 : decode cX8_tryBand 156 = .ok (.iadd, 1) := by decide +kernel
theorem dX8_tryBand_157 : decode cX8_tryBand 157 = .ok (.putfield 70, 3) := by decide +kernel
theorem dX8_tryBand_160 : decode cX8_tryBand 160 = .ok (.return_, 1) := by decide +kernel
theorem dX9_init_0 : decode cX9_init 0 = .ok (.aload_n 0, 1) := by decide +kernel
theorem dX9_init_1 : decode cX9_init 1 = .ok (.invokespecial 1, 3) := by decide +kernel
theorem dX9_init_4 : decode cX9_init 4 = .ok (.aload_n 0, 1) := by decide +kernel
theorem dX9_init_5 : decode cX9_init 5 = .ok (.bipush 96, 2) := by decide +kernel
theorem dX9_init_7 : decode cX9_init 7 = .ok (.newarray .int, 2) := by decide +kernel
theorem dX9_init_9 : decode cX9_init 9 = .ok (.putfield 7, 3) := by decide +kernel
theorem dX9_init_12 : decode cX9_init 12 = .ok (.aload_n 0, 1) := by decide +kernel
theorem dX9_init_13 : decode cX9_init 13 = .ok (.bipush 6, 2) := by decide +kernel
theorem dX9_init_15 : decode cX9_init 15 = .ok (.newarray .int, 2) := by decide +kernel
theorem dX9_init_17 : decode cX9_init 17 = .ok (.putfield 13, 3) := by decide +kernel
theorem dX9_init_20 : decode cX9_init 20 = .ok (.aload_n 0, 1) := by decide +kernel
theorem dX9_init_21 : decode cX9_init 21 = .ok (.iconst 3, 1) := by decide +kernel
theorem dX9_init_22 : decode cX9_init 22 = .ok (.putfield 16, 3) := by decide +kernel
theorem dX9_init_25 : decode cX9_init 25 = .ok (.aload_n 0, 1) := by decide +kernel
theorem dX9_init_26 : decode cX9_init 26 = .ok (.iconst (-1), 1) := by decide +kernel
theorem dX9_init_27 : decode cX9_init 27 = .ok (.putfield 20, 3) := by decide +kernel
theorem dX9_init_30 : decode cX9_init 30 = .ok (.aload_n 0, 1) := by decide +kernel
theorem dX9_init_31 : decode cX9_init 31 = .ok (.bipush 6, 2) := by decide +kernel
theorem dX9_init_33 : decode cX9_init 33 = .ok (.newarray .int, 2) := by decide +kernel
theorem dX9_init_35 : decode cX9_init 35 = .ok (.putfield 23, 3) := by decide +kernel
theorem dX9_init_38 : decode cX9_init 38 = .ok (.aload_n 0, 1) := by decide +kernel
theorem dX9_init_39 : decode cX9_init 39 = .ok (.bipush 6, 2) := by decide +kernel
theorem dX9_init_41 : decode cX9_init 41 = .ok (.newarray .int, 2) := by decide +kernel
theorem dX9_init_43 : decode cX9_init 43 = .ok (.putfield 26, 3) := by decide +kernel
theorem dX9_init_46 : decode cX9_init 46 = .ok (.aload_n 0, 1) := by decide +kernel
theorem dX9_init_47 : decode cX9_init 47 = .ok (.bipush 6, 2) := by decide +kernel
theorem dX9_init_49 : decode cX9_init 49 = .ok (.newarray .int, 2) := by decide +kernel
theorem dX9_init_51 : decode cX9_init 51 = .ok (.putfield 29, 3) := by decide +kernel
theorem dX9_init_54 : decode cX9_init 54 = .ok (.aload_n 0, 1) := by decide +kernel
theorem dX9_init_55 : decode cX9_init 55 = .ok (.bipush 6, 2) := by decide +kernel
theorem dX9_init_57 : decode cX9_init 57 = .ok (.newarray .int, 2) := by decide +kernel
theorem dX9_init_59 : decode cX9_init 59 = .ok (.putfield 32, 3) := by decide +kernel
theorem dX9_init_62 : decode cX9_init 62 = .ok (.aload_n 0, 1) := by decide +kernel
theorem dX9_init_63 : decode cX9_init 63 = .ok (.bipush 6, 2) := by decide +kernel
theorem dX9_init_65 : decode cX9_init 65 = .ok (.newarray .boolean, 2) := by decide +kernel
theorem dX9_init_67 : decode cX9_init 67 = .ok (.putfield 35, 3) := by decide +kernel
theorem dX9_init_70 : decode cX9_init 70 = .ok (.aload_n 0, 1) := by decide +kernel
theorem dX9_init_71 : decode cX9_init 71 = .ok (.sipush 400, 3) := by decide +kernel
theorem dX9_init_74 : decode cX9_init 74 = .ok (.newarray .long, 2) := by decide +kernel
theorem dX9_init_76 : decode cX9_init 76 = .ok (.putfield 39, 3) := by decide +kernel
theorem dX9_init_79 : decode cX9_init 79 = .ok (.aload_n 0, 1) := by decide +kernel
theorem dX9_init_80 : decode cX9_init 80 = .ok (.sipush 400, 3) := by decide +kernel
theorem dX9_init_83 : decode cX9_init 83 = .ok (.newarray .long, 2) := by decide +kernel
theorem dX9_init_85 : decode cX9_init 85 = .ok (.putfield 43, 3) := by decide +kernel
theorem dX9_init_88 : decode cX9_init 88 = .ok (.aload_n 0, 1) := by decide +kernel
theorem dX9_init_89 : decode cX9_init 89 = .ok (.sipush 800, 3) := by decide +kernel
theorem dX9_init_92 : decode cX9_init 92 = .ok (.newarray .long, 2) := by decide +kernel
theorem dX9_init_94 : decode cX9_init 94 = .ok (.putfield 46, 3) := by decide +kernel
theorem dX9_init_97 : decode cX9_init 97 = .ok (.aload_n 0, 1) := by decide +kernel
theorem dX9_init_98 : decode cX9_init 98 = .ok (.sipush 800, 3) := by decide +kernel
theorem dX9_init_101 : decode cX9_init 101 = .ok (.newarray .long, 2) := by decide +kernel
theorem dX9_init_103 : decode cX9_init 103 = .ok (.putfield 49, 3) := by decide +kernel
theorem dX9_init_106 : decode cX9_init 106 = .ok (.aload_n 0, 1) := by decide +kernel
theorem dX9_init_107 : decode cX9_init 107 = .ok (.sipush 2048, 3) := by decide +kernel
theorem dX9_init_110 : decode cX9_init 110 = .ok (.newarray .int, 2) := by decide +kernel
theorem dX9_init_112 : decode cX9_init 112 = .ok (.putfield 52, 3) := by decide +kernel
theorem dX9_init_115 : decode cX9_init 115 = .ok (.aload_n 0, 1) := by decide +kernel
theorem dX9_init_116 : decode cX9_init 116 = .ok (.iconst 3, 1) := by decide +kernel
theorem dX9_init_117 : decode cX9_init 117 = .ok (.newarray .long, 2) := by decide +kernel
theorem dX9_init_119 : decode cX9_init 119 = .ok (.putfield 55, 3) := by decide +kernel
theorem dX9_init_122 : decode cX9_init 122 = .ok (.aload_n 0, 1) := by decide +kernel
theorem dX9_init_123 : decode cX9_init 123 = .ok (.bipush 7, 2) := by decide +kernel
theorem dX9_init_125 : decode cX9_init 125 = .ok (.newarray .long, 2) := by decide +kernel
theorem dX9_init_127 : decode cX9_init 127 = .ok (.putfield 58, 3) := by decide +kernel
theorem dX9_init_130 : decode cX9_init 130 = .ok (.aload_n 0, 1) := by decide +kernel
theorem dX9_init_131 : decode cX9_init 131 = .ok (.sipush 252, 3) := by decide +kernel
theorem dX9_init_134 : decode cX9_init 134 = .ok (.newarray .long, 2) := by decide +kernel
theorem dX9_init_136 : decode cX9_init 136 = .ok (.putfield 61, 3) := by decide +kernel
theorem dX9_init_139 : decode cX9_init 139 = .ok (.aload_n 0, 1) := by decide +kernel
theorem dX9_init_140 : decode cX9_init 140 = .ok (.bipush 24, 2) := by decide +kernel
theorem dX9_init_142 : decode cX9_init 142 = .ok (.newarray .long, 2) := by decide +kernel
theorem dX9_init_144 : decode cX9_init 144 = .ok (.putfield 64, 3) := by decide +kernel
theorem dX9_init_147 : decode cX9_init 147 = .ok (.aload_n 0, 1) := by decide +kernel
theorem dX9_init_148 : decode cX9_init 148 = .ok (.bipush 18, 2) := by decide +kernel
theorem dX9_init_150 : decode cX9_init 150 = .ok (.newarray .int, 2) := by decide +kernel
theorem dX9_init_152 : decode cX9_init 152 = .ok (.putfield 67, 3) := by decide +kernel
theorem dX9_init_155 : decode cX9_init 155 = .ok (.aload_n 0, 1) := by decide +kernel
theorem dX9_init_156 : decode cX9_init 156 = .ok (.iconst 1, 1) := by decide +kernel
theorem dX9_init_157 : decode cX9_init 157 = .ok (.putfield 70, 3) := by decide +kernel
theorem dX9_init_160 : decode cX9_init 160 = .ok (.aload_n 0, 1) := by decide +kernel
theorem dX9_init_161 : decode cX9_init 161 = .ok (.iconst 1, 1) := by decide +kernel
theorem dX9_init_162 : decode cX9_init 162 = .ok (.putfield 73, 3) := by decide +kernel
theorem dX9_init_165 : decode cX9_init 165 = .ok (.aload_n 0, 1) := by decide +kernel
theorem dX9_init_166 : decode cX9_init 166 = .ok (.bipush 12, 2) := by decide +kernel
theorem dX9_init_168 : decode cX9_init 168 = .ok (.newarray .int, 2) := by decide +kernel
theorem dX9_init_170 : decode cX9_init 170 = .ok (.putfield 76, 3) := by decide +kernel
theorem dX9_init_173 : decode cX9_init 173 = .ok (.aload_n 0, 1) := by decide +kernel
theorem dX9_init_174 : decode cX9_init 174 = .ok (.bipush 27, 2) := by decide +kernel
theorem dX9_init_176 : decode cX9_init 176 = .ok (.newarray .int, 2) := by decide +kernel
theorem dX9_init_178 : decode cX9_init 178 = .ok (.putfield 79, 3) := by decide +kernel
theorem dX9_init_181 : decode cX9_init 181 = .ok (.aload_n 0, 1) := by decide +kernel
theorem dX9_init_182 : decode cX9_init 182 = .ok (.iconst 3, 1) := by decide +kernel
theorem dX9_init_183 : decode cX9_init 183 = .ok (.newarray .int, 2) := by decide +kernel
theorem dX9_init_185 : decode cX9_init 185 = .ok (.putfield 82, 3) := by decide +kernel
theorem dX9_init_188 : decode cX9_init 188 = .ok (.aload_n 0, 1) := by decide +kernel
theorem dX9_init_189 : decode cX9_init 189 = .ok (.bipush 6, 2) := by decide +kernel
theorem dX9_init_191 : decode cX9_init 191 = .ok (.newarray .int, 2) := by decide +kernel
theorem dX9_init_193 : decode cX9_init 193 = .ok (.putfield 85, 3) := by decide +kernel
theorem dX9_init_196 : decode cX9_init 196 = .ok (.aload_n 0, 1) := by decide +kernel
theorem dX9_init_197 : decode cX9_init 197 = .ok (.bipush 6, 2) := by decide +kernel
theorem dX9_init_199 : decode cX9_init 199 = .ok (.newarray .int, 2) := by decide +kernel
theorem dX9_init_201 : decode cX9_init 201 = .ok (.putfield 88, 3) := by decide +kernel
theorem dX9_init_204 : decode cX9_init 204 = .ok (.aload_n 0, 1) := by decide +kernel
theorem dX9_init_205 : decode cX9_init 205 = .ok (.iconst 4, 1) := by decide +kernel
theorem dX9_init_206 : decode cX9_init 206 = .ok (.newarray .int, 2) := by decide +kernel
theorem dX9_init_208 : decode cX9_init 208 = .ok (.putfield 91, 3) := by decide +kernel
theorem dX9_init_211 : decode cX9_init 211 = .ok (.aload_n 0, 1) := by decide +kernel
theorem dX9_init_212 : decode cX9_init 212 = .ok (.iconst 4, 1) := by decide +kernel
theorem dX9_init_213 : decode cX9_init 213 = .ok (.newarray .int, 2) := by decide +kernel
theorem dX9_init_215 : decode cX9_init 215 = .ok (.putfield 94, 3) := by decide +kernel
theorem dX9_init_218 : decode cX9_init 218 = .ok (.aload_n 0, 1) := by decide +kernel
theorem dX9_init_219 : decode cX9_init 219 = .ok (.sipush 240, 3) := by decide +kernel
theorem dX9_init_222 : decode cX9_init 222 = .ok (.newarray .int, 2) := by decide +kernel
theorem dX9_init_224 : decode cX9_init 224 = .ok (.putfield 97, 3) := by decide +kernel
theorem dX9_init_227 : decode cX9_init 227 = .ok (.aload_n 0, 1) := by decide +kernel
theorem dX9_init_228 : decode cX9_init 228 = .ok (.bipush 60, 2) := by decide +kernel
theorem dX9_init_230 : decode cX9_init 230 = .ok (.newarray .int, 2) := by decide +kernel
theorem dX9_init_232 : decode cX9_init 232 = .ok (.putfield 100, 3) := by decide +kernel
theorem dX9_init_235 : decode cX9_init 235 = .ok (.iconst 0, 1) := by decide +kernel
theorem dX9_init_236 : decode cX9_init 236 = .ok (.istore_n 1, 1) := by decide +kernel
theorem dX9_init_237 : decode cX9_init 237 = .ok (.iload_n 1, 1) := by decide +kernel
theorem dX9_init_238 : decode cX9_init 238 = .ok (.bipush 6, 2) := by decide +kernel
theorem dX9_init_240 : decode cX9_init 240 = .ok (.if_icmp .ge 23, 3) := by decide +kernel
theorem dX9_init_243 : decode cX9_init 243 = .ok (.aload_n 0, 1) := by decide +kernel
theorem dX9_init_244 : decode cX9_init 244 = .ok (.getfield 13, 3) := by decide +kernel
theorem dX9_init_247 : decode cX9_init 247 = .ok (.iload_n 1, 1) := by decide +kernel
theorem dX9_init_248 : decode cX9_init 248 = .ok (.iconst (-1), 1) := by decide +kernel
theorem dX9_init_249 : decode cX9_init 249 = .ok (.iastore, 1) := by decide +kernel
theorem dX9_init_250 : decode cX9_init 250 = .ok (.aload_n 0, 1) := by decide +kernel
theorem dX9_init_251 : decode cX9_init 251 = .ok (.getfield 85, 3) := by decide +kernel
theorem dX9_init_254 : decode cX9_init 254 = .ok (.iload_n 1, 1) := by decide +kernel
theorem dX9_init_255 : decode cX9_init 255 = .ok (.iconst (-1), 1) := by decide +kernel
theorem dX9_init_256 : decode cX9_init 256 = .ok (.iastore, 1) := by decide +kernel
theorem dX9_init_257 : decode cX9_init 257 = .ok (.iinc 1 1, 3) := by decide +kernel
theorem dX9_init_260 : decode cX9_init 260 = .ok (.goto (-23), 3) := by decide +kernel
theorem dX9_init_263 : decode cX9_init 263 = .ok (.iconst 0, 1) := by decide +kernel
theorem dX9_init_264 : decode cX9_init 264 = .ok (.istore_n 1, 1) := by decide +kernel
theorem dX9_init_265 : decode cX9_init 265 = .ok (.iload_n 1, 1) := by decide +kernel
theorem dX9_init_266 : decode cX9_init 266 = .ok (.iconst 4, 1) := by decide +kernel
theorem dX9_init_267 : decode cX9_init 267 = .ok (.if_icmp .ge 16, 3) := by decide +kernel
theorem dX9_init_270 : decode cX9_init 270 = .ok (.aload_n 0, 1) := by decide +kernel
theorem dX9_init_271 : decode cX9_init 271 = .ok (.getfield 91, 3) := by decide +kernel
theorem dX9_init_274 : decode cX9_init 274 = .ok (.iload_n 1, 1) := by decide +kernel
theorem dX9_init_275 : decode cX9_init 275 = .ok (.iconst (-1), 1) := by decide +kernel
theorem dX9_init_276 : decode cX9_init 276 = .ok (.iastore, 1) := by decide +kernel
theorem dX9_init_277 : decode cX9_init 277 = .ok (.iinc 1 1, 3) := by decide +kernel
theorem dX9_init_280 : decode cX9_init 280 = .ok (.goto (-15), 3) := by decide +kernel
theorem dX9_init_283 : decode cX9_init 283 = .ok (.return_, 1) := by decide +kernel
theorem dX9_in_0 : decode cX9_in 0 = .ok (.lload_n 0, 1) := by decide +kernel
theorem dX9_in_1 : decode cX9_in 1 = .ok (.lload_n 2, 1) := by decide +kernel
theorem dX9_in_2 : decode cX9_in 2 = .ok (.lcmp, 1) := by decide +kernel
theorem dX9_in_3 : decode cX9_in 3 = .ok (.ifCond .lt 14, 3) := by decide +kernel
theorem dX9_in_6 : decode cX9_in 6 = .ok (.lload_n 0, 1) := by decide +kernel
theorem dX9_in_7 : decode cX9_in 7 = .ok (.lload 4, 2) := by decide +kernel
theorem dX9_in_9 : decode cX9_in 9 = .ok (.lcmp, 1) := by decide +kernel
theorem dX9_in_10 : decode cX9_in 10 = .ok (.ifCond .gt 7, 3) := by decide +kernel
theorem dX9_in_13 : decode cX9_in 13 = .ok (.iconst 1, 1) := by decide +kernel
theorem dX9_in_14 : decode cX9_in 14 = .ok (.goto 4, 3) := by decide +kernel
theorem dX9_in_17 : decode cX9_in 17 = .ok (.iconst 0, 1) := by decide +kernel
theorem dX9_in_18 : decode cX9_in 18 = .ok (.ireturn, 1) := by decide +kernel
theorem dX9_no_0 : decode cX9_no 0 = .ok (.ldc2_w 103, 3) := by decide +kernel
theorem dX9_no_3 : decode cX9_no 3 = .ok (.iload_n 0, 1) := by decide +kernel
theorem dX9_no_4 : decode cX9_no 4 = .ok (.i2l, 1) := by decide +kernel
theorem dX9_no_5 : decode cX9_no 5 = .ok (.lsub, 1) := by decide +kernel
theorem dX9_no_6 : decode cX9_no 6 = .ok (.lreturn, 1) := by decide +kernel
theorem dX9_isNumber_0 : decode cX9_isNumber 0 = .ok (.iload_n 0, 1) := by decide +kernel
theorem dX9_isNumber_1 : decode cX9_isNumber 1 = .ok (.tableswitch 85 0 4 #[35, 45, 55, 65, 75], 35) := by decide +kernel
theorem dX9_isNumber_36 : decode cX9_isNumber 36 = .ok (.iload_n 1, 1) := by decide +kernel
theorem dX9_isNumber_37 : decode cX9_isNumber 37 = .ok (.i2l, 1) := by decide +kernel
theorem dX9_isNumber_38 : decode cX9_isNumber 38 = .ok (.lconst 0, 1) := by decide +kernel
theorem dX9_isNumber_39 : decode cX9_isNumber 39 = .ok (.ldc2_w 105, 3) := by decide +kernel
theorem dX9_isNumber_42 : decode cX9_isNumber 42 = .ok (.invokestatic 107, 3) := by decide +kernel
theorem dX9_isNumber_45 : decode cX9_isNumber 45 = .ok (.ireturn, 1) := by decide +kernel
theorem dX9_isNumber_46 : decode cX9_isNumber 46 = .ok (.iload_n 1, 1) := by decide +kernel
theorem dX9_isNumber_47 : decode cX9_isNumber 47 = .ok (.i2l, 1) := by decide +kernel
theorem dX9_isNumber_48 : decode cX9_isNumber 48 = .ok (.lconst 1, 1) := by decide +kernel
theorem dX9_isNumber_49 : decode cX9_isNumber 49 = .ok (.ldc2_w 111, 3) := by decide +kernel
theorem dX9_isNumber_52 : decode cX9_isNumber 52 = .ok (.invokestatic 107, 3) := by decide +kernel
theorem dX9_isNumber_55 : decode cX9_isNumber 55 = .ok (.ireturn, 1) := by decide +kernel
theorem dX9_isNumber_56 : decode cX9_isNumber 56 = .ok (.iload_n 1, 1) := by decide +kernel
theorem dX9_isNumber_57 : decode cX9_isNumber 57 = .ok (.i2l, 1) := by decide +kernel
theorem dX9_isNumber_58 : decode cX9_isNumber 58 = .ok (.lconst 0, 1) := by decide +kernel
theorem dX9_isNumber_59 : decode cX9_isNumber 59 = .ok (.ldc2_w 113, 3) := by decide +kernel
theorem dX9_isNumber_62 : decode cX9_isNumber 62 = .ok (.invokestatic 107, 3) := by decide +kernel
theorem dX9_isNumber_65 : decode cX9_isNumber 65 = .ok (.ireturn, 1) := by decide +kernel
theorem dX9_isNumber_66 : decode cX9_isNumber 66 = .ok (.iload_n 1, 1) := by decide +kernel
theorem dX9_isNumber_67 : decode cX9_isNumber 67 = .ok (.i2l, 1) := by decide +kernel
theorem dX9_isNumber_68 : decode cX9_isNumber 68 = .ok (.lconst 1, 1) := by decide +kernel
theorem dX9_isNumber_69 : decode cX9_isNumber 69 = .ok (.ldc2_w 115, 3) := by decide +kernel
theorem dX9_isNumber_72 : decode cX9_isNumber 72 = .ok (.invokestatic 107, 3) := by decide +kernel
theorem dX9_isNumber_75 : decode cX9_isNumber 75 = .ok (.ireturn, 1) := by decide +kernel
theorem dX9_isNumber_76 : decode cX9_isNumber 76 = .ok (.iload_n 1, 1) := by decide +kernel
theorem dX9_isNumber_77 : decode cX9_isNumber 77 = .ok (.i2l, 1) := by decide +kernel
theorem dX9_isNumber_78 : decode cX9_isNumber 78 = .ok (.lconst 0, 1) := by decide +kernel
theorem dX9_isNumber_79 : decode cX9_isNumber 79 = .ok (.ldc2_w 117, 3) := by decide +kernel
theorem dX9_isNumber_82 : decode cX9_isNumber 82 = .ok (.invokestatic 107, 3) := by decide +kernel
theorem dX9_isNumber_85 : decode cX9_isNumber 85 = .ok (.ireturn, 1) := by decide +kernel
theorem dX9_isNumber_86 : decode cX9_isNumber 86 = .ok (.iload_n 1, 1) := by decide +kernel
theorem dX9_isNumber_87 : decode cX9_isNumber 87 = .ok (.i2l, 1) := by decide +kernel
theorem dX9_isNumber_88 : decode cX9_isNumber 88 = .ok (.lconst 0, 1) := by decide +kernel
theorem dX9_isNumber_89 : decode cX9_isNumber 89 = .ok (.ldc2_w 115, 3) := by decide +kernel
theorem dX9_isNumber_92 : decode cX9_isNumber 92 = .ok (.invokestatic 107, 3) := by decide +kernel
theorem dX9_isNumber_95 : decode cX9_isNumber 95 = .ok (.ireturn, 1) := by decide +kernel
theorem dX9_isFighter_0 : decode cX9_isFighter 0 = .ok (.iload_n 1, 1) := by decide +kernel
theorem dX9_isFighter_1 : decode cX9_isFighter 1 = .ok (.i2l, 1) := by decide +kernel
theorem dX9_isFighter_2 : decode cX9_isFighter 2 = .ok (.lconst 0, 1) := by decide +kernel
theorem dX9_isFighter_3 : decode cX9_isFighter 3 = .ok (.aload_n 0, 1) := by decide +kernel
theorem dX9_isFighter_4 : decode cX9_isFighter 4 = .ok (.getfield 119, 3) := by decide +kernel
theorem dX9_isFighter_7 : decode cX9_isFighter 7 = .ok (.iconst 1, 1) := by decide +kernel
theorem dX9_isFighter_8 : decode cX9_isFighter 8 = .ok (.isub, 1) := by decide +kernel
theorem dX9_isFighter_9 : decode cX9_isFighter 9 = .ok (.i2l, 1) := by decide +kernel
theorem dX9_isFighter_10 : decode cX9_isFighter 10 = .ok (.invokestatic 107, 3) := by decide +kernel
theorem dX9_isFighter_13 : decode cX9_isFighter 13 = .ok (.ireturn, 1) := by decide +kernel
theorem dX9_fighter_0 : decode cX9_fighter 0 = .ok (.iconst 0, 1) := by decide +kernel
theorem dX9_fighter_1 : decode cX9_fighter 1 = .ok (.iload_n 1, 1) := by decide +kernel
theorem dX9_fighter_2 : decode cX9_fighter 2 = .ok (.invokestatic 122, 3) := by decide +kernel
theorem dX9_fighter_5 : decode cX9_fighter 5 = .ok (.ifCond .eq 46, 3) := by decide +kernel
theorem dX9_fighter_8 : decode cX9_fighter 8 = .ok (.iconst 1, 1) := by decide +kernel
theorem dX9_fighter_9 : decode cX9_fighter 9 = .ok (.iload_n 2, 1) := by decide +kernel
theorem dX9_fighter_10 : decode cX9_fighter 10 = .ok (.invokestatic 122, 3) := by decide +kernel
theorem dX9_fighter_13 : decode cX9_fighter 13 = .ok (.ifCond .eq 38, 3) := by decide +kernel
theorem dX9_fighter_16 : decode cX9_fighter 16 = .ok (.iconst 2, 1) := by decide +kernel
theorem dX9_fighter_17 : decode cX9_fighter 17 = .ok (.iload_n 3, 1) := by decide +kernel
theorem dX9_fighter_18 : decode cX9_fighter 18 = .ok (.invokestatic 122, 3) := by decide +kernel
theorem dX9_fighter_21 : decode cX9_fighter 21 = .ok (.ifCond .eq 30, 3) := by decide +kernel
theorem dX9_fighter_24 : decode cX9_fighter 24 = .ok (.iconst 3, 1) := by decide +kernel
theorem dX9_fighter_25 : decode cX9_fighter 25 = .ok (.iload 4, 2) := by decide +kernel
theorem dX9_fighter_27 : decode cX9_fighter 27 = .ok (.invokestatic 122, 3) := by decide +kernel
theorem dX9_fighter_30 : decode cX9_fighter 30 = .ok (.ifCond .eq 21, 3) := by decide +kernel
theorem dX9_fighter_33 : decode cX9_fighter 33 = .ok (.iconst 4, 1) := by decide +kernel
theorem dX9_fighter_34 : decode cX9_fighter 34 = .ok (.iload 5, 2) := by decide +kernel
theorem dX9_fighter_36 : decode cX9_fighter 36 = .ok (.invokestatic 122, 3) := by decide +kernel
theorem dX9_fighter_39 : decode cX9_fighter 39 = .ok (.ifCond .eq 12, 3) := by decide +kernel
theorem dX9_fighter_42 : decode cX9_fighter 42 = .ok (.iconst 5, 1) := by decide +kernel
theorem dX9_fighter_43 : decode cX9_fighter 43 = .ok (.iload 6, 2) := by decide +kernel
theorem dX9_fighter_45 : decode cX9_fighter 45 = .ok (.invokestatic 122, 3) := by decide +kernel
theorem dX9_fighter_48 : decode cX9_fighter 48 = .ok (.ifCond .ne 6, 3) := by decide +kernel
theorem dX9_fighter_51 : decode cX9_fighter 51 = .ok (.bipush (-2), 2) := by decide +kernel
theorem dX9_fighter_53 : decode cX9_fighter 53 = .ok (.ireturn, 1) := by decide +kernel
theorem dX9_fighter_54 : decode cX9_fighter 54 = .ok (.aload_n 0, 1) := by decide +kernel
theorem dX9_fighter_55 : decode cX9_fighter 55 = .ok (.getfield 119, 3) := by decide +kernel
theorem dX9_fighter_58 : decode cX9_fighter 58 = .ok (.bipush 16, 2) := by decide +kernel
theorem dX9_fighter_60 : decode cX9_fighter 60 = .ok (.if_icmp .ne 6, 3) := by decide +kernel
theorem dX9_fighter_63 : decode cX9_fighter 63 = .ok (.bipush (-4), 2) := by decide +kernel
theorem dX9_fighter_65 : decode cX9_fighter 65 = .ok (.ireturn, 1) := by decide +kernel
theorem dX9_fighter_66 : decode cX9_fighter 66 = .ok (.bipush 6, 2) := by decide +kernel
theorem dX9_fighter_68 : decode cX9_fighter 68 = .ok (.aload_n 0, 1) := by decide +kernel
theorem dX9_fighter_69 : decode cX9_fighter 69 = .ok (.getfield 119, 3) := by decide +kernel
theorem dX9_fighter_72 : decode cX9_fighter 72 = .ok (.imul, 1) := by decide +kernel
theorem dX9_fighter_73 : decode cX9_fighter 73 = .ok (.istore 7, 2) := by decide +kernel
theorem dX9_fighter_75 : decode cX9_fighter 75 = .ok (.aload_n 0, 1) := by decide +kernel
theorem dX9_fighter_76 : decode cX9_fighter 76 = .ok (.getfield 7, 3) := by decide +kernel
theorem dX9_fighter_79 : decode cX9_fighter 79 = .ok (.iload 7, 2) := by decide +kernel
theorem dX9_fighter_81 : decode cX9_fighter 81 = .ok (.iload_n 1, 1) := by decide +kernel
theorem dX9_fighter_82 : decode cX9_fighter 82 = .ok (.iastore, 1) := by decide +kernel
theorem dX9_fighter_83 : decode cX9_fighter 83 = .ok (.aload_n 0, 1) := by decide +kernel
theorem dX9_fighter_84 : decode cX9_fighter 84 = .ok (.getfield 7, 3) := by decide +kernel
theorem dX9_fighter_87 : decode cX9_fighter 87 = .ok (.iload 7, 2) := by decide +kernel
theorem dX9_fighter_89 : decode cX9_fighter 89 = .ok (.iconst 1, 1) := by decide +kernel
theorem dX9_fighter_90 : decode cX9_fighter 90 = .ok (.iadd, 1) := by decide +kernel
theorem dX9_fighter_91 : decode cX9_fighter 91 = .ok (.iload_n 2, 1) := by decide +kernel
theorem dX9_fighter_92 : decode cX9_fighter 92 = .ok (.iastore, 1) := by decide +kernel
theorem dX9_fighter_93 : decode cX9_fighter 93 = .ok (.aload_n 0, 1) := by decide +kernel
theorem dX9_fighter_94 : decode cX9_fighter 94 = .ok (.getfield 7, 3) := by decide +kernel
theorem dX9_fighter_97 : decode cX9_fighter 97 = .ok (.iload 7, 2) := by decide +kernel
theorem dX9_fighter_99 : decode cX9_fighter 99 = .ok (.iconst 2, 1) := by decide +kernel
theorem dX9_fighter_100 : decode cX9_fighter 100 = .ok (.iadd, 1) := by decide +kernel
theorem dX9_fighter_101 : decode cX9_fighter 101 = .ok (.iload_n 3, 1) := by decide +kernel
theorem dX9_fighter_102 : decode cX9_fighter 102 = .ok (.iastore, 1) := by decide +kernel
theorem dX9_fighter_103 : decode cX9_fighter 103 = .ok (.aload_n 0, 1) := by decide +kernel
theorem dX9_fighter_104 : decode cX9_fighter 104 = .ok (.getfield 7, 3) := by decide +kernel
theorem dX9_fighter_107 : decode cX9_fighter 107 = .ok (.iload 7, 2) := by decide +kernel
theorem dX9_fighter_109 : decode cX9_fighter 109 = .ok (.iconst 3, 1) := by decide +kernel
theorem dX9_fighter_110 : decode cX9_fighter 110 = .ok (.iadd, 1) := by decide +kernel
theorem dX9_fighter_111 : decode cX9_fighter 111 = .ok (.iload 4, 2) := by decide +kernel
theorem dX9_fighter_113 : decode cX9_fighter 113 = .ok (.iastore, 1) := by decide +kernel
theorem dX9_fighter_114 : decode cX9_fighter 114 = .ok (.aload_n 0, 1) := by decide +kernel
theorem dX9_fighter_115 : decode cX9_fighter 115 = .ok (.getfield 7, 3) := by decide +kernel
theorem dX9_fighter_118 : decode cX9_fighter 118 = .ok (.iload 7, 2) := by decide +kernel
theorem dX9_fighter_120 : decode cX9_fighter 120 = .ok (.iconst 4, 1) := by decide +kernel
theorem dX9_fighter_121 : decode cX9_fighter 121 = .ok (.iadd, 1) := by decide +kernel
theorem dX9_fighter_122 : decode cX9_fighter 122 = .ok (.iload 5, 2) := by decide +kernel
theorem dX9_fighter_124 : decode cX9_fighter 124 = .ok (.iastore, 1) := by decide +kernel
theorem dX9_fighter_125 : decode cX9_fighter 125 = .ok (.aload_n 0, 1) := by decide +kernel
theorem dX9_fighter_126 : decode cX9_fighter 126 = .ok (.getfield 7, 3) := by decide +kernel
theorem dX9_fighter_129 : decode cX9_fighter 129 = .ok (.iload 7, 2) := by decide +kernel
theorem dX9_fighter_131 : decode cX9_fighter 131 = .ok (.iconst 5, 1) := by decide +kernel
theorem dX9_fighter_132 : decode cX9_fighter 132 = .ok (.iadd, 1) := by decide +kernel
theorem dX9_fighter_133 : decode cX9_fighter 133 = .ok (.iload 6, 2) := by decide +kernel
theorem dX9_fighter_135 : decode cX9_fighter 135 = .ok (.iastore, 1) := by decide +kernel
theorem dX9_fighter_136 : decode cX9_fighter 136 = .ok (.aload_n 0, 1) := by decide +kernel
theorem dX9_fighter_137 : decode cX9_fighter 137 = .ok (.dup, 1) := by decide +kernel
theorem dX9_fighter_138 : decode cX9_fighter 138 = .ok (.getfield 119, 3) := by decide +kernel
theorem dX9_fighter_141 : decode cX9_fighter 141 = .ok (.iconst 1, 1) := by decide +kernel
theorem dX9_fighter_142 : decode cX9_fighter 142 = .ok (.iadd, 1) := by decide +kernel
theorem dX9_fighter_143 : decode cX9_fighter 143 = .ok (.putfield 119, 3) := by decide +kernel
theorem dX9_fighter_146 : decode cX9_fighter 146 = .ok (.aload_n 0, 1) := by decide +kernel
theorem dX9_fighter_147 : decode cX9_fighter 147 = .ok (.getfield 119, 3) := by decide +kernel
theorem dX9_fighter_150 : decode cX9_fighter 150 = .ok (.iconst 1, 1) := by decide +kernel
theorem dX9_fighter_151 : decode cX9_fighter 151 = .ok (.isub, 1) := by decide +kernel
theorem dX9_fighter_152 : decode cX9_fighter 152 = .ok (.ireturn, 1) := by decide +kernel
theorem dX9_about_0 : decode cX9_about 0 = .ok (.aload_n 0, 1) := by decide +kernel
theorem dX9_about_1 : decode cX9_about 1 = .ok (.iload_n 1, 1) := by decide +kernel
theorem dX9_about_2 : decode cX9_about 2 = .ok (.invokevirtual 126, 3) := by decide +kernel
theorem dX9_about_5 : decode cX9_about 5 = .ok (.ifCond .eq 29, 3) := by decide +kernel
theorem dX9_about_8 : decode cX9_about 8 = .ok (.iload_n 2, 1) := by decide +kernel
theorem dX9_about_9 : decode cX9_about 9 = .ok (.i2l, 1) := by decide +kernel
theorem dX9_about_10 : decode cX9_about 10 = .ok (.lconst 0, 1) := by decide +kernel
theorem dX9_about_11 : decode cX9_about 11 = .ok (.ldc2_w 130, 3) := by decide +kernel
theorem dX9_about_14 : decode cX9_about 14 = .ok (.invokestatic 107, 3) := by decide +kernel
theorem dX9_about_17 : decode cX9_about 17 = .ok (.ifCond .eq 17, 3) := by decide +kernel
theorem dX9_about_20 : decode cX9_about 20 = .ok (.aload_n 0, 1) := by decide +kernel
theorem dX9_about_21 : decode cX9_about 21 = .ok (.getfield 7, 3) := by decide +kernel
theorem dX9_about_24 : decode cX9_about 24 = .ok (.bipush 6, 2) := by decide +kernel
theorem dX9_about_26 : decode cX9_about 26 = .ok (.iload_n 1, 1) := by decide +kernel
theorem dX9_about_27 : decode cX9_about 27 = .ok (.imul, 1) := by decide +kernel
theorem dX9_about_28 : decode cX9_about 28 = .ok (.iload_n 2, 1) := by decide +kernel
theorem dX9_about_29 : decode cX9_about 29 = .ok (.iadd, 1) := by decide +kernel
theorem dX9_about_30 : decode cX9_about 30 = .ok (.iaload, 1) := by decide +kernel
theorem dX9_about_31 : decode cX9_about 31 = .ok (.goto 5, 3) := by decide +kernel
theorem dX9_about_34 : decode cX9_about 34 = .ok (.bipush (-2), 2) := by decide +kernel
theorem dX9_about_36 : decode cX9_about 36 = .ok (.ireturn, 1) := by decide +kernel
theorem dX9_tune_0 : decode cX9_tune 0 = .ok (.aload_n 0, 1) := by decide +kernel
theorem dX9_tune_1 : decode cX9_tune 1 = .ok (.iload_n 1, 1) := by decide +kernel
theorem dX9_tune_2 : decode cX9_tune 2 = .ok (.invokevirtual 126, 3) := by decide +kernel
theorem dX9_tune_5 : decode cX9_tune 5 = .ok (.ifCond .eq 23, 3) := by decide +kernel
theorem dX9_tune_8 : decode cX9_tune 8 = .ok (.iload_n 2, 1) := by decide +kernel
theorem dX9_tune_9 : decode cX9_tune 9 = .ok (.i2l, 1) := by decide +kernel
theorem dX9_tune_10 : decode cX9_tune 10 = .ok (.lconst 1, 1) := by decide +kernel
theorem dX9_tune_11 : decode cX9_tune 11 = .ok (.ldc2_w 130, 3) := by decide +kernel
theorem dX9_tune_14 : decode cX9_tune 14 = .ok (.invokestatic 107, 3) := by decide +kernel
theorem dX9_tune_17 : decode cX9_tune 17 = .ok (.ifCond .eq 11, 3) := by decide +kernel
theorem dX9_tune_20 : decode cX9_tune 20 = .ok (.iload_n 2, 1) := by decide +kernel
theorem dX9_tune_21 : decode cX9_tune 21 = .ok (.iload_n 3, 1) := by decide +kernel
theorem dX9_tune_22 : decode cX9_tune 22 = .ok (.invokestatic 122, 3) := by decide +kernel
theorem dX9_tune_25 : decode cX9_tune 25 = .ok (.ifCond .ne 6, 3) := by decide +kernel
theorem dX9_tune_28 : decode cX9_tune 28 = .ok (.bipush (-2), 2) := by decide +kernel
theorem dX9_tune_30 : decode cX9_tune 30 = .ok (.ireturn, 1) := by decide +kernel
theorem dX9_tune_31 : decode cX9_tune 31 = .ok (.aload_n 0, 1) := by decide +kernel
theorem dX9_tune_32 : decode cX9_tune 32 = .ok (.getfield 7, 3) := by decide +kernel
theorem dX9_tune_35 : decode cX9_tune 35 = .ok (.bipush 6, 2) := by decide +kernel
theorem dX9_tune_37 : decode cX9_tune 37 = .ok (.iload_n 1, 1) := by decide +kernel
theorem dX9_tune_38 : decode cX9_tune 38 = .ok (.imul, 1) := by decide +kernel
theorem dX9_tune_39 : decode cX9_tune 39 = .ok (.iload_n 2, 1) := by decide +kernel
theorem dX9_tune_40 : decode cX9_tune 40 = .ok (.iadd, 1) := by decide +kernel
theorem dX9_tune_41 : decode cX9_tune 41 = .ok (.iaload, 1) := by decide +kernel
theorem dX9_tune_42 : decode cX9_tune 42 = .ok (.istore 4, 2) := by decide +kernel
theorem dX9_tune_44 : decode cX9_tune 44 = .ok (.aload_n 0, 1) := by decide +kernel
theorem dX9_tune_45 : decode cX9_tune 45 = .ok (.getfield 7, 3) := by decide +kernel
theorem dX9_tune_48 : decode cX9_tune 48 = .ok (.bipush 6, 2) := by decide +kernel
theorem dX9_tune_50 : decode cX9_tune 50 = .ok (.iload_n 1, 1) := by decide +kernel
theorem dX9_tune_51 : decode cX9_tune 51 = .ok (.imul, 1) := by decide +kernel
theorem dX9_tune_52 : decode cX9_tune 52 = .ok (.iload_n 2, 1) := by decide +kernel
theorem dX9_tune_53 : decode cX9_tune 53 = .ok (.iadd, 1) := by decide +kernel
theorem dX9_tune_54 : decode cX9_tune 54 = .ok (.iload_n 3, 1) := by decide +kernel
theorem dX9_tune_55 : decode cX9_tune 55 = .ok (.iastore, 1) := by decide +kernel
theorem dX9_tune_56 : decode cX9_tune 56 = .ok (.iload 4, 2) := by decide +kernel
theorem dX9_tune_58 : decode cX9_tune 58 = .ok (.ireturn, 1) := by decide +kernel
theorem dX9_isRow_0 : decode cX9_isRow 0 = .ok (.iload_n 1, 1) := by decide +kernel
theorem dX9_isRow_1 : decode cX9_isRow 1 = .ok (.i2l, 1) := by decide +kernel
theorem dX9_isRow_2 : decode cX9_isRow 2 = .ok (.ldc2_w 132, 3) := by decide +kernel
theorem dX9_isRow_5 : decode cX9_isRow 5 = .ok (.aload_n 0, 1) := by decide +kernel
theorem dX9_isRow_6 : decode cX9_isRow 6 = .ok (.getfield 119, 3) := by decide +kernel
theorem dX9_isRow_9 : decode cX9_isRow 9 = .ok (.iconst 1, 1) := by decide +kernel
theorem dX9_isRow_10 : decode cX9_isRow 10 = .ok (.isub, 1) := by decide +kernel
theorem dX9_isRow_11 : decode cX9_isRow 11 = .ok (.i2l, 1) := by decide +kernel
theorem dX9_isRow_12 : decode cX9_isRow 12 = .ok (.invokestatic 107, 3) := by decide +kernel
theorem dX9_isRow_15 : decode cX9_isRow 15 = .ok (.ifCond .eq 43, 3) := by decide +kernel
theorem dX9_isRow_18 : decode cX9_isRow 18 = .ok (.iload_n 2, 1) := by decide +kernel
theorem dX9_isRow_19 : decode cX9_isRow 19 = .ok (.i2l, 1) := by decide +kernel
theorem dX9_isRow_20 : decode cX9_isRow 20 = .ok (.ldc2_w 132, 3) := by decide +kernel
theorem dX9_isRow_23 : decode cX9_isRow 23 = .ok (.aload_n 0, 1) := by decide +kernel
theorem dX9_isRow_24 : decode cX9_isRow 24 = .ok (.getfield 119, 3) := by decide +kernel
theorem dX9_isRow_27 : decode cX9_isRow 27 = .ok (.iconst 1, 1) := by decide +kernel
theorem dX9_isRow_28 : decode cX9_isRow 28 = .ok (.isub, 1) := by decide +kernel
theorem dX9_isRow_29 : decode cX9_isRow 29 = .ok (.i2l, 1) := by decide +kernel
theorem dX9_isRow_30 : decode cX9_isRow 30 = .ok (.invokestatic 107, 3) := by decide +kernel
theorem dX9_isRow_33 : decode cX9_isRow 33 = .ok (.ifCond .eq 25, 3) := by decide +kernel
theorem dX9_isRow_36 : decode cX9_isRow 36 = .ok (.iload_n 3, 1) := by decide +kernel
theorem dX9_isRow_37 : decode cX9_isRow 37 = .ok (.i2l, 1) := by decide +kernel
theorem dX9_isRow_38 : decode cX9_isRow 38 = .ok (.ldc2_w 132, 3) := by decide +kernel
theorem dX9_isRow_41 : decode cX9_isRow 41 = .ok (.aload_n 0, 1) := by decide +kernel
theorem dX9_isRow_42 : decode cX9_isRow 42 = .ok (.getfield 119, 3) := by decide +kernel
theorem dX9_isRow_45 : decode cX9_isRow 45 = .ok (.iconst 1, 1) := by decide +kernel
theorem dX9_isRow_46 : decode cX9_isRow 46 = .ok (.isub, 1) := by decide +kernel
theorem dX9_isRow_47 : decode cX9_isRow 47 = .ok (.i2l, 1) := by decide +kernel
theorem dX9_isRow_48 : decode cX9_isRow 48 = .ok (.invokestatic 107, 3) := by decide +kernel
theorem dX9_isRow_51 : decode cX9_isRow 51 = .ok (.ifCond .eq 7, 3) := by decide +kernel
theorem dX9_isRow_54 : decode cX9_isRow 54 = .ok (.iconst 1, 1) := by decide +kernel
theorem dX9_isRow_55 : decode cX9_isRow 55 = .ok (.goto 4, 3) := by decide +kernel
theorem dX9_isRow_58 : decode cX9_isRow 58 = .ok (.iconst 0, 1) := by decide +kernel
theorem dX9_isRow_59 : decode cX9_isRow 59 = .ok (.istore 4, 2) := by decide +kernel
theorem dX9_isRow_61 : decode cX9_isRow 61 = .ok (.iload 4, 2) := by decide +kernel
theorem dX9_isRow_63 : decode cX9_isRow 63 = .ok (.ifCond .eq 27, 3) := by decide +kernel
theorem dX9_isRow_66 : decode cX9_isRow 66 = .ok (.iload_n 1, 1) := by decide +kernel
theorem dX9_isRow_67 : decode cX9_isRow 67 = .ok (.iconst (-1), 1) := by decide +kernel
theorem dX9_isRow_68 : decode cX9_isRow 68 = .ok (.if_icmp .ne 8, 3) := by decide +kernel
theorem dX9_isRow_71 : decode cX9_isRow 71 = .ok (.iload_n 2, 1) := by decide +kernel
theorem dX9_isRow_72 : decode cX9_isRow 72 = .ok (.iconst (-1), 1) := by decide +kernel
theorem dX9_isRow_73 : decode cX9_isRow 73 = .ok (.if_icmp .ne 17, 3) := by decide +kernel
theorem dX9_isRow_76 : decode cX9_isRow 76 = .ok (.iload_n 2, 1) := by decide +kernel
theorem dX9_isRow_77 : decode cX9_isRow 77 = .ok (.iconst (-1), 1) := by decide +kernel
theorem dX9_isRow_78 : decode cX9_isRow 78 = .ok (.if_icmp .ne 8, 3) := by decide +kernel
theorem dX9_isRow_81 : decode cX9_isRow 81 = .ok (.iload_n 3, 1) := by decide +kernel
theorem dX9_isRow_82 : decode cX9_isRow 82 = .ok (.iconst (-1), 1) := by decide +kernel
theorem dX9_isRow_83 : decode cX9_isRow 83 = .ok (.if_icmp .ne 7, 3) := by decide +kernel
theorem dX9_isRow_86 : decode cX9_isRow 86 = .ok (.iconst 1, 1) := by decide +kernel
theorem dX9_isRow_87 : decode cX9_isRow 87 = .ok (.goto 4, 3) := by decide +kernel
theorem dX9_isRow_90 : decode cX9_isRow 90 = .ok (.iconst 0, 1) := by decide +kernel
theorem dX9_isRow_91 : decode cX9_isRow 91 = .ok (.ireturn, 1) := by decide +kernel
theorem dX9_manyOf_0 : decode cX9_manyOf 0 = .ok (.iload_n 0, 1) := by decide +kernel
theorem dX9_manyOf_1 : decode cX9_manyOf 1 = .ok (.iconst (-1), 1) := by decide +kernel
theorem dX9_manyOf_2 : decode cX9_manyOf 2 = .ok (.if_icmp .ne 7, 3) := by decide +kernel
theorem dX9_manyOf_5 : decode cX9_manyOf 5 = .ok (.iconst 0, 1) := by decide +kernel
theorem dX9_manyOf_6 : decode cX9_manyOf 6 = .ok (.goto 4, 3) := by decide +kernel
theorem dX9_manyOf_9 : decode cX9_manyOf 9 = .ok (.iconst 1, 1) := by decide +kernel
theorem dX9_manyOf_10 : decode cX9_manyOf 10 = .ok (.iload_n 1, 1) := by decide +kernel
theorem dX9_manyOf_11 : decode cX9_manyOf 11 = .ok (.iconst (-1), 1) := by decide +kernel
theorem dX9_manyOf_12 : decode cX9_manyOf 12 = .ok (.if_icmp .ne 7, 3) := by decide +kernel
theorem dX9_manyOf_15 : decode cX9_manyOf 15 = .ok (.iconst 0, 1) := by decide +kernel
theorem dX9_manyOf_16 : decode cX9_manyOf 16 = .ok (.goto 4, 3) := by decide +kernel
theorem dX9_manyOf_19 : decode cX9_manyOf 19 = .ok (.iconst 1, 1) := by decide +kernel
theorem dX9_manyOf_20 : decode cX9_manyOf 20 = .ok (.iadd, 1) := by decide +kernel
theorem dX9_manyOf_21 : decode cX9_manyOf 21 = .ok (.iload_n 2, 1) := by decide +kernel
theorem dX9_manyOf_22 : decode cX9_manyOf 22 = .ok (.iconst (-1), 1) := by decide +kernel
theorem dX9_manyOf_23 : decode cX9_manyOf 23 = .ok (.if_icmp .ne 7, 3) := by decide +kernel
theorem dX9_manyOf_26 : decode cX9_manyOf 26 = .ok (.iconst 0, 1) := by decide +kernel
theorem dX9_manyOf_27 : decode cX9_manyOf 27 = .ok (.goto 4, 3) := by decide +kernel
theorem dX9_manyOf_30 : decode cX9_manyOf 30 = .ok (.iconst 1, 1) := by decide +kernel
theorem dX9_manyOf_31 : decode cX9_manyOf 31 = .ok (.iadd, 1) := by decide +kernel
theorem dX9_manyOf_32 : decode cX9_manyOf 32 = .ok (.ireturn, 1) := by decide +kernel
theorem dX9_side_0 : decode cX9_side 0 = .ok (.iload_n 1, 1) := by decide +kernel
theorem dX9_side_1 : decode cX9_side 1 = .ok (.i2l, 1) := by decide +kernel
theorem dX9_side_2 : decode cX9_side 2 = .ok (.lconst 0, 1) := by decide +kernel
theorem dX9_side_3 : decode cX9_side 3 = .ok (.lconst 1, 1) := by decide +kernel
theorem dX9_side_4 : decode cX9_side 4 = .ok (.invokestatic 107, 3) := by decide +kernel
theorem dX9_side_7 : decode cX9_side 7 = .ok (.ifCond .eq 14, 3) := by decide +kernel
theorem dX9_side_10 : decode cX9_side 10 = .ok (.aload_n 0, 1) := by decide +kernel
theorem dX9_side_11 : decode cX9_side 11 = .ok (.iload_n 2, 1) := by decide +kernel
theorem dX9_side_12 : decode cX9_side 12 = .ok (.iload_n 3, 1) := by decide +kernel
theorem dX9_side_13 : decode cX9_side 13 = .ok (.iload 4, 2) := by decide +kernel
theorem dX9_side_15 : decode cX9_side 15 = .ok (.invokevirtual 134, 3) := by decide +kernel
theorem dX9_side_18 : decode cX9_side 18 = .ok (.ifCond .ne 6, 3) := by decide +kernel
theorem dX9_side_21 : decode cX9_side 21 = .ok (.bipush (-2), 2) := by decide +kernel
theorem dX9_side_23 : decode cX9_side 23 = .ok (.ireturn, 1) := by decide +kernel
theorem dX9_side_24 : decode cX9_side 24 = .ok (.aload_n 0, 1) := by decide +kernel
theorem dX9_side_25 : decode cX9_side 25 = .ok (.getfield 13, 3) := by decide +kernel
theorem dX9_side_28 : decode cX9_side 28 = .ok (.iconst 3, 1) := by decide +kernel
theorem dX9_side_29 : decode cX9_side 29 = .ok (.iload_n 1, 1) := by decide +kernel
theorem dX9_side_30 : decode cX9_side 30 = .ok (.imul, 1) := by decide +kernel
theorem dX9_side_31 : decode cX9_side 31 = .ok (.iload_n 2, 1) := by decide +kernel
theorem dX9_side_32 : decode cX9_side 32 = .ok (.iastore, 1) := by decide +kernel
theorem dX9_side_33 : decode cX9_side 33 = .ok (.aload_n 0, 1) := by decide +kernel
theorem dX9_side_34 : decode cX9_side 34 = .ok (.getfield 13, 3) := by decide +kernel
theorem dX9_side_37 : decode cX9_side 37 = .ok (.iconst 3, 1) := by decide +kernel
theorem dX9_side_38 : decode cX9_side 38 = .ok (.iload_n 1, 1) := by decide +kernel
theorem dX9_side_39 : decode cX9_side 39 = .ok (.imul, 1) := by decide +kernel
theorem dX9_side_40 : decode cX9_side 40 = .ok (.iconst 1, 1) := by decide +kernel
theorem dX9_side_41 : decode cX9_side 41 = .ok (.iadd, 1) := by decide +kernel
theorem dX9_side_42 : decode cX9_side 42 = .ok (.iload_n 3, 1) := by decide +kernel
theorem dX9_side_43 : decode cX9_side 43 = .ok (.iastore, 1) := by decide +kernel
theorem dX9_side_44 : decode cX9_side 44 = .ok (.aload_n 0, 1) := by decide +kernel
theorem dX9_side_45 : decode cX9_side 45 = .ok (.getfield 13, 3) := by decide +kernel
theorem dX9_side_48 : decode cX9_side 48 = .ok (.iconst 3, 1) := by decide +kernel
theorem dX9_side_49 : decode cX9_side 49 = .ok (.iload_n 1, 1) := by decide +kernel
theorem dX9_side_50 : decode cX9_side 50 = .ok (.imul, 1) := by decide +kernel
theorem dX9_side_51 : decode cX9_side 51 = .ok (.iconst 2, 1) := by decide +kernel
theorem dX9_side_52 : decode cX9_side 52 = .ok (.iadd, 1) := by decide +kernel
theorem dX9_side_53 : decode cX9_side 53 = .ok (.iload 4, 2) := by decide +kernel
theorem dX9_side_55 : decode cX9_side 55 = .ok (.iastore, 1) := by decide +kernel
theorem dX9_side_56 : decode cX9_side 56 = .ok (.iload_n 2, 1) := by decide +kernel
theorem dX9_side_57 : decode cX9_side 57 = .ok (.iload_n 3, 1) := by decide +kernel
theorem dX9_side_58 : decode cX9_side 58 = .ok (.iload 4, 2) := by decide +kernel
theorem dX9_side_60 : decode cX9_side 60 = .ok (.invokestatic 138, 3) := by decide +kernel
theorem dX9_side_63 : decode cX9_side 63 = .ok (.ireturn, 1) := by decide +kernel
theorem dX9_at_0 : decode cX9_at 0 = .ok (.iload_n 1, 1) := by decide +kernel
theorem dX9_at_1 : decode cX9_at 1 = .ok (.i2l, 1) := by decide +kernel
theorem dX9_at_2 : decode cX9_at 2 = .ok (.lconst 0, 1) := by decide +kernel
theorem dX9_at_3 : decode cX9_at 3 = .ok (.lconst 1, 1) := by decide +kernel
theorem dX9_at_4 : decode cX9_at 4 = .ok (.invokestatic 107, 3) := by decide +kernel
theorem dX9_at_7 : decode cX9_at 7 = .ok (.ifCond .eq 28, 3) := by decide +kernel
theorem dX9_at_10 : decode cX9_at 10 = .ok (.iload_n 2, 1) := by decide +kernel
theorem dX9_at_11 : decode cX9_at 11 = .ok (.i2l, 1) := by decide +kernel
theorem dX9_at_12 : decode cX9_at 12 = .ok (.lconst 0, 1) := by decide +kernel
theorem dX9_at_13 : decode cX9_at 13 = .ok (.ldc2_w 105, 3) := by decide +kernel
theorem dX9_at_16 : decode cX9_at 16 = .ok (.invokestatic 107, 3) := by decide +kernel
theorem dX9_at_19 : decode cX9_at 19 = .ok (.ifCond .eq 16, 3) := by decide +kernel
theorem dX9_at_22 : decode cX9_at 22 = .ok (.aload_n 0, 1) := by decide +kernel
theorem dX9_at_23 : decode cX9_at 23 = .ok (.getfield 13, 3) := by decide +kernel
theorem dX9_at_26 : decode cX9_at 26 = .ok (.iconst 3, 1) := by decide +kernel
theorem dX9_at_27 : decode cX9_at 27 = .ok (.iload_n 1, 1) := by decide +kernel
theorem dX9_at_28 : decode cX9_at 28 = .ok (.imul, 1) := by decide +kernel
theorem dX9_at_29 : decode cX9_at 29 = .ok (.iload_n 2, 1) := by decide +kernel
theorem dX9_at_30 : decode cX9_at 30 = .ok (.iadd, 1) := by decide +kernel
theorem dX9_at_31 : decode cX9_at 31 = .ok (.iaload, 1) := by decide +kernel
theorem dX9_at_32 : decode cX9_at 32 = .ok (.goto 5, 3) := by decide +kernel
theorem dX9_at_35 : decode cX9_at 35 = .ok (.bipush (-2), 2) := by decide +kernel
theorem dX9_at_37 : decode cX9_at 37 = .ok (.ireturn, 1) := by decide +kernel
theorem dX9_laws_0 : decode cX9_laws 0 = .ok (.iload_n 1, 1) := by decide +kernel
theorem dX9_laws_1 : decode cX9_laws 1 = .ok (.i2l, 1) := by decide +kernel
theorem dX9_laws_2 : decode cX9_laws 2 = .ok (.lconst 1, 1) := by decide +kernel
theorem dX9_laws_3 : decode cX9_laws 3 = .ok (.ldc2_w 113, 3) := by decide +kernel
theorem dX9_laws_6 : decode cX9_laws 6 = .ok (.invokestatic 107, 3) := by decide +kernel
theorem dX9_laws_9 : decode cX9_laws 9 = .ok (.ifCond .eq 25, 3) := by decide +kernel
theorem dX9_laws_12 : decode cX9_laws 12 = .ok (.iload_n 2, 1) := by decide +kernel
theorem dX9_laws_13 : decode cX9_laws 13 = .ok (.i2l, 1) := by decide +kernel
theorem dX9_laws_14 : decode cX9_laws 14 = .ok (.lconst 0, 1) := by decide +kernel
theorem dX9_laws_15 : decode cX9_laws 15 = .ok (.lconst 1, 1) := by decide +kernel
theorem dX9_laws_16 : decode cX9_laws 16 = .ok (.invokestatic 107, 3) := by decide +kernel
theorem dX9_laws_19 : decode cX9_laws 19 = .ok (.ifCond .eq 15, 3) := by decide +kernel
theorem dX9_laws_22 : decode cX9_laws 22 = .ok (.iload_n 3, 1) := by decide +kernel
theorem dX9_laws_23 : decode cX9_laws 23 = .ok (.i2l, 1) := by decide +kernel
theorem dX9_laws_24 : decode cX9_laws 24 = .ok (.ldc2_w 132, 3) := by decide +kernel
theorem dX9_laws_27 : decode cX9_laws 27 = .ok (.lconst 1, 1) := by decide +kernel
theorem dX9_laws_28 : decode cX9_laws 28 = .ok (.invokestatic 107, 3) := by decide +kernel
theorem dX9_laws_31 : decode cX9_laws 31 = .ok (.ifCond .ne 6, 3) := by decide +kernel
theorem dX9_laws_34 : decode cX9_laws 34 = .ok (.bipush (-2), 2) := by decide +kernel
theorem dX9_laws_36 : decode cX9_laws 36 = .ok (.ireturn, 1) := by decide +kernel
theorem dX9_laws_37 : decode cX9_laws 37 = .ok (.aload_n 0, 1) := by decide +kernel
theorem dX9_laws_38 : decode cX9_laws 38 = .ok (.iload_n 1, 1) := by decide +kernel
theorem dX9_laws_39 : decode cX9_laws 39 = .ok (.putfield 16, 3) := by decide +kernel
theorem dX9_laws_42 : decode cX9_laws 42 = .ok (.aload_n 0, 1) := by decide +kernel
theorem dX9_laws_43 : decode cX9_laws 43 = .ok (.iload_n 2, 1) := by decide +kernel
theorem dX9_laws_44 : decode cX9_laws 44 = .ok (.putfield 142, 3) := by decide +kernel
theorem dX9_laws_47 : decode cX9_laws 47 = .ok (.aload_n 0, 1) := by decide +kernel
theorem dX9_laws_48 : decode cX9_laws 48 = .ok (.iload_n 3, 1) := by decide +kernel
theorem dX9_laws_49 : decode cX9_laws 49 = .ok (.putfield 20, 3) := by decide +kernel
theorem dX9_laws_52 : decode cX9_laws 52 = .ok (.iconst 1, 1) := by decide +kernel
theorem dX9_laws_53 : decode cX9_laws 53 = .ok (.ireturn, 1) := by decide +kernel
theorem dX9_sets_0 : decode cX9_sets 0 = .ok (.iconst 0, 1) := by decide +kernel
theorem dX9_sets_1 : decode cX9_sets 1 = .ok (.istore_n 2, 1) := by decide +kernel
theorem dX9_sets_2 : decode cX9_sets 2 = .ok (.iload_n 2, 1) := by decide +kernel
theorem dX9_sets_3 : decode cX9_sets 3 = .ok (.bipush 6, 2) := by decide +kernel
theorem dX9_sets_5 : decode cX9_sets 5 = .ok (.if_icmp .ge 37, 3) := by decide +kernel
theorem dX9_sets_8 : decode cX9_sets 8 = .ok (.aload_n 0, 1) := by decide +kernel
theorem dX9_sets_9 : decode cX9_sets 9 = .ok (.getfield 23, 3) := by decide +kernel
theorem dX9_sets_12 : decode cX9_sets 12 = .ok (.iload_n 2, 1) := by decide +kernel
theorem dX9_sets_13 : decode cX9_sets 13 = .ok (.aload_n 0, 1) := by decide +kernel
theorem dX9_sets_14 : decode cX9_sets 14 = .ok (.getfield 13, 3) := by decide +kernel
theorem dX9_sets_17 : decode cX9_sets 17 = .ok (.iload_n 2, 1) := by decide +kernel
theorem dX9_sets_18 : decode cX9_sets 18 = .ok (.iaload, 1) := by decide +kernel
theorem dX9_sets_19 : decode cX9_sets 19 = .ok (.iastore, 1) := by decide +kernel
theorem dX9_sets_20 : decode cX9_sets 20 = .ok (.aload_n 0, 1) := by decide +kernel
theorem dX9_sets_21 : decode cX9_sets 21 = .ok (.getfield 26, 3) := by decide +kernel
theorem dX9_sets_24 : decode cX9_sets 24 = .ok (.iload_n 2, 1) := by decide +kernel
theorem dX9_sets_25 : decode cX9_sets 25 = .ok (.iload_n 2, 1) := by decide +kernel
theorem dX9_sets_26 : decode cX9_sets 26 = .ok (.iconst 3, 1) := by decide +kernel
theorem dX9_sets_27 : decode cX9_sets 27 = .ok (.if_icmp .ge 7, 3) := by decide +kernel
theorem dX9_sets_30 : decode cX9_sets 30 = .ok (.iload_n 1, 1) := by decide +kernel
theorem dX9_sets_31 : decode cX9_sets 31 = .ok (.goto 4, 3) := by decide +kernel
theorem dX9_sets_34 : decode cX9_sets 34 = .ok (.iconst 0, 1) := by decide +kernel
theorem dX9_sets_35 : decode cX9_sets 35 = .ok (.iastore, 1) := by decide +kernel
theorem dX9_sets_36 : decode cX9_sets 36 = .ok (.iinc 2 1, 3) := by decide +kernel
theorem dX9_sets_39 : decode cX9_sets 39 = .ok (.goto (-37), 3) := by decide +kernel
theorem dX9_sets_42 : decode cX9_sets 42 = .ok (.aload_n 0, 1) := by decide +kernel
theorem dX9_sets_43 : decode cX9_sets 43 = .ok (.aload_n 0, 1) := by decide +kernel
theorem dX9_sets_44 : decode cX9_sets 44 = .ok (.getfield 20, 3) := by decide +kernel
theorem dX9_sets_47 : decode cX9_sets 47 = .ok (.putfield 145, 3) := by decide +kernel
theorem dX9_sets_50 : decode cX9_sets 50 = .ok (.return_, 1) := by decide +kernel
theorem dX9_begins_0 : decode cX9_begins 0 = .ok (.aload_n 0, 1) := by decide +kernel
theorem dX9_begins_1 : decode cX9_begins 1 = .ok (.iconst 0, 1) := by decide +kernel
theorem dX9_begins_2 : decode cX9_begins 2 = .ok (.putfield 148, 3) := by decide +kernel
theorem dX9_begins_5 : decode cX9_begins 5 = .ok (.iconst 0, 1) := by decide +kernel
theorem dX9_begins_6 : decode cX9_begins 6 = .ok (.istore_n 1, 1) := by decide +kernel
theorem dX9_begins_7 : decode cX9_begins 7 = .ok (.iload_n 1, 1) := by decide +kernel
theorem dX9_begins_8 : decode cX9_begins 8 = .ok (.bipush 6, 2) := by decide +kernel
theorem dX9_begins_10 : decode cX9_begins 10 = .ok (.if_icmp .ge 107, 3) := by decide +kernel
theorem dX9_begins_13 : decode cX9_begins 13 = .ok (.aload_n 0, 1) := by decide +kernel
theorem dX9_begins_14 : decode cX9_begins 14 = .ok (.getfield 23, 3) := by decide +kernel
theorem dX9_begins_17 : decode cX9_begins 17 = .ok (.iload_n 1, 1) := by decide +kernel
theorem dX9_begins_18 : decode cX9_begins 18 = .ok (.iaload, 1) := by decide +kernel
theorem dX9_begins_19 : decode cX9_begins 19 = .ok (.iconst (-1), 1) := by decide +kernel
theorem dX9_begins_20 : decode cX9_begins 20 = .ok (.if_icmp .eq 91, 3) := by decide +kernel
theorem dX9_begins_23 : decode cX9_begins 23 = .ok (.aload_n 0, 1) := by decide +kernel
theorem dX9_begins_24 : decode cX9_begins 24 = .ok (.getfield 148, 3) := by decide +kernel
theorem dX9_begins_27 : decode cX9_begins 27 = .ok (.istore_n 2, 1) := by decide +kernel
theorem dX9_begins_28 : decode cX9_begins 28 = .ok (.iload_n 2, 1) := by decide +kernel
theorem dX9_begins_29 : decode cX9_begins 29 = .ok (.ifCond .le 65, 3) := by decide +kernel
theorem dX9_begins_32 : decode cX9_begins 32 = .ok (.aload_n 0, 1) := by decide +kernel
theorem dX9_begins_33 : decode cX9_begins 33 = .ok (.getfield 7, 3) := by decide +kernel
theorem dX9_begins_36 : decode cX9_begins 36 = .ok (.bipush 6, 2) := by decide +kernel
theorem dX9_begins_38 : decode cX9_begins 38 = .ok (.aload_n 0, 1) := by decide +kernel
theorem dX9_begins_39 : decode cX9_begins 39 = .ok (.getfield 23, 3) := by decide +kernel
theorem dX9_begins_42 : decode cX9_begins 42 = .ok (.aload_n 0, 1) := by decide +kernel
theorem dX9_begins_43 : decode cX9_begins 43 = .ok (.getfield 29, 3) := by decide +kernel
theorem dX9_begins_46 : decode cX9_begins 46 = .ok (.iload_n 2, 1) := by decide +kernel
theorem dX9_begins_47 : decode cX9_begins 47 = .ok (.iconst 1, 1) := by decide +kernel
theorem dX9_begins_48 : decode cX9_begins 48 = .ok (.isub, 1) := by decide +kernel
theorem dX9_begins_49 : decode cX9_begins 49 = .ok (.iaload, 1) := by decide +kernel
theorem dX9_begins_50 : decode cX9_begins 50 = .ok (.iaload, 1) := by decide +kernel
theorem dX9_begins_51 : decode cX9_begins 51 = .ok (.imul, 1) := by decide +kernel
theorem dX9_begins_52 : decode cX9_begins 52 = .ok (.iconst 5, 1) := by decide +kernel
theorem dX9_begins_53 : decode cX9_begins 53 = .ok (.iadd, 1) := by decide +kernel
theorem dX9_begins_54 : decode cX9_begins 54 = .ok (.iaload, 1) := by decide +kernel
theorem dX9_begins_55 : decode cX9_begins 55 = .ok (.aload_n 0, 1) := by decide +kernel
theorem dX9_begins_56 : decode cX9_begins 56 = .ok (.getfield 7, 3) := by decide +kernel
theorem dX9_begins_59 : decode cX9_begins 59 = .ok (.bipush 6, 2) := by decide +kernel
theorem dX9_begins_61 : decode cX9_begins 61 = .ok (.aload_n 0, 1) := by decide +kernel
theorem dX9_begins_62 : decode cX9_begins 62 = .ok (.getfield 23, 3) := by decide +kernel
theorem dX9_begins_65 : decode cX9_begins 65 = .ok (.iload_n 1, 1) := by decide +kernel
theorem dX9_begins_66 : decode cX9_begins 66 = .ok (.iaload, 1) := by decide +kernel
theorem dX9_begins_67 : decode cX9_begins 67 = .ok (.imul, 1) := by decide +kernel
theorem dX9_begins_68 : decode cX9_begins 68 = .ok (.iconst 5, 1) := by decide +kernel
theorem dX9_begins_69 : decode cX9_begins 69 = .ok (.iadd, 1) := by decide +kernel
theorem dX9_begins_70 : decode cX9_begins 70 = .ok (.iaload, 1) := by decide +kernel
theorem dX9_begins_71 : decode cX9_begins 71 = .ok (.if_icmp .ge 23, 3) := by decide +kernel
theorem dX9_begins_74 : decode cX9_begins 74 = .ok (.aload_n 0, 1) := by decide +kernel
theorem dX9_begins_75 : decode cX9_begins 75 = .ok (.getfield 29, 3) := by decide +kernel
theorem dX9_begins_78 : decode cX9_begins 78 = .ok (.iload_n 2, 1) := by decide +kernel
theorem dX9_begins_79 : decode cX9_begins 79 = .ok (.aload_n 0, 1) := by decide +kernel
theorem dX9_begins_80 : decode cX9_begins 80 = .ok (.getfield 29, 3) := by decide +kernel
theorem dX9_begins_83 : decode cX9_begins 83 = .ok (.iload_n 2, 1) := by decide +kernel
theorem dX9_begins_84 : decode cX9_begins 84 = .ok (.iconst 1, 1) := by decide +kernel
theorem dX9_begins_85 : decode cX9_begins 85 = .ok (.isub, 1) := by decide +kernel
theorem dX9_begins_86 : decode cX9_begins 86 = .ok (.iaload, 1) := by decide +kernel
theorem dX9_begins_87 : decode cX9_begins 87 = .ok (.iastore, 1) := by decide +kernel
theorem dX9_begins_88 : decode cX9_begins 88 = .ok (.iinc 2 (-1), 3) := by decide +kernel
theorem dX9_begins_91 : decode cX9_begins 91 = .ok (.goto (-63), 3) := by decide +kernel
theorem dX9_begins_94 : decode cX9_begins 94 = .ok (.aload_n 0, 1) := by decide +kernel
theorem dX9_begins_95 : decode cX9_begins 95 = .ok (.getfield 29, 3) := by decide +kernel
theorem dX9_begins_98 : decode cX9_begins 98 = .ok (.iload_n 2, 1) := by decide +kernel
theorem dX9_begins_99 : decode cX9_begins 99 = .ok (.iload_n 1, 1) := by decide +kernel
theorem dX9_begins_100 : decode cX9_begins 100 = .ok (.iastore, 1) := by decide +kernel
theorem dX9_begins_101 : decode cX9_begins 101 = .ok (.aload_n 0, 1) := by decide +kernel
theorem dX9_begins_102 : decode cX9_begins 102 = .ok (.dup, 1) := by decide +kernel
theorem dX9_begins_103 : decode cX9_begins 103 = .ok (.getfield 148, 3) := by decide +kernel
theorem dX9_begins_106 : decode cX9_begins 106 = .ok (.iconst 1, 1) := by decide +kernel
theorem dX9_begins_107 : decode cX9_begins 107 = .ok (.iadd, 1) := by decide +kernel
theorem dX9_begins_108 : decode cX9_begins 108 = .ok (.putfield 148, 3) := by decide +kernel
theorem dX9_begins_111 : decode cX9_begins 111 = .ok (.iinc 1 1, 3) := by decide +kernel
theorem dX9_begins_114 : decode cX9_begins 114 = .ok (.goto (-107), 3) := by decide +kernel
theorem dX9_begins_117 : decode cX9_begins 117 = .ok (.iconst 0, 1) := by decide +kernel
theorem dX9_begins_118 : decode cX9_begins 118 = .ok (.istore_n 1, 1) := by decide +kernel
theorem dX9_begins_119 : decode cX9_begins 119 = .ok (.iload_n 1, 1) := by decide +kernel
theorem dX9_begins_120 : decode cX9_begins 120 = .ok (.bipush 6, 2) := by decide +kernel
theorem dX9_begins_122 : decode cX9_begins 122 = .ok (.if_icmp .ge 66, 3) := by decide +kernel
theorem dX9_begins_125 : decode cX9_begins 125 = .ok (.aload_n 0, 1) := by decide +kernel
theorem dX9_begins_126 : decode cX9_begins 126 = .ok (.getfield 32, 3) := by decide +kernel
theorem dX9_begins_129 : decode cX9_begins 129 = .ok (.iload_n 1, 1) := by decide +kernel
theorem dX9_begins_130 : decode cX9_begins 130 = .ok (.aload_n 0, 1) := by decide +kernel
theorem dX9_begins_131 : decode cX9_begins 131 = .ok (.getfield 23, 3) := by decide +kernel
theorem dX9_begins_134 : decode cX9_begins 134 = .ok (.iload_n 1, 1) := by decide +kernel
theorem dX9_begins_135 : decode cX9_begins 135 = .ok (.iaload, 1) := by decide +kernel
theorem dX9_begins_136 : decode cX9_begins 136 = .ok (.iconst (-1), 1) := by decide +kernel
theorem dX9_begins_137 : decode cX9_begins 137 = .ok (.if_icmp .ne 7, 3) := by decide +kernel
theorem dX9_begins_140 : decode cX9_begins 140 = .ok (.iconst 0, 1) := by decide +kernel
theorem dX9_begins_141 : decode cX9_begins 141 = .ok (.goto 19, 3) := by decide +kernel
theorem dX9_begins_144 : decode cX9_begins 144 = .ok (.aload_n 0, 1) := by decide +kernel
theorem dX9_begins_145 : decode cX9_begins 145 = .ok (.getfield 7, 3) := by decide +kernel
theorem dX9_begins_148 : decode cX9_begins 148 = .ok (.bipush 6, 2) := by decide +kernel
theorem dX9_begins_150 : decode cX9_begins 150 = .ok (.aload_n 0, 1) := by decide +kernel
theorem dX9_begins_151 : decode cX9_begins 151 = .ok (.getfield 23, 3) := by decide +kernel
theorem dX9_begins_154 : decode cX9_begins 154 = .ok (.iload_n 1, 1) := by decide +kernel
theorem dX9_begins_155 : decode cX9_begins 155 = .ok (.iaload, 1) := by decide +kernel
theorem dX9_begins_156 : decode cX9_begins 156 = .ok (.imul, 1) := by decide +kernel
theorem dX9_begins_157 : decode cX9_begins 157 = .ok (.iconst 1, 1) := by decide +kernel
theorem dX9_begins_158 : decode cX9_begins 158 = .ok (.iadd, 1) := by decide +kernel
theorem dX9_begins_159 : decode cX9_begins 159 = .ok (.iaload, 1) := by decide +kernel
theorem dX9_begins_160 : decode cX9_begins 160 = .ok (.iastore, 1) := by decide +kernel
theorem dX9_begins_161 : decode cX9_begins 161 = .ok (.aload_n 0, 1) := by decide +kernel
theorem dX9_begins_162 : decode cX9_begins 162 = .ok (.getfield 35, 3) := by decide +kernel
theorem dX9_begins_165 : decode cX9_begins 165 = .ok (.iload_n 1, 1) := by decide +kernel
theorem dX9_begins_166 : decode cX9_begins 166 = .ok (.aload_n 0, 1) := by decide +kernel
theorem dX9_begins_167 : decode cX9_begins 167 = .ok (.getfield 23, 3) := by decide +kernel
theorem dX9_begins_170 : decode cX9_begins 170 = .ok (.iload_n 1, 1) := by decide +kernel
theorem dX9_begins_171 : decode cX9_begins 171 = .ok (.iaload, 1) := by decide +kernel
theorem dX9_begins_172 : decode cX9_begins 172 = .ok (.iconst (-1), 1) := by decide +kernel
theorem dX9_begins_173 : decode cX9_begins 173 = .ok (.if_icmp .eq 7, 3) := by decide +kernel
theorem dX9_begins_176 : decode cX9_begins 176 = .ok (.iconst 1, 1) := by decide +kernel
theorem dX9_begins_177 : decode cX9_begins 177 = .ok (.goto 4, 3) := by decide +kernel
theorem dX9_begins_180 : decode cX9_begins 180 = .ok (.iconst 0, 1) := by decide +kernel
theorem dX9_begins_181 : decode cX9_begins 181 = .ok (.bastore, 1) := by decide +kernel
theorem dX9_begins_182 : decode cX9_begins 182 = .ok (.iinc 1 1, 3) := by decide +kernel
theorem dX9_begins_185 : decode cX9_begins 185 = .ok (.goto (-66), 3) := by decide +kernel
theorem dX9_begins_188 : decode cX9_begins 188 = .ok (.return_, 1) := by decide +kernel
theorem dX9_winner_0 : decode cX9_winner 0 = .ok (.aload_n 0, 1) := by decide +kernel
theorem dX9_winner_1 : decode cX9_winner 1 = .ok (.getfield 35, 3) := by decide +kernel
theorem dX9_winner_4 : decode cX9_winner 4 = .ok (.iconst 0, 1) := by decide +kernel
theorem dX9_winner_5 : decode cX9_winner 5 = .ok (.baload, 1) := by decide +kernel
theorem dX9_winner_6 : decode cX9_winner 6 = .ok (.ifCond .ne 23, 3) := by decide +kernel
theorem dX9_winner_9 : decode cX9_winner 9 = .ok (.aload_n 0, 1) := by decide +kernel
theorem dX9_winner_10 : decode cX9_winner 10 = .ok (.getfield 35, 3) := by decide +kernel
theorem dX9_winner_13 : decode cX9_winner 13 = .ok (.iconst 1, 1) := by decide +kernel
theorem dX9_winner_14 : decode cX9_winner 14 = .ok (.baload, 1) := by decide +kernel
theorem dX9_winner_15 : decode cX9_winner 15 = .ok (.ifCond .ne 14, 3) := by decide +kernel
theorem dX9_winner_18 : decode cX9_winner 18 = .ok (.aload_n 0, 1) := by decide +kernel
theorem dX9_winner_19 : decode cX9_winner 19 = .ok (.getfield 35, 3) := by decide +kernel
theorem dX9_winner_22 : decode cX9_winner 22 = .ok (.iconst 2, 1) := by decide +kernel
theorem dX9_winner_23 : decode cX9_winner 23 = .ok (.baload, 1) := by decide +kernel
theorem dX9_winner_24 : decode cX9_winner 24 = .ok (.ifCond .ne 5, 3) := by decide +kernel
theorem dX9_winner_27 : decode cX9_winner 27 = .ok (.iconst 1, 1) := by decide +kernel
theorem dX9_winner_28 : decode cX9_winner 28 = .ok (.ireturn, 1) := by decide +kernel
theorem dX9_winner_29 : decode cX9_winner 29 = .ok (.aload_n 0, 1) := by decide +kernel
theorem dX9_winner_30 : decode cX9_winner 30 = .ok (.getfield 35, 3) := by decide +kernel
theorem dX9_winner_33 : decode cX9_winner 33 = .ok (.iconst 3, 1) := by decide +kernel
theorem dX9_winner_34 : decode cX9_winner 34 = .ok (.baload, 1) := by decide +kernel
theorem dX9_winner_35 : decode cX9_winner 35 = .ok (.ifCond .ne 25, 3) := by decide +kernel
theorem dX9_winner_38 : decode cX9_winner 38 = .ok (.aload_n 0, 1) := by decide +kernel
theorem dX9_winner_39 : decode cX9_winner 39 = .ok (.getfield 35, 3) := by decide +kernel
theorem dX9_winner_42 : decode cX9_winner 42 = .ok (.iconst 4, 1) := by decide +kernel
theorem dX9_winner_43 : decode cX9_winner 43 = .ok (.baload, 1) := by decide +kernel
theorem dX9_winner_44 : decode cX9_winner 44 = .ok (.ifCond .ne 16, 3) := by decide +kernel
theorem dX9_winner_47 : decode cX9_winner 47 = .ok (.aload_n 0, 1) := by decide +kernel
theorem dX9_winner_48 : decode cX9_winner 48 = .ok (.getfield 35, 3) := by decide +kernel
theorem dX9_winner_51 : decode cX9_winner 51 = .ok (.iconst 5, 1) := by decide +kernel
theorem dX9_winner_52 : decode cX9_winner 52 = .ok (.baload, 1) := by decide +kernel
theorem dX9_winner_53 : decode cX9_winner 53 = .ok (.ifCond .ne 7, 3) := by decide +kernel
theorem dX9_winner_56 : decode cX9_winner 56 = .ok (.iconst 0, 1) := by decide +kernel
theorem dX9_winner_57 : decode cX9_winner 57 = .ok (.goto 4, 3) := by decide +kernel
theorem dX9_winner_60 : decode cX9_winner 60 = .ok (.iconst 2, 1) := by decide +kernel
theorem dX9_winner_61 : decode cX9_winner 61 = .ok (.ireturn, 1) := by decide +kernel
theorem dX9_hurts_0 : decode cX9_hurts 0 = .ok (.aload_n 0, 1) := by decide +kernel
theorem dX9_hurts_1 : decode cX9_hurts 1 = .ok (.getfield 32, 3) := by decide +kernel
theorem dX9_hurts_4 : decode cX9_hurts 4 = .ok (.iload_n 1, 1) := by decide +kernel
theorem dX9_hurts_5 : decode cX9_hurts 5 = .ok (.aload_n 0, 1) := by decide +kernel
theorem dX9_hurts_6 : decode cX9_hurts 6 = .ok (.getfield 32, 3) := by decide +kernel
theorem dX9_hurts_9 : decode cX9_hurts 9 = .ok (.iload_n 1, 1) := by decide +kernel
theorem dX9_hurts_10 : decode cX9_hurts 10 = .ok (.iaload, 1) := by decide +kernel
theorem dX9_hurts_11 : decode cX9_hurts 11 = .ok (.iload_n 2, 1) := by decide +kernel
theorem dX9_hurts_12 : decode cX9_hurts 12 = .ok (.if_icmp .le 14, 3) := by decide +kernel
theorem dX9_hurts_15 : decode cX9_hurts 15 = .ok (.aload_n 0, 1) := by decide +kernel
theorem dX9_hurts_16 : decode cX9_hurts 16 = .ok (.getfield 32, 3) := by decide +kernel
theorem dX9_hurts_19 : decode cX9_hurts 19 = .ok (.iload_n 1, 1) := by decide +kernel
theorem dX9_hurts_20 : decode cX9_hurts 20 = .ok (.iaload, 1) := by decide +kernel
theorem dX9_hurts_21 : decode cX9_hurts 21 = .ok (.iload_n 2, 1) := by decide +kernel
theorem dX9_hurts_22 : decode cX9_hurts 22 = .ok (.isub, 1) := by decide +kernel
theorem dX9_hurts_23 : decode cX9_hurts 23 = .ok (.goto 4, 3) := by decide +kernel
theorem dX9_hurts_26 : decode cX9_hurts 26 = .ok (.iconst 0, 1) := by decide +kernel
theorem dX9_hurts_27 : decode cX9_hurts 27 = .ok (.iastore, 1) := by decide +kernel
theorem dX9_hurts_28 : decode cX9_hurts 28 = .ok (.aload_n 0, 1) := by decide +kernel
theorem dX9_hurts_29 : decode cX9_hurts 29 = .ok (.getfield 35, 3) := by decide +kernel
theorem dX9_hurts_32 : decode cX9_hurts 32 = .ok (.iload_n 1, 1) := by decide +kernel
theorem dX9_hurts_33 : decode cX9_hurts 33 = .ok (.aload_n 0, 1) := by decide +kernel
theorem dX9_hurts_34 : decode cX9_hurts 34 = .ok (.getfield 32, 3) := by decide +kernel
theorem dX9_hurts_37 : decode cX9_hurts 37 = .ok (.iload_n 1, 1) := by decide +kernel
theorem dX9_hurts_38 : decode cX9_hurts 38 = .ok (.iaload, 1) := by decide +kernel
theorem dX9_hurts_39 : decode cX9_hurts 39 = .ok (.ifCond .le 7, 3) := by decide +kernel
theorem dX9_hurts_42 : decode cX9_hurts 42 = .ok (.iconst 1, 1) := by decide +kernel
theorem dX9_hurts_43 : decode cX9_hurts 43 = .ok (.goto 4, 3) := by decide +kernel
theorem dX9_hurts_46 : decode cX9_hurts 46 = .ok (.iconst 0, 1) := by decide +kernel
theorem dX9_hurts_47 : decode cX9_hurts 47 = .ok (.bastore, 1) := by decide +kernel
theorem dX9_hurts_48 : decode cX9_hurts 48 = .ok (.return_, 1) := by decide +kernel
theorem dX9_target_0 : decode cX9_target 0 = .ok (.iconst (-1), 1) := by decide +kernel
theorem dX9_target_1 : decode cX9_target 1 = .ok (.istore_n 3, 1) := by decide +kernel
theorem dX9_target_2 : decode cX9_target 2 = .ok (.iload_n 1, 1) := by decide +kernel
theorem dX9_target_3 : decode cX9_target 3 = .ok (.istore 4, 2) := by decide +kernel
theorem dX9_target_5 : decode cX9_target 5 = .ok (.iload 4, 2) := by decide +kernel
theorem dX9_target_7 : decode cX9_target 7 = .ok (.iload_n 1, 1) := by decide +kernel
theorem dX9_target_8 : decode cX9_target 8 = .ok (.iconst 3, 1) := by decide +kernel
theorem dX9_target_9 : decode cX9_target 9 = .ok (.iadd, 1) := by decide +kernel
theorem dX9_target_10 : decode cX9_target 10 = .ok (.if_icmp .ge 47, 3) := by decide +kernel
theorem dX9_target_13 : decode cX9_target 13 = .ok (.aload_n 0, 1) := by decide +kernel
theorem dX9_target_14 : decode cX9_target 14 = .ok (.getfield 35, 3) := by decide +kernel
theorem dX9_target_17 : decode cX9_target 17 = .ok (.iload 4, 2) := by decide +kernel
theorem dX9_target_19 : decode cX9_target 19 = .ok (.baload, 1) := by decide +kernel
theorem dX9_target_20 : decode cX9_target 20 = .ok (.ifCond .eq 31, 3) := by decide +kernel
theorem dX9_target_23 : decode cX9_target 23 = .ok (.iload_n 3, 1) := by decide +kernel
theorem dX9_target_24 : decode cX9_target 24 = .ok (.iconst (-1), 1) := by decide +kernel
theorem dX9_target_25 : decode cX9_target 25 = .ok (.if_icmp .eq 23, 3) := by decide +kernel
theorem dX9_target_28 : decode cX9_target 28 = .ok (.iload_n 2, 1) := by decide +kernel
theorem dX9_target_29 : decode cX9_target 29 = .ok (.ifCond .eq 22, 3) := by decide +kernel
theorem dX9_target_32 : decode cX9_target 32 = .ok (.aload_n 0, 1) := by decide +kernel
theorem dX9_target_33 : decode cX9_target 33 = .ok (.getfield 32, 3) := by decide +kernel
theorem dX9_target_36 : decode cX9_target 36 = .ok (.iload 4, 2) := by decide +kernel
theorem dX9_target_38 : decode cX9_target 38 = .ok (.iaload, 1) := by decide +kernel
theorem dX9_target_39 : decode cX9_target 39 = .ok (.aload_n 0, 1) := by decide +kernel
theorem dX9_target_40 : decode cX9_target 40 = .ok (.getfield 32, 3) := by decide +kernel
theorem dX9_target_43 : decode cX9_target 43 = .ok (.iload_n 3, 1) := by decide +kernel
theorem dX9_target_44 : decode cX9_target 44 = .ok (.iaload, 1) := by decide +kernel
theorem dX9_target_45 : decode cX9_target 45 = .ok (.if_icmp .ge 6, 3) := by decide +kernel
theorem dX9_target_48 : decode cX9_target 48 = .ok (.iload 4, 2) := by decide +kernel
theorem dX9_target_50 : decode cX9_target 50 = .ok (.istore_n 3, 1) := by decide +kernel
theorem dX9_target_51 : decode cX9_target 51 = .ok (.iinc 4 1, 3) := by decide +kernel
theorem dX9_target_54 : decode cX9_target 54 = .ok (.goto (-49), 3) := by decide +kernel
theorem dX9_target_57 : decode cX9_target 57 = .ok (.iload_n 3, 1) := by decide +kernel
theorem dX9_target_58 : decode cX9_target 58 = .ok (.ireturn, 1) := by decide +kernel
theorem dX9_hasTurn_0 : decode cX9_hasTurn 0 = .ok (.aload_n 0, 1) := by decide +kernel
theorem dX9_hasTurn_1 : decode cX9_hasTurn 1 = .ok (.getfield 35, 3) := by decide +kernel
theorem dX9_hasTurn_4 : decode cX9_hasTurn 4 = .ok (.iload_n 1, 1) := by decide +kernel
theorem dX9_hasTurn_5 : decode cX9_hasTurn 5 = .ok (.baload, 1) := by decide +kernel
theorem dX9_hasTurn_6 : decode cX9_hasTurn 6 = .ok (.ifCond .eq 21, 3) := by decide +kernel
theorem dX9_hasTurn_9 : decode cX9_hasTurn 9 = .ok (.iload_n 2, 1) := by decide +kernel
theorem dX9_hasTurn_10 : decode cX9_hasTurn 10 = .ok (.ifCond .ne 13, 3) := by decide +kernel
theorem dX9_hasTurn_13 : decode cX9_hasTurn 13 = .ok (.aload_n 0, 1) := by decide +kernel
theorem dX9_hasTurn_14 : decode cX9_hasTurn 14 = .ok (.getfield 145, 3) := by decide +kernel
theorem dX9_hasTurn_17 : decode cX9_hasTurn 17 = .ok (.iload_n 1, 1) := by decide +kernel
theorem dX9_hasTurn_18 : decode cX9_hasTurn 18 = .ok (.iconst 3, 1) := by decide +kernel
theorem dX9_hasTurn_19 : decode cX9_hasTurn 19 = .ok (.idiv, 1) := by decide +kernel
theorem dX9_hasTurn_20 : decode cX9_hasTurn 20 = .ok (.if_icmp .eq 7, 3) := by decide +kernel
theorem dX9_hasTurn_23 : decode cX9_hasTurn 23 = .ok (.iconst 1, 1) := by decide +kernel
theorem dX9_hasTurn_24 : decode cX9_hasTurn 24 = .ok (.goto 4, 3) := by decide +kernel
theorem dX9_hasTurn_27 : decode cX9_hasTurn 27 = .ok (.iconst 0, 1) := by decide +kernel
theorem dX9_hasTurn_28 : decode cX9_hasTurn 28 = .ok (.ireturn, 1) := by decide +kernel
theorem dX9_flees_0 : decode cX9_flees 0 = .ok (.aload_n 0, 1) := by decide +kernel
theorem dX9_flees_1 : decode cX9_flees 1 = .ok (.getfield 32, 3) := by decide +kernel
theorem dX9_flees_4 : decode cX9_flees 4 = .ok (.iload_n 1, 1) := by decide +kernel
theorem dX9_flees_5 : decode cX9_flees 5 = .ok (.iaload, 1) := by decide +kernel
theorem dX9_flees_6 : decode cX9_flees 6 = .ok (.aload_n 0, 1) := by decide +kernel
theorem dX9_flees_7 : decode cX9_flees 7 = .ok (.getfield 7, 3) := by decide +kernel
theorem dX9_flees_10 : decode cX9_flees 10 = .ok (.bipush 6, 2) := by decide +kernel
theorem dX9_flees_12 : decode cX9_flees 12 = .ok (.aload_n 0, 1) := by decide +kernel
theorem dX9_flees_13 : decode cX9_flees 13 = .ok (.getfield 23, 3) := by decide +kernel
theorem dX9_flees_16 : decode cX9_flees 16 = .ok (.iload_n 1, 1) := by decide +kernel
theorem dX9_flees_17 : decode cX9_flees 17 = .ok (.iaload, 1) := by decide +kernel
theorem dX9_flees_18 : decode cX9_flees 18 = .ok (.imul, 1) := by decide +kernel
theorem dX9_flees_19 : decode cX9_flees 19 = .ok (.iconst 4, 1) := by decide +kernel
theorem dX9_flees_20 : decode cX9_flees 20 = .ok (.iadd, 1) := by decide +kernel
theorem dX9_flees_21 : decode cX9_flees 21 = .ok (.iaload, 1) := by decide +kernel
theorem dX9_flees_22 : decode cX9_flees 22 = .ok (.if_icmp .gt 7, 3) := by decide +kernel
theorem dX9_flees_25 : decode cX9_flees 25 = .ok (.iconst 1, 1) := by decide +kernel
theorem dX9_flees_26 : decode cX9_flees 26 = .ok (.goto 4, 3) := by decide +kernel
theorem dX9_flees_29 : decode cX9_flees 29 = .ok (.iconst 0, 1) := by decide +kernel
theorem dX9_flees_30 : decode cX9_flees 30 = .ok (.ireturn, 1) := by decide +kernel
theorem dX9_hits_0 : decode cX9_hits 0 = .ok (.aload_n 0, 1) := by decide +kernel
theorem dX9_hits_1 : decode cX9_hits 1 = .ok (.getfield 7, 3) := by decide +kernel
theorem dX9_hits_4 : decode cX9_hits 4 = .ok (.bipush 6, 2) := by decide +kernel
theorem dX9_hits_6 : decode cX9_hits 6 = .ok (.aload_n 0, 1) := by decide +kernel
theorem dX9_hits_7 : decode cX9_hits 7 = .ok (.getfield 23, 3) := by decide +kernel
theorem dX9_hits_10 : decode cX9_hits 10 = .ok (.iload_n 1, 1) := by decide +kernel
theorem dX9_hits_11 : decode cX9_hits 11 = .ok (.iaload, 1) := by decide +kernel
theorem dX9_hits_12 : decode cX9_hits 12 = .ok (.imul, 1) := by decide +kernel
theorem dX9_hits_13 : decode cX9_hits 13 = .ok (.iaload, 1) := by decide +kernel
theorem dX9_hits_14 : decode cX9_hits 14 = .ok (.istore_n 2, 1) := by decide +kernel
theorem dX9_hits_15 : decode cX9_hits 15 = .ok (.aload_n 0, 1) := by decide +kernel
theorem dX9_hits_16 : decode cX9_hits 16 = .ok (.getfield 7, 3) := by decide +kernel
theorem dX9_hits_19 : decode cX9_hits 19 = .ok (.bipush 6, 2) := by decide +kernel
theorem dX9_hits_21 : decode cX9_hits 21 = .ok (.aload_n 0, 1) := by decide +kernel
theorem dX9_hits_22 : decode cX9_hits 22 = .ok (.getfield 23, 3) := by decide +kernel
theorem dX9_hits_25 : decode cX9_hits 25 = .ok (.iload_n 1, 1) := by decide +kernel
theorem dX9_hits_26 : decode cX9_hits 26 = .ok (.iaload, 1) := by decide +kernel
theorem dX9_hits_27 : decode cX9_hits 27 = .ok (.imul, 1) := by decide +kernel
theorem dX9_hits_28 : decode cX9_hits 28 = .ok (.iconst 3, 1) := by decide +kernel
theorem dX9_hits_29 : decode cX9_hits 29 = .ok (.iadd, 1) := by decide +kernel
theorem dX9_hits_30 : decode cX9_hits 30 = .ok (.iaload, 1) := by decide +kernel
theorem dX9_hits_31 : decode cX9_hits 31 = .ok (.aload_n 0, 1) := by decide +kernel
theorem dX9_hits_32 : decode cX9_hits 32 = .ok (.getfield 26, 3) := by decide +kernel
theorem dX9_hits_35 : decode cX9_hits 35 = .ok (.iload_n 1, 1) := by decide +kernel
theorem dX9_hits_36 : decode cX9_hits 36 = .ok (.iaload, 1) := by decide +kernel
theorem dX9_hits_37 : decode cX9_hits 37 = .ok (.iadd, 1) := by decide +kernel
theorem dX9_hits_38 : decode cX9_hits 38 = .ok (.istore_n 3, 1) := by decide +kernel
theorem dX9_hits_39 : decode cX9_hits 39 = .ok (.iload_n 1, 1) := by decide +kernel
theorem dX9_hits_40 : decode cX9_hits 40 = .ok (.iconst 3, 1) := by decide +kernel
theorem dX9_hits_41 : decode cX9_hits 41 = .ok (.if_icmp .ge 7, 3) := by decide +kernel
theorem dX9_hits_44 : decode cX9_hits 44 = .ok (.iconst 3, 1) := by decide +kernel
theorem dX9_hits_45 : decode cX9_hits 45 = .ok (.goto 4, 3) := by decide +kernel
theorem dX9_hits_48 : decode cX9_hits 48 = .ok (.iconst 0, 1) := by decide +kernel
theorem dX9_hits_49 : decode cX9_hits 49 = .ok (.istore 4, 2) := by decide +kernel
theorem dX9_hits_51 : decode cX9_hits 51 = .ok (.iload_n 2, 1) := by decide +kernel
theorem dX9_hits_52 : decode cX9_hits 52 = .ok (.ifCond .ne 30, 3) := by decide +kernel
theorem dX9_hits_55 : decode cX9_hits 55 = .ok (.aload_n 0, 1) := by decide +kernel
theorem dX9_hits_56 : decode cX9_hits 56 = .ok (.aload_n 0, 1) := by decide +kernel
theorem dX9_hits_57 : decode cX9_hits 57 = .ok (.iload 4, 2) := by decide +kernel
theorem dX9_hits_59 : decode cX9_hits 59 = .ok (.aload_n 0, 1) := by decide +kernel
theorem dX9_hits_60 : decode cX9_hits 60 = .ok (.getfield 142, 3) := by decide +kernel
theorem dX9_hits_63 : decode cX9_hits 63 = .ok (.iconst 1, 1) := by decide +kernel
theorem dX9_hits_64 : decode cX9_hits 64 = .ok (.if_icmp .ne 7, 3) := by decide +kernel
theorem dX9_hits_67 : decode cX9_hits 67 = .ok (.iconst 1, 1) := by decide +kernel
theorem dX9_hits_68 : decode cX9_hits 68 = .ok (.goto 4, 3) := by decide +kernel
theorem dX9_hits_71 : decode cX9_hits 71 = .ok (.iconst 0, 1) := by decide +kernel
theorem dX9_hits_72 : decode cX9_hits 72 = .ok (.invokevirtual 151, 3) := by decide +kernel
theorem dX9_hits_75 : decode cX9_hits 75 = .ok (.iload_n 3, 1) := by decide +kernel
theorem dX9_hits_76 : decode cX9_hits 76 = .ok (.invokevirtual 155, 3) := by decide +kernel
theorem dX9_hits_79 : decode cX9_hits 79 = .ok (.goto 112, 3) := by decide +kernel
theorem dX9_hits_82 : decode cX9_hits 82 = .ok (.iload_n 2, 1) := by decide +kernel
theorem dX9_hits_83 : decode cX9_hits 83 = .ok (.iconst 1, 1) := by decide +kernel
theorem dX9_hits_84 : decode cX9_hits 84 = .ok (.if_icmp .ne 42, 3) := by decide +kernel
theorem dX9_hits_87 : decode cX9_hits 87 = .ok (.iload 4, 2) := by decide +kernel
theorem dX9_hits_89 : decode cX9_hits 89 = .ok (.istore 5, 2) := by decide +kernel
theorem dX9_hits_91 : decode cX9_hits 91 = .ok (.iload 5, 2) := by decide +kernel
theorem dX9_hits_93 : decode cX9_hits 93 = .ok (.iload 4, 2) := by decide +kernel
theorem dX9_hits_95 : decode cX9_hits 95 = .ok (.iconst 3, 1) := by decide +kernel
theorem dX9_hits_96 : decode cX9_hits 96 = .ok (.iadd, 1) := by decide +kernel
theorem dX9_hits_97 : decode cX9_hits 97 = .ok (.if_icmp .ge 26, 3) := by decide +kernel
theorem dX9_hits_100 : decode cX9_hits 100 = .ok (.aload_n 0, 1) := by decide +kernel
theorem dX9_hits_101 : decode cX9_hits 101 = .ok (.getfield 35, 3) := by decide +kernel
theorem dX9_hits_104 : decode cX9_hits 104 = .ok (.iload 5, 2) := by decide +kernel
theorem dX9_hits_106 : decode cX9_hits 106 = .ok (.baload, 1) := by decide +kernel
theorem dX9_hits_107 : decode cX9_hits 107 = .ok (.ifCond .eq 10, 3) := by decide +kernel
theorem dX9_hits_110 : decode cX9_hits 110 = .ok (.aload_n 0, 1) := by decide +kernel
theorem dX9_hits_111 : decode cX9_hits 111 = .ok (.iload 5, 2) := by decide +kernel
theorem dX9_hits_113 : decode cX9_hits 113 = .ok (.iload_n 3, 1) := by decide +kernel
theorem dX9_hits_114 : decode cX9_hits 114 = .ok (.invokevirtual 155, 3) := by decide +kernel
theorem dX9_hits_117 : decode cX9_hits 117 = .ok (.iinc 5 1, 3) := by decide +kernel
theorem dX9_hits_120 : decode cX9_hits 120 = .ok (.goto (-29), 3) := by decide +kernel
theorem dX9_hits_123 : decode cX9_hits 123 = .ok (.goto 68, 3) := by decide +kernel
theorem dX9_hits_126 : decode cX9_hits 126 = .ok (.aload_n 0, 1) := by decide +kernel
theorem dX9_hits_127 : decode cX9_hits 127 = .ok (.iconst 3, 1) := by decide +kernel
theorem dX9_hits_128 : decode cX9_hits 128 = .ok (.iload 4, 2) := by decide +kernel
theorem dX9_hits_130 : decode cX9_hits 130 = .ok (.isub, 1) := by decide +kernel
theorem dX9_hits_131 : decode cX9_hits 131 = .ok (.iconst 1, 1) := by decide +kernel
theorem dX9_hits_132 : decode cX9_hits 132 = .ok (.invokevirtual 151, 3) := by decide +kernel
theorem dX9_hits_135 : decode cX9_hits 135 = .ok (.istore 5, 2) := by decide +kernel
theorem dX9_hits_137 : decode cX9_hits 137 = .ok (.aload_n 0, 1) := by decide +kernel
theorem dX9_hits_138 : decode cX9_hits 138 = .ok (.getfield 7, 3) := by decide +kernel
theorem dX9_hits_141 : decode cX9_hits 141 = .ok (.bipush 6, 2) := by decide +kernel
theorem dX9_hits_143 : decode cX9_hits 143 = .ok (.aload_n 0, 1) := by decide +kernel
theorem dX9_hits_144 : decode cX9_hits 144 = .ok (.getfield 23, 3) := by decide +kernel
theorem dX9_hits_147 : decode cX9_hits 147 = .ok (.iload 5, 2) := by decide +kernel
theorem dX9_hits_149 : decode cX9_hits 149 = .ok (.iaload, 1) := by decide +kernel
theorem dX9_hits_150 : decode cX9_hits 150 = .ok (.imul, 1) := by decide +kernel
theorem dX9_hits_151 : decode cX9_hits 151 = .ok (.iconst 1, 1) := by decide +kernel
theorem dX9_hits_152 : decode cX9_hits 152 = .ok (.iadd, 1) := by decide +kernel
theorem dX9_hits_153 : decode cX9_hits 153 = .ok (.iaload, 1) := by decide +kernel
theorem dX9_hits_154 : decode cX9_hits 154 = .ok (.istore 6, 2) := by decide +kernel
theorem dX9_hits_156 : decode cX9_hits 156 = .ok (.aload_n 0, 1) := by decide +kernel
theorem dX9_hits_157 : decode cX9_hits 157 = .ok (.getfield 32, 3) := by decide +kernel
theorem dX9_hits_160 : decode cX9_hits 160 = .ok (.iload 5, 2) := by decide +kernel
theorem dX9_hits_162 : decode cX9_hits 162 = .ok (.aload_n 0, 1) := by decide +kernel
theorem dX9_hits_163 : decode cX9_hits 163 = .ok (.getfield 32, 3) := by decide +kernel
theorem dX9_hits_166 : decode cX9_hits 166 = .ok (.iload 5, 2) := by decide +kernel
theorem dX9_hits_168 : decode cX9_hits 168 = .ok (.iaload, 1) := by decide +kernel
theorem dX9_hits_169 : decode cX9_hits 169 = .ok (.iload_n 3, 1) := by decide +kernel
theorem dX9_hits_170 : decode cX9_hits 170 = .ok (.iadd, 1) := by decide +kernel
theorem dX9_hits_171 : decode cX9_hits 171 = .ok (.iload 6, 2) := by decide +kernel
theorem dX9_hits_173 : decode cX9_hits 173 = .ok (.if_icmp .le 8, 3) := by decide +kernel
theorem dX9_hits_176 : decode cX9_hits 176 = .ok (.iload 6, 2) := by decide +kernel
theorem dX9_hits_178 : decode cX9_hits 178 = .ok (.goto 12, 3) := by decide +kernel
theorem dX9_hits_181 : decode cX9_hits 181 = .ok (.aload_n 0, 1) := by decide +kernel
theorem dX9_hits_182 : decode cX9_hits 182 = .ok (.getfield 32, 3) := by decide +kernel
theorem dX9_hits_185 : decode cX9_hits 185 = .ok (.iload 5, 2) := by decide +kernel
theorem dX9_hits_187 : decode cX9_hits 187 = .ok (.iaload, 1) := by decide +kernel
theorem dX9_hits_188 : decode cX9_hits 188 = .ok (.iload_n 3, 1) := by decide +kernel
theorem dX9_hits_189 : decode cX9_hits 189 = .ok (.iadd, 1) := by decide +kernel
theorem dX9_hits_190 : decode cX9_hits 190 = .ok (.iastore, 1) := by decide +kernel
theorem dX9_hits_191 : decode cX9_hits 191 = .ok (.return_, 1) := by decide +kernel
theorem dX9_pack_0 : decode cX9_pack 0 = .ok (.lconst 0, 1) := by decide +kernel
theorem dX9_pack_1 : decode cX9_pack 1 = .ok (.lstore_n 1, 1) := by decide +kernel
theorem dX9_pack_2 : decode cX9_pack 2 = .ok (.iconst 0, 1) := by decide +kernel
theorem dX9_pack_3 : decode cX9_pack 3 = .ok (.istore_n 3, 1) := by decide +kernel
theorem dX9_pack_4 : decode cX9_pack 4 = .ok (.iload_n 3, 1) := by decide +kernel
theorem dX9_pack_5 : decode cX9_pack 5 = .ok (.bipush 6, 2) := by decide +kernel
theorem dX9_pack_7 : decode cX9_pack 7 = .ok (.if_icmp .ge 40, 3) := by decide +kernel
theorem dX9_pack_10 : decode cX9_pack 10 = .ok (.lload_n 1, 1) := by decide +kernel
theorem dX9_pack_11 : decode cX9_pack 11 = .ok (.bipush 6, 2) := by decide +kernel
theorem dX9_pack_13 : decode cX9_pack 13 = .ok (.lshl, 1) := by decide +kernel
theorem dX9_pack_14 : decode cX9_pack 14 = .ok (.aload_n 0, 1) := by decide +kernel
theorem dX9_pack_15 : decode cX9_pack 15 = .ok (.getfield 32, 3) := by decide +kernel
theorem dX9_pack_18 : decode cX9_pack 18 = .ok (.iload_n 3, 1) := by decide +kernel
theorem dX9_pack_19 : decode cX9_pack 19 = .ok (.iaload, 1) := by decide +kernel
theorem dX9_pack_20 : decode cX9_pack 20 = .ok (.iconst 1, 1) := by decide +kernel
theorem dX9_pack_21 : decode cX9_pack 21 = .ok (.ishl, 1) := by decide +kernel
theorem dX9_pack_22 : decode cX9_pack 22 = .ok (.i2l, 1) := by decide +kernel
theorem dX9_pack_23 : decode cX9_pack 23 = .ok (.lor, 1) := by decide +kernel
theorem dX9_pack_24 : decode cX9_pack 24 = .ok (.aload_n 0, 1) := by decide +kernel
theorem dX9_pack_25 : decode cX9_pack 25 = .ok (.getfield 35, 3) := by decide +kernel
theorem dX9_pack_28 : decode cX9_pack 28 = .ok (.iload_n 3, 1) := by decide +kernel
theorem dX9_pack_29 : decode cX9_pack 29 = .ok (.baload, 1) := by decide +kernel
theorem dX9_pack_30 : decode cX9_pack 30 = .ok (.ifCond .eq 7, 3) := by decide +kernel
theorem dX9_pack_33 : decode cX9_pack 33 = .ok (.iconst 1, 1) := by decide +kernel
theorem dX9_pack_34 : decode cX9_pack 34 = .ok (.goto 4, 3) := by decide +kernel
theorem dX9_pack_37 : decode cX9_pack 37 = .ok (.iconst 0, 1) := by decide +kernel
theorem dX9_pack_38 : decode cX9_pack 38 = .ok (.i2l, 1) := by decide +kernel
theorem dX9_pack_39 : decode cX9_pack 39 = .ok (.lor, 1) := by decide +kernel
theorem dX9_pack_40 : decode cX9_pack 40 = .ok (.lstore_n 1, 1) := by decide +kernel
theorem dX9_pack_41 : decode cX9_pack 41 = .ok (.iinc 3 1, 3) := by decide +kernel
theorem dX9_pack_44 : decode cX9_pack 44 = .ok (.goto (-40), 3) := by decide +kernel
theorem dX9_pack_47 : decode cX9_pack 47 = .ok (.lload_n 1, 1) := by decide +kernel
theorem dX9_pack_48 : decode cX9_pack 48 = .ok (.lreturn, 1) := by decide +kernel
theorem dX9_unpack_0 : decode cX9_unpack 0 = .ok (.lload_n 1, 1) := by decide +kernel
theorem dX9_unpack_1 : decode cX9_unpack 1 = .ok (.lstore_n 3, 1) := by decide +kernel
theorem dX9_unpack_2 : decode cX9_unpack 2 = .ok (.iconst 5, 1) := by decide +kernel
theorem dX9_unpack_3 : decode cX9_unpack 3 = .ok (.istore 5, 2) := by decide +kernel
theorem dX9_unpack_5 : decode cX9_unpack 5 = .ok (.iload 5, 2) := by decide +kernel
theorem dX9_unpack_7 : decode cX9_unpack 7 = .ok (.ifCond .lt 49, 3) := by decide +kernel
theorem dX9_unpack_10 : decode cX9_unpack 10 = .ok (.aload_n 0, 1) := by decide +kernel
theorem dX9_unpack_11 : decode cX9_unpack 11 = .ok (.getfield 35, 3) := by decide +kernel
theorem dX9_unpack_14 : decode cX9_unpack 14 = .ok (.iload 5, 2) := by decide +kernel
theorem dX9_unpack_16 : decode cX9_unpack 16 = .ok (.lload_n 3, 1) := by decide +kernel
theorem dX9_unpack_17 : decode cX9_unpack 17 = .ok (.lconst 1, 1) := by decide +kernel
theorem dX9_unpack_18 : decode cX9_unpack 18 = .ok (.land, 1) := by decide +kernel
theorem dX9_unpack_19 : decode cX9_unpack 19 = .ok (.lconst 1, 1) := by decide +kernel
theorem dX9_unpack_20 : decode cX9_unpack 20 = .ok (.lcmp, 1) := by decide +kernel
theorem dX9_unpack_21 : decode cX9_unpack 21 = .ok (.ifCond .ne 7, 3) := by decide +kernel
theorem dX9_unpack_24 : decode cX9_unpack 24 = .ok (.iconst 1, 1) := by decide +kernel
theorem dX9_unpack_25 : decode cX9_unpack 25 = .ok (.goto 4, 3) := by decide +kernel
theorem dX9_unpack_28 : decode cX9_unpack 28 = .ok (.iconst 0, 1) := by decide +kernel
theorem dX9_unpack_29 : decode cX9_unpack 29 = .ok (.bastore, 1) := by decide +kernel
theorem dX9_unpack_30 : decode cX9_unpack 30 = .ok (.aload_n 0, 1) := by decide +kernel
theorem dX9_unpack_31 : decode cX9_unpack 31 = .ok (.getfield 32, 3) := by decide +kernel
theorem dX9_unpack_34 : decode cX9_unpack 34 = .ok (.iload 5, 2) := by decide +kernel
theorem dX9_unpack_36 : decode cX9_unpack 36 = .ok (.lload_n 3, 1) := by decide +kernel
theorem dX9_unpack_37 : decode cX9_unpack 37 = .ok (.iconst 1, 1) := by decide +kernel
theorem dX9_unpack_38 : decode cX9_unpack 38 = .ok (.lshr, 1) := by decide +kernel
theorem dX9_unpack_39 : decode cX9_unpack 39 = .ok (.ldc2_w 159, 3) := by decide +kernel
theorem dX9_unpack_42 : decode cX9_unpack 42 = .ok (.land, 1) := by decide +kernel
theorem dX9_unpack_43 : decode cX9_unpack 43 = .ok (.l2i, 1) := by decide +kernel
theorem dX9_unpack_44 : decode cX9_unpack 44 = .ok (.iastore, 1) := by decide +kernel
theorem dX9_unpack_45 : decode cX9_unpack 45 = .ok (.lload_n 3, 1) := by decide +kernel
theorem dX9_unpack_46 : decode cX9_unpack 46 = .ok (.bipush 6, 2) := by decide +kernel
theorem dX9_unpack_48 : decode cX9_unpack 48 = .ok (.lshr, 1) := by decide +kernel
theorem dX9_unpack_49 : decode cX9_unpack 49 = .ok (.lstore_n 3, 1) := by decide +kernel
theorem dX9_unpack_50 : decode cX9_unpack 50 = .ok (.iinc 5 (-1), 3) := by decide +kernel
theorem dX9_unpack_53 : decode cX9_unpack 53 = .ok (.goto (-48), 3) := by decide +kernel
theorem dX9_unpack_56 : decode cX9_unpack 56 = .ok (.return_, 1) := by decide +kernel
theorem dX9_counts_0 : decode cX9_counts 0 = .ok (.aload_n 0, 1) := by decide +kernel
theorem dX9_counts_1 : decode cX9_counts 1 = .ok (.getfield 55, 3) := by decide +kernel
theorem dX9_counts_4 : decode cX9_counts 4 = .ok (.iload_n 1, 1) := by decide +kernel
theorem dX9_counts_5 : decode cX9_counts 5 = .ok (.dup2, 1) := by decide +kernel
theorem dX9_counts_6 : decode cX9_counts 6 = .ok (.laload, 1) := by decide +kernel
theorem dX9_counts_7 : decode cX9_counts 7 = .ok (.lload_n 3, 1) := by decide +kernel
theorem dX9_counts_8 : decode cX9_counts 8 = .ok (.ladd, 1) := by decide +kernel
theorem dX9_counts_9 : decode cX9_counts 9 = .ok (.lastore, 1) := by decide +kernel
theorem dX9_counts_10 : decode cX9_counts 10 = .ok (.iload_n 1, 1) := by decide +kernel
theorem dX9_counts_11 : decode cX9_counts 11 = .ok (.iconst 2, 1) := by decide +kernel
theorem dX9_counts_12 : decode cX9_counts 12 = .ok (.if_icmp .ge 13, 3) := by decide +kernel
theorem dX9_counts_15 : decode cX9_counts 15 = .ok (.aload_n 0, 1) := by decide +kernel
theorem dX9_counts_16 : decode cX9_counts 16 = .ok (.getfield 58, 3) := by decide +kernel
theorem dX9_counts_19 : decode cX9_counts 19 = .ok (.iload_n 2, 1) := by decide +kernel
theorem dX9_counts_20 : decode cX9_counts 20 = .ok (.dup2, 1) := by decide +kernel
theorem dX9_counts_21 : decode cX9_counts 21 = .ok (.laload, 1) := by decide +kernel
theorem dX9_counts_22 : decode cX9_counts 22 = .ok (.lload_n 3, 1) := by decide +kernel
theorem dX9_counts_23 : decode cX9_counts 23 = .ok (.ladd, 1) := by decide +kernel
theorem dX9_counts_24 : decode cX9_counts 24 = .ok (.lastore, 1) := by decide +kernel
theorem dX9_counts_25 : decode cX9_counts 25 = .ok (.iconst 0, 1) := by decide +kernel
theorem dX9_counts_26 : decode cX9_counts 26 = .ok (.istore 5, 2) := by decide +kernel
theorem dX9_counts_28 : decode cX9_counts 28 = .ok (.iload 5, 2) := by decide +kernel
theorem dX9_counts_30 : decode cX9_counts 30 = .ok (.bipush 6, 2) := by decide +kernel
theorem dX9_counts_32 : decode cX9_counts 32 = .ok (.if_icmp .ge 49, 3) := by decide +kernel
theorem dX9_counts_35 : decode cX9_counts 35 = .ok (.aload_n 0, 1) := by decide +kernel
theorem dX9_counts_36 : decode cX9_counts 36 = .ok (.getfield 61, 3) := by decide +kernel
theorem dX9_counts_39 : decode cX9_counts 39 = .ok (.bipush 42, 2) := by decide +kernel
theorem dX9_counts_41 : decode cX9_counts 41 = .ok (.iload 5, 2) := by decide +kernel
theorem dX9_counts_43 : decode cX9_counts 43 = .ok (.imul, 1) := by decide +kernel
theorem dX9_counts_44 : decode cX9_counts 44 = .ok (.iconst 2, 1) := by decide +kernel
theorem dX9_counts_45 : decode cX9_counts 45 = .ok (.aload_n 0, 1) := by decide +kernel
theorem dX9_counts_46 : decode cX9_counts 46 = .ok (.getfield 32, 3) := by decide +kernel
theorem dX9_counts_49 : decode cX9_counts 49 = .ok (.iload 5, 2) := by decide +kernel
theorem dX9_counts_51 : decode cX9_counts 51 = .ok (.iaload, 1) := by decide +kernel
theorem dX9_counts_52 : decode cX9_counts 52 = .ok (.imul, 1) := by decide +kernel
theorem dX9_counts_53 : decode cX9_counts 53 = .ok (.iadd, 1) := by decide +kernel
theorem dX9_counts_54 : decode cX9_counts 54 = .ok (.aload_n 0, 1) := by decide +kernel
theorem dX9_counts_55 : decode cX9_counts 55 = .ok (.getfield 35, 3) := by decide +kernel
theorem dX9_counts_58 : decode cX9_counts 58 = .ok (.iload 5, 2) := by decide +kernel
theorem dX9_counts_60 : decode cX9_counts 60 = .ok (.baload, 1) := by decide +kernel
theorem dX9_counts_61 : decode cX9_counts 61 = .ok (.ifCond .eq 7, 3) := by decide +kernel
theorem dX9_counts_64 : decode cX9_counts 64 = .ok (.iconst 1, 1) := by decide +kernel
theorem dX9_counts_65 : decode cX9_counts 65 = .ok (.goto 4, 3) := by decide +kernel
theorem dX9_counts_68 : decode cX9_counts 68 = .ok (.iconst 0, 1) := by decide +kernel
theorem dX9_counts_69 : decode cX9_counts 69 = .ok (.iadd, 1) := by decide +kernel
theorem dX9_counts_70 : decode cX9_counts 70 = .ok (.dup2, 1) := by decide +kernel
theorem dX9_counts_71 : decode cX9_counts 71 = .ok (.laload, 1) := by decide +kernel
theorem dX9_counts_72 : decode cX9_counts 72 = .ok (.lload_n 3, 1) := by decide +kernel
theorem dX9_counts_73 : decode cX9_counts 73 = .ok (.ladd, 1) := by decide +kernel
theorem dX9_counts_74 : decode cX9_counts 74 = .ok (.lastore, 1) := by decide +kernel
theorem dX9_counts_75 : decode cX9_counts 75 = .ok (.iinc 5 1, 3) := by decide +kernel
theorem dX9_counts_78 : decode cX9_counts 78 = .ok (.goto (-50), 3) := by decide +kernel
theorem dX9_counts_81 : decode cX9_counts 81 = .ok (.return_, 1) := by decide +kernel
theorem dX9_comes_0 : decode cX9_comes 0 = .ok (.aload_n 0, 1) := by decide +kernel
theorem dX9_comes_1 : decode cX9_comes 1 = .ok (.invokevirtual 161, 3) := by decide +kernel
theorem dX9_comes_4 : decode cX9_comes 4 = .ok (.lstore_n 3, 1) := by decide +kernel
theorem dX9_comes_5 : decode cX9_comes 5 = .ok (.lload_n 3, 1) := by decide +kernel
theorem dX9_comes_6 : decode cX9_comes 6 = .ok (.ldc2_w 165, 3) := by decide +kernel
theorem dX9_comes_9 : decode cX9_comes 9 = .ok (.lmul, 1) := by decide +kernel
theorem dX9_comes_10 : decode cX9_comes 10 = .ok (.bipush 20, 2) := by decide +kernel
theorem dX9_comes_12 : decode cX9_comes 12 = .ok (.lshr, 1) := by decide +kernel
theorem dX9_comes_13 : decode cX9_comes 13 = .ok (.ldc2_w 167, 3) := by decide +kernel
theorem dX9_comes_16 : decode cX9_comes 16 = .ok (.land, 1) := by decide +kernel
theorem dX9_comes_17 : decode cX9_comes 17 = .ok (.l2i, 1) := by decide +kernel
theorem dX9_comes_18 : decode cX9_comes 18 = .ok (.istore 5, 2) := by decide +kernel
theorem dX9_comes_20 : decode cX9_comes 20 = .ok (.aload_n 0, 1) := by decide +kernel
theorem dX9_comes_21 : decode cX9_comes 21 = .ok (.getfield 52, 3) := by decide +kernel
theorem dX9_comes_24 : decode cX9_comes 24 = .ok (.iload 5, 2) := by decide +kernel
theorem dX9_comes_26 : decode cX9_comes 26 = .ok (.iaload, 1) := by decide +kernel
theorem dX9_comes_27 : decode cX9_comes 27 = .ok (.ifCond .le 35, 3) := by decide +kernel
theorem dX9_comes_30 : decode cX9_comes 30 = .ok (.aload_n 0, 1) := by decide +kernel
theorem dX9_comes_31 : decode cX9_comes 31 = .ok (.getfield 46, 3) := by decide +kernel
theorem dX9_comes_34 : decode cX9_comes 34 = .ok (.aload_n 0, 1) := by decide +kernel
theorem dX9_comes_35 : decode cX9_comes 35 = .ok (.getfield 52, 3) := by decide +kernel
theorem dX9_comes_38 : decode cX9_comes 38 = .ok (.iload 5, 2) := by decide +kernel
theorem dX9_comes_40 : decode cX9_comes 40 = .ok (.iaload, 1) := by decide +kernel
theorem dX9_comes_41 : decode cX9_comes 41 = .ok (.iconst 1, 1) := by decide +kernel
theorem dX9_comes_42 : decode cX9_comes 42 = .ok (.isub, 1) := by decide +kernel
theorem dX9_comes_43 : decode cX9_comes 43 = .ok (.laload, 1) := by decide +kernel
theorem dX9_comes_44 : decode cX9_comes 44 = .ok (.lload_n 3, 1) := by decide +kernel
theorem dX9_comes_45 : decode cX9_comes 45 = .ok (.lcmp, 1) := by decide +kernel
theorem dX9_comes_46 : decode cX9_comes 46 = .ok (.ifCond .eq 16, 3) := by decide +kernel
theorem dX9_comes_49 : decode cX9_comes 49 = .ok (.iload 5, 2) := by decide +kernel
theorem dX9_comes_51 : decode cX9_comes 51 = .ok (.iconst 1, 1) := by decide +kernel
theorem dX9_comes_52 : decode cX9_comes 52 = .ok (.iadd, 1) := by decide +kernel
theorem dX9_comes_53 : decode cX9_comes 53 = .ok (.sipush 2048, 3) := by decide +kernel
theorem dX9_comes_56 : decode cX9_comes 56 = .ok (.irem, 1) := by decide +kernel
theorem dX9_comes_57 : decode cX9_comes 57 = .ok (.istore 5, 2) := by decide +kernel
theorem dX9_comes_59 : decode cX9_comes 59 = .ok (.goto (-39), 3) := by decide +kernel
theorem dX9_comes_62 : decode cX9_comes 62 = .ok (.aload_n 0, 1) := by decide +kernel
theorem dX9_comes_63 : decode cX9_comes 63 = .ok (.getfield 52, 3) := by decide +kernel
theorem dX9_comes_66 : decode cX9_comes 66 = .ok (.iload 5, 2) := by decide +kernel
theorem dX9_comes_68 : decode cX9_comes 68 = .ok (.iaload, 1) := by decide +kernel
theorem dX9_comes_69 : decode cX9_comes 69 = .ok (.ifCond .ne 44, 3) := by decide +kernel
theorem dX9_comes_72 : decode cX9_comes 72 = .ok (.aload_n 0, 1) := by decide +kernel
theorem dX9_comes_73 : decode cX9_comes 73 = .ok (.getfield 46, 3) := by decide +kernel
theorem dX9_comes_76 : decode cX9_comes 76 = .ok (.aload_n 0, 1) := by decide +kernel
theorem dX9_comes_77 : decode cX9_comes 77 = .ok (.getfield 169, 3) := by decide +kernel
theorem dX9_comes_80 : decode cX9_comes 80 = .ok (.lload_n 3, 1) := by decide +kernel
theorem dX9_comes_81 : decode cX9_comes 81 = .ok (.lastore, 1) := by decide +kernel
theorem dX9_comes_82 : decode cX9_comes 82 = .ok (.aload_n 0, 1) := by decide +kernel
theorem dX9_comes_83 : decode cX9_comes 83 = .ok (.getfield 49, 3) := by decide +kernel
theorem dX9_comes_86 : decode cX9_comes 86 = .ok (.aload_n 0, 1) := by decide +kernel
theorem dX9_comes_87 : decode cX9_comes 87 = .ok (.getfield 169, 3) := by decide +kernel
theorem dX9_comes_90 : decode cX9_comes 90 = .ok (.lconst 0, 1) := by decide +kernel
theorem dX9_comes_91 : decode cX9_comes 91 = .ok (.lastore, 1) := by decide +kernel
theorem dX9_comes_92 : decode cX9_comes 92 = .ok (.aload_n 0, 1) := by decide +kernel
theorem dX9_comes_93 : decode cX9_comes 93 = .ok (.dup, 1) := by decide +kernel
theorem dX9_comes_94 : decode cX9_comes 94 = .ok (.getfield 169, 3) := by decide +kernel
theorem dX9_comes_97 : decode cX9_comes 97 = .ok (.iconst 1, 1) := by decide +kernel
theorem dX9_comes_98 : decode cX9_comes 98 = .ok (.iadd, 1) := by decide +kernel
theorem dX9_comes_99 : decode cX9_comes 99 = .ok (.putfield 169, 3) := by decide +kernel
theorem dX9_comes_102 : decode cX9_comes 102 = .ok (.aload_n 0, 1) := by decide +kernel
theorem dX9_comes_103 : decode cX9_comes 103 = .ok (.getfield 52, 3) := by decide +kernel
theorem dX9_comes_106 : decode cX9_comes 106 = .ok (.iload 5, 2) := by decide +kernel
theorem dX9_comes_108 : decode cX9_comes 108 = .ok (.aload_n 0, 1) := by decide +kernel
theorem dX9_comes_109 : decode cX9_comes 109 = .ok (.getfield 169, 3) := by decide +kernel
theorem dX9_comes_112 : decode cX9_comes 112 = .ok (.iastore, 1) := by decide +kernel
theorem dX9_comes_113 : decode cX9_comes 113 = .ok (.aload_n 0, 1) := by decide +kernel
theorem dX9_comes_114 : decode cX9_comes 114 = .ok (.getfield 49, 3) := by decide +kernel
theorem dX9_comes_117 : decode cX9_comes 117 = .ok (.aload_n 0, 1) := by decide +kernel
theorem dX9_comes_118 : decode cX9_comes 118 = .ok (.getfield 52, 3) := by decide +kernel
theorem dX9_comes_121 : decode cX9_comes 121 = .ok (.iload 5, 2) := by decide +kernel
theorem dX9_comes_123 : decode cX9_comes 123 = .ok (.iaload, 1) := by decide +kernel
theorem dX9_comes_124 : decode cX9_comes 124 = .ok (.iconst 1, 1) := by decide +kernel
theorem dX9_comes_125 : decode cX9_comes 125 = .ok (.isub, 1) := by decide +kernel
theorem dX9_comes_126 : decode cX9_comes 126 = .ok (.dup2, 1) := by decide +kernel
theorem dX9_comes_127 : decode cX9_comes 127 = .ok (.laload, 1) := by decide +kernel
theorem dX9_comes_128 : decode cX9_comes 128 = .ok (.lload_n 1, 1) := by decide +kernel
theorem dX9_comes_129 : decode cX9_comes 129 = .ok (.ladd, 1) := by decide +kernel
theorem dX9_comes_130 : decode cX9_comes 130 = .ok (.lastore, 1) := by decide +kernel
theorem dX9_comes_131 : decode cX9_comes 131 = .ok (.return_, 1) := by decide +kernel
theorem dX9_goesOn_0 : decode cX9_goesOn 0 = .ok (.aload_n 0, 1) := by decide +kernel
theorem dX9_goesOn_1 : decode cX9_goesOn 1 = .ok (.invokevirtual 172, 3) := by decide +kernel
theorem dX9_goesOn_4 : decode cX9_goesOn 4 = .ok (.istore 6, 2) := by decide +kernel
theorem dX9_goesOn_6 : decode cX9_goesOn 6 = .ok (.iload 6, 2) := by decide +kernel
theorem dX9_goesOn_8 : decode cX9_goesOn 8 = .ok (.iconst 2, 1) := by decide +kernel
theorem dX9_goesOn_9 : decode cX9_goesOn 9 = .ok (.if_icmp .ge 19, 3) := by decide +kernel
theorem dX9_goesOn_12 : decode cX9_goesOn 12 = .ok (.aload_n 0, 1) := by decide +kernel
theorem dX9_goesOn_13 : decode cX9_goesOn 13 = .ok (.iload 6, 2) := by decide +kernel
theorem dX9_goesOn_15 : decode cX9_goesOn 15 = .ok (.iload_n 1, 1) := by decide +kernel
theorem dX9_goesOn_16 : decode cX9_goesOn 16 = .ok (.iconst 1, 1) := by decide +kernel
theorem dX9_goesOn_17 : decode cX9_goesOn 17 = .ok (.iadd, 1) := by decide +kernel
theorem dX9_goesOn_18 : decode cX9_goesOn 18 = .ok (.lload_n 2, 1) := by decide +kernel
theorem dX9_goesOn_19 : decode cX9_goesOn 19 = .ok (.lload 4, 2) := by decide +kernel
theorem dX9_goesOn_21 : decode cX9_goesOn 21 = .ok (.lmul, 1) := by decide +kernel
theorem dX9_goesOn_22 : decode cX9_goesOn 22 = .ok (.invokevirtual 176, 3) := by decide +kernel
theorem dX9_goesOn_25 : decode cX9_goesOn 25 = .ok (.goto 8, 3) := by decide +kernel
theorem dX9_goesOn_28 : decode cX9_goesOn 28 = .ok (.aload_n 0, 1) := by decide +kernel
theorem dX9_goesOn_29 : decode cX9_goesOn 29 = .ok (.lload_n 2, 1) := by decide +kernel
theorem dX9_goesOn_30 : decode cX9_goesOn 30 = .ok (.invokevirtual 180, 3) := by decide +kernel
theorem dX9_goesOn_33 : decode cX9_goesOn 33 = .ok (.return_, 1) := by decide +kernel
theorem dX9_slotsNow_0 : decode cX9_slotsNow 0 = .ok (.aload_n 0, 1) := by decide +kernel
theorem dX9_slotsNow_1 : decode cX9_slotsNow 1 = .ok (.getfield 16, 3) := by decide +kernel
theorem dX9_slotsNow_4 : decode cX9_slotsNow 4 = .ok (.aload_n 0, 1) := by decide +kernel
theorem dX9_slotsNow_5 : decode cX9_slotsNow 5 = .ok (.getfield 148, 3) := by decide +kernel
theorem dX9_slotsNow_8 : decode cX9_slotsNow 8 = .ok (.imul, 1) := by decide +kernel
theorem dX9_slotsNow_9 : decode cX9_slotsNow 9 = .ok (.ireturn, 1) := by decide +kernel
theorem dX9_works_0 : decode cX9_works 0 = .ok (.aload_n 0, 1) := by decide +kernel
theorem dX9_works_1 : decode cX9_works 1 = .ok (.invokevirtual 184, 3) := by decide +kernel
theorem dX9_works_4 : decode cX9_works 4 = .ok (.aload_n 0, 1) := by decide +kernel
theorem dX9_works_5 : decode cX9_works 5 = .ok (.iconst 0, 1) := by decide +kernel
theorem dX9_works_6 : decode cX9_works 6 = .ok (.putfield 187, 3) := by decide +kernel
theorem dX9_works_9 : decode cX9_works 9 = .ok (.aload_n 0, 1) := by decide +kernel
theorem dX9_works_10 : decode cX9_works 10 = .ok (.invokevirtual 190, 3) := by decide +kernel
theorem dX9_works_13 : decode cX9_works 13 = .ok (.istore_n 1, 1) := by decide +kernel
theorem dX9_works_14 : decode cX9_works 14 = .ok (.iload_n 1, 1) := by decide +kernel
theorem dX9_works_15 : decode cX9_works 15 = .ok (.bipush 22, 2) := by decide +kernel
theorem dX9_works_17 : decode cX9_works 17 = .ok (.if_icmp .le 6, 3) := by decide +kernel
theorem dX9_works_20 : decode cX9_works 20 = .ok (.bipush (-5), 2) := by decide +kernel
theorem dX9_works_22 : decode cX9_works 22 = .ok (.ireturn, 1) := by decide +kernel
theorem dX9_works_23 : decode cX9_works 23 = .ok (.aload_n 0, 1) := by decide +kernel
theorem dX9_works_24 : decode cX9_works 24 = .ok (.getfield 64, 3) := by decide +kernel
theorem dX9_works_27 : decode cX9_works 27 = .ok (.iconst 0, 1) := by decide +kernel
theorem dX9_works_28 : decode cX9_works 28 = .ok (.lconst 1, 1) := by decide +kernel
theorem dX9_works_29 : decode cX9_works 29 = .ok (.lastore, 1) := by decide +kernel
theorem dX9_works_30 : decode cX9_works 30 = .ok (.iconst 1, 1) := by decide +kernel
theorem dX9_works_31 : decode cX9_works 31 = .ok (.istore_n 2, 1) := by decide +kernel
theorem dX9_works_32 : decode cX9_works 32 = .ok (.iload_n 2, 1) := by decide +kernel
theorem dX9_works_33 : decode cX9_works 33 = .ok (.iload_n 1, 1) := by decide +kernel
theorem dX9_works_34 : decode cX9_works 34 = .ok (.if_icmp .gt 27, 3) := by decide +kernel
theorem dX9_works_37 : decode cX9_works 37 = .ok (.aload_n 0, 1) := by decide +kernel
theorem dX9_works_38 : decode cX9_works 38 = .ok (.getfield 64, 3) := by decide +kernel
theorem dX9_works_41 : decode cX9_works 41 = .ok (.iload_n 2, 1) := by decide +kernel
theorem dX9_works_42 : decode cX9_works 42 = .ok (.ldc2_w 113, 3) := by decide +kernel
theorem dX9_works_45 : decode cX9_works 45 = .ok (.aload_n 0, 1) := by decide +kernel
theorem dX9_works_46 : decode cX9_works 46 = .ok (.getfield 64, 3) := by decide +kernel
theorem dX9_works_49 : decode cX9_works 49 = .ok (.iload_n 2, 1) := by decide +kernel
theorem dX9_works_50 : decode cX9_works 50 = .ok (.iconst 1, 1) := by decide +kernel
theorem dX9_works_51 : decode cX9_works 51 = .ok (.isub, 1) := by decide +kernel
theorem dX9_works_52 : decode cX9_works 52 = .ok (.laload, 1) := by decide +kernel
theorem dX9_works_53 : decode cX9_works 53 = .ok (.lmul, 1) := by decide +kernel
theorem dX9_works_54 : decode cX9_works 54 = .ok (.lastore, 1) := by decide +kernel
theorem dX9_works_55 : decode cX9_works 55 = .ok (.iinc 2 1, 3) := by decide +kernel
theorem dX9_works_58 : decode cX9_works 58 = .ok (.goto (-26), 3) := by decide +kernel
theorem dX9_works_61 : decode cX9_works 61 = .ok (.iconst 0, 1) := by decide +kernel
theorem dX9_works_62 : decode cX9_works 62 = .ok (.istore_n 2, 1) := by decide +kernel
theorem dX9_works_63 : decode cX9_works 63 = .ok (.iload_n 2, 1) := by decide +kernel
theorem dX9_works_64 : decode cX9_works 64 = .ok (.iconst 3, 1) := by decide +kernel
theorem dX9_works_65 : decode cX9_works 65 = .ok (.if_icmp .ge 16, 3) := by decide +kernel
theorem dX9_works_68 : decode cX9_works 68 = .ok (.aload_n 0, 1) := by decide +kernel
theorem dX9_works_69 : decode cX9_works 69 = .ok (.getfield 55, 3) := by decide +kernel
theorem dX9_works_72 : decode cX9_works 72 = .ok (.iload_n 2, 1) := by decide +kernel
theorem dX9_works_73 : decode cX9_works 73 = .ok (.lconst 0, 1) := by decide +kernel
theorem dX9_works_74 : decode cX9_works 74 = .ok (.lastore, 1) := by decide +kernel
theorem dX9_works_75 : decode cX9_works 75 = .ok (.iinc 2 1, 3) := by decide +kernel
theorem dX9_works_78 : decode cX9_works 78 = .ok (.goto (-15), 3) := by decide +kernel
theorem dX9_works_81 : decode cX9_works 81 = .ok (.iconst 0, 1) := by decide +kernel
theorem dX9_works_82 : decode cX9_works 82 = .ok (.istore_n 2, 1) := by decide +kernel
theorem dX9_works_83 : decode cX9_works 83 = .ok (.iload_n 2, 1) := by decide +kernel
theorem dX9_works_84 : decode cX9_works 84 = .ok (.bipush 7, 2) := by decide +kernel
theorem dX9_works_86 : decode cX9_works 86 = .ok (.if_icmp .ge 16, 3) := by decide +kernel
theorem dX9_works_89 : decode cX9_works 89 = .ok (.aload_n 0, 1) := by decide +kernel
theorem dX9_works_90 : decode cX9_works 90 = .ok (.getfield 58, 3) := by decide +kernel
theorem dX9_works_93 : decode cX9_works 93 = .ok (.iload_n 2, 1) := by decide +kernel
theorem dX9_works_94 : decode cX9_works 94 = .ok (.lconst 0, 1) := by decide +kernel
theorem dX9_works_95 : decode cX9_works 95 = .ok (.lastore, 1) := by decide +kernel
theorem dX9_works_96 : decode cX9_works 96 = .ok (.iinc 2 1, 3) := by decide +kernel
theorem dX9_works_99 : decode cX9_works 99 = .ok (.goto (-16), 3) := by decide +kernel
theorem dX9_works_102 : decode cX9_works 102 = .ok (.iconst 0, 1) := by decide +kernel
theorem dX9_works_103 : decode cX9_works 103 = .ok (.istore_n 2, 1) := by decide +kernel
theorem dX9_works_104 : decode cX9_works 104 = .ok (.iload_n 2, 1) := by decide +kernel
theorem dX9_works_105 : decode cX9_works 105 = .ok (.sipush 252, 3) := by decide +kernel
theorem dX9_works_108 : decode cX9_works 108 = .ok (.if_icmp .ge 16, 3) := by decide +kernel
theorem dX9_works_111 : decode cX9_works 111 = .ok (.aload_n 0, 1) := by decide +kernel
theorem dX9_works_112 : decode cX9_works 112 = .ok (.getfield 61, 3) := by decide +kernel
theorem dX9_works_115 : decode cX9_works 115 = .ok (.iload_n 2, 1) := by decide +kernel
theorem dX9_works_116 : decode cX9_works 116 = .ok (.lconst 0, 1) := by decide +kernel
theorem dX9_works_117 : decode cX9_works 117 = .ok (.lastore, 1) := by decide +kernel
theorem dX9_works_118 : decode cX9_works 118 = .ok (.iinc 2 1, 3) := by decide +kernel
theorem dX9_works_121 : decode cX9_works 121 = .ok (.goto (-17), 3) := by decide +kernel
theorem dX9_works_124 : decode cX9_works 124 = .ok (.aload_n 0, 1) := by decide +kernel
theorem dX9_works_125 : decode cX9_works 125 = .ok (.invokevirtual 172, 3) := by decide +kernel
theorem dX9_works_128 : decode cX9_works 128 = .ok (.iconst 2, 1) := by decide +kernel
theorem dX9_works_129 : decode cX9_works 129 = .ok (.if_icmp .ge 20, 3) := by decide +kernel
theorem dX9_works_132 : decode cX9_works 132 = .ok (.aload_n 0, 1) := by decide +kernel
theorem dX9_works_133 : decode cX9_works 133 = .ok (.aload_n 0, 1) := by decide +kernel
theorem dX9_works_134 : decode cX9_works 134 = .ok (.invokevirtual 172, 3) := by decide +kernel
theorem dX9_works_137 : decode cX9_works 137 = .ok (.iconst 0, 1) := by decide +kernel
theorem dX9_works_138 : decode cX9_works 138 = .ok (.aload_n 0, 1) := by decide +kernel
theorem dX9_works_139 : decode cX9_works 139 = .ok (.getfield 64, 3) := by decide +kernel
theorem dX9_works_142 : decode cX9_works 142 = .ok (.iload_n 1, 1) := by decide +kernel
theorem dX9_works_143 : decode cX9_works 143 = .ok (.laload, 1) := by decide +kernel
theorem dX9_works_144 : decode cX9_works 144 = .ok (.invokevirtual 176, 3) := by decide +kernel
theorem dX9_works_147 : decode cX9_works 147 = .ok (.iconst 0, 1) := by decide +kernel
theorem dX9_works_148 : decode cX9_works 148 = .ok (.ireturn, 1) := by decide +kernel
theorem dX9_works_149 : decode cX9_works 149 = .ok (.aload_n 0, 1) := by decide +kernel
theorem dX9_works_150 : decode cX9_works 150 = .ok (.iconst 1, 1) := by decide +kernel
theorem dX9_works_151 : decode cX9_works 151 = .ok (.putfield 193, 3) := by decide +kernel
theorem dX9_works_154 : decode cX9_works 154 = .ok (.aload_n 0, 1) := by decide +kernel
theorem dX9_works_155 : decode cX9_works 155 = .ok (.getfield 39, 3) := by decide +kernel
theorem dX9_works_158 : decode cX9_works 158 = .ok (.iconst 0, 1) := by decide +kernel
theorem dX9_works_159 : decode cX9_works 159 = .ok (.aload_n 0, 1) := by decide +kernel
theorem dX9_works_160 : decode cX9_works 160 = .ok (.invokevirtual 161, 3) := by decide +kernel
theorem dX9_works_163 : decode cX9_works 163 = .ok (.lastore, 1) := by decide +kernel
theorem dX9_works_164 : decode cX9_works 164 = .ok (.aload_n 0, 1) := by decide +kernel
theorem dX9_works_165 : decode cX9_works 165 = .ok (.getfield 43, 3) := by decide +kernel
theorem dX9_works_168 : decode cX9_works 168 = .ok (.iconst 0, 1) := by decide +kernel
theorem dX9_works_169 : decode cX9_works 169 = .ok (.lconst 1, 1) := by decide +kernel
theorem dX9_works_170 : decode cX9_works 170 = .ok (.lastore, 1) := by decide +kernel
theorem dX9_works_171 : decode cX9_works 171 = .ok (.iconst 0, 1) := by decide +kernel
theorem dX9_works_172 : decode cX9_works 172 = .ok (.istore_n 2, 1) := by decide +kernel
theorem dX9_works_173 : decode cX9_works 173 = .ok (.iload_n 2, 1) := by decide +kernel
theorem dX9_works_174 : decode cX9_works 174 = .ok (.iload_n 1, 1) := by decide +kernel
theorem dX9_works_175 : decode cX9_works 175 = .ok (.if_icmp .ge 347, 3) := by decide +kernel
theorem dX9_works_178 : decode cX9_works 178 = .ok (.aload_n 0, 1) := by decide +kernel
theorem dX9_works_179 : decode cX9_works 179 = .ok (.aload_n 0, 1) := by decide +kernel
theorem dX9_works_180 : decode cX9_works 180 = .ok (.getfield 193, 3) := by decide +kernel
theorem dX9_works_183 : decode cX9_works 183 = .ok (.aload_n 0, 1) := by decide +kernel
theorem dX9_works_184 : decode cX9_works 184 = .ok (.getfield 187, 3) := by decide +kernel
theorem dX9_works_187 : decode cX9_works 187 = .ok (.if_icmp .le 10, 3) := by decide +kernel
theorem dX9_works_190 : decode cX9_works 190 = .ok (.aload_n 0, 1) := by decide +kernel
theorem dX9_works_191 : decode cX9_works 191 = .ok (.getfield 193, 3) := by decide +kernel
theorem dX9_works_194 : decode cX9_works 194 = .ok (.goto 7, 3) := by decide +kernel
theorem dX9_works_197 : decode cX9_works 197 = .ok (.aload_n 0, 1) := by decide +kernel
theorem dX9_works_198 : decode cX9_works 198 = .ok (.getfield 187, 3) := by decide +kernel
theorem dX9_works_201 : decode cX9_works 201 = .ok (.putfield 187, 3) := by decide +kernel
theorem dX9_works_204 : decode cX9_works 204 = .ok (.iload_n 2, 1) := by decide +kernel
theorem dX9_works_205 : decode cX9_works 205 = .ok (.aload_n 0, 1) := by decide +kernel
theorem dX9_works_206 : decode cX9_works 206 = .ok (.getfield 148, 3) := by decide +kernel
theorem dX9_works_209 : decode cX9_works 209 = .ok (.idiv, 1) := by decide +kernel
theorem dX9_works_210 : decode cX9_works 210 = .ok (.istore_n 3, 1) := by decide +kernel
theorem dX9_works_211 : decode cX9_works 211 = .ok (.aload_n 0, 1) := by decide +kernel
theorem dX9_works_212 : decode cX9_works 212 = .ok (.getfield 29, 3) := by decide +kernel
theorem dX9_works_215 : decode cX9_works 215 = .ok (.iload_n 2, 1) := by decide +kernel
theorem dX9_works_216 : decode cX9_works 216 = .ok (.aload_n 0, 1) := by decide +kernel
theorem dX9_works_217 : decode cX9_works 217 = .ok (.getfield 148, 3) := by decide +kernel
theorem dX9_works_220 : decode cX9_works 220 = .ok (.irem, 1) := by decide +kernel
theorem dX9_works_221 : decode cX9_works 221 = .ok (.iaload, 1) := by decide +kernel
theorem dX9_works_222 : decode cX9_works 222 = .ok (.istore 4, 2) := by decide +kernel
theorem dX9_works_224 : decode cX9_works 224 = .ok (.aload_n 0, 1) := by decide +kernel
theorem dX9_works_225 : decode cX9_works 225 = .ok (.getfield 64, 3) := by decide +kernel
theorem dX9_works_228 : decode cX9_works 228 = .ok (.iload_n 1, 1) := by decide +kernel
theorem dX9_works_229 : decode cX9_works 229 = .ok (.iconst 1, 1) := by decide +kernel
theorem dX9_works_230 : decode cX9_works 230 = .ok (.isub, 1) := by decide +kernel
theorem dX9_works_231 : decode cX9_works 231 = .ok (.iload_n 2, 1) := by decide +kernel
theorem dX9_works_232 : decode cX9_works 232 = .ok (.isub, 1) := by decide +kernel
theorem dX9_works_233 : decode cX9_works 233 = .ok (.laload, 1) := by decide +kernel
theorem dX9_works_234 : decode cX9_works 234 = .ok (.lstore 5, 2) := by decide +kernel
theorem dX9_works_236 : decode cX9_works 236 = .ok (.aload_n 0, 1) := by decide +kernel
theorem dX9_works_237 : decode cX9_works 237 = .ok (.iconst 0, 1) := by decide +kernel
theorem dX9_works_238 : decode cX9_works 238 = .ok (.putfield 169, 3) := by decide +kernel
theorem dX9_works_241 : decode cX9_works 241 = .ok (.iconst 0, 1) := by decide +kernel
theorem dX9_works_242 : decode cX9_works 242 = .ok (.istore 7, 2) := by decide +kernel
theorem dX9_works_244 : decode cX9_works 244 = .ok (.iload 7, 2) := by decide +kernel
theorem dX9_works_246 : decode cX9_works 246 = .ok (.sipush 2048, 3) := by decide +kernel
theorem dX9_works_249 : decode cX9_works 249 = .ok (.if_icmp .ge 17, 3) := by decide +kernel
theorem dX9_works_252 : decode cX9_works 252 = .ok (.aload_n 0, 1) := by decide +kernel
theorem dX9_works_253 : decode cX9_works 253 = .ok (.getfield 52, 3) := by decide +kernel
theorem dX9_works_256 : decode cX9_works 256 = .ok (.iload 7, 2) := by decide +kernel
theorem dX9_works_258 : decode cX9_works 258 = .ok (.iconst 0, 1) := by decide +kernel
theorem dX9_works_259 : decode cX9_works 259 = .ok (.iastore, 1) := by decide +kernel
theorem dX9_works_260 : decode cX9_works 260 = .ok (.iinc 7 1, 3) := by decide +kernel
theorem dX9_works_263 : decode cX9_works 263 = .ok (.goto (-19), 3) := by decide +kernel
theorem dX9_works_266 : decode cX9_works 266 = .ok (.iconst 0, 1) := by decide +kernel
theorem dX9_works_267 : decode cX9_works 267 = .ok (.istore 7, 2) := by decide +kernel
theorem dX9_works_269 : decode cX9_works 269 = .ok (.iload 7, 2) := by decide +kernel
theorem dX9_works_271 : decode cX9_works 271 = .ok (.aload_n 0, 1) := by decide +kernel
theorem dX9_works_272 : decode cX9_works 272 = .ok (.getfield 193, 3) := by decide +kernel
theorem dX9_works_275 : decode cX9_works 275 = .ok (.if_icmp .ge 160, 3) := by decide +kernel
theorem dX9_works_278 : decode cX9_works 278 = .ok (.aload_n 0, 1) := by decide +kernel
theorem dX9_works_279 : decode cX9_works 279 = .ok (.aload_n 0, 1) := by decide +kernel
theorem dX9_works_280 : decode cX9_works 280 = .ok (.getfield 39, 3) := by decide +kernel
theorem dX9_works_283 : decode cX9_works 283 = .ok (.iload 7, 2) := by decide +kernel
theorem dX9_works_285 : decode cX9_works 285 = .ok (.laload, 1) := by decide +kernel
theorem dX9_works_286 : decode cX9_works 286 = .ok (.invokevirtual 196, 3) := by decide +kernel
theorem dX9_works_289 : decode cX9_works 289 = .ok (.aload_n 0, 1) := by decide +kernel
theorem dX9_works_290 : decode cX9_works 290 = .ok (.iload 4, 2) := by decide +kernel
theorem dX9_works_292 : decode cX9_works 292 = .ok (.iload_n 3, 1) := by decide +kernel
theorem dX9_works_293 : decode cX9_works 293 = .ok (.invokevirtual 199, 3) := by decide +kernel
theorem dX9_works_296 : decode cX9_works 296 = .ok (.ifCond .ne 21, 3) := by decide +kernel
theorem dX9_works_299 : decode cX9_works 299 = .ok (.aload_n 0, 1) := by decide +kernel
theorem dX9_works_300 : decode cX9_works 300 = .ok (.ldc2_w 113, 3) := by decide +kernel
theorem dX9_works_303 : decode cX9_works 303 = .ok (.aload_n 0, 1) := by decide +kernel
theorem dX9_works_304 : decode cX9_works 304 = .ok (.getfield 43, 3) := by decide +kernel
theorem dX9_works_307 : decode cX9_works 307 = .ok (.iload 7, 2) := by decide +kernel
theorem dX9_works_309 : decode cX9_works 309 = .ok (.laload, 1) := by decide +kernel
theorem dX9_works_310 : decode cX9_works 310 = .ok (.lmul, 1) := by decide +kernel
theorem dX9_works_311 : decode cX9_works 311 = .ok (.invokevirtual 180, 3) := by decide +kernel
theorem dX9_works_314 : decode cX9_works 314 = .ok (.goto 115, 3) := by decide +kernel
theorem dX9_works_317 : decode cX9_works 317 = .ok (.aload_n 0, 1) := by decide +kernel
theorem dX9_works_318 : decode cX9_works 318 = .ok (.iload 4, 2) := by decide +kernel
theorem dX9_works_320 : decode cX9_works 320 = .ok (.invokevirtual 202, 3) := by decide +kernel
theorem dX9_works_323 : decode cX9_works 323 = .ok (.ifCond .eq 32, 3) := by decide +kernel
theorem dX9_works_326 : decode cX9_works 326 = .ok (.aload_n 0, 1) := by decide +kernel
theorem dX9_works_327 : decode cX9_works 327 = .ok (.getfield 35, 3) := by decide +kernel
theorem dX9_works_330 : decode cX9_works 330 = .ok (.iload 4, 2) := by decide +kernel
theorem dX9_works_332 : decode cX9_works 332 = .ok (.iconst 0, 1) := by decide +kernel
theorem dX9_works_333 : decode cX9_works 333 = .ok (.bastore, 1) := by decide +kernel
theorem dX9_works_334 : decode cX9_works 334 = .ok (.aload_n 0, 1) := by decide +kernel
theorem dX9_works_335 : decode cX9_works 335 = .ok (.iload_n 3, 1) := by decide +kernel
theorem dX9_works_336 : decode cX9_works 336 = .ok (.ldc2_w 113, 3) := by decide +kernel
theorem dX9_works_339 : decode cX9_works 339 = .ok (.aload_n 0, 1) := by decide +kernel
theorem dX9_works_340 : decode cX9_works 340 = .ok (.getfield 43, 3) := by decide +kernel
theorem dX9_works_343 : decode cX9_works 343 = .ok (.iload 7, 2) := by decide +kernel
theorem dX9_works_345 : decode cX9_works 345 = .ok (.laload, 1) := by decide +kernel
theorem dX9_works_346 : decode cX9_works 346 = .ok (.lmul, 1) := by decide +kernel
theorem dX9_works_347 : decode cX9_works 347 = .ok (.lload 5, 2) := by decide +kernel
theorem dX9_works_349 : decode cX9_works 349 = .ok (.invokevirtual 205, 3) := by decide +kernel
theorem dX9_works_352 : decode cX9_works 352 = .ok (.goto 77, 3) := by decide +kernel
theorem dX9_works_355 : decode cX9_works 355 = .ok (.aload_n 0, 1) := by decide +kernel
theorem dX9_works_356 : decode cX9_works 356 = .ok (.getfield 7, 3) := by decide +kernel
theorem dX9_works_359 : decode cX9_works 359 = .ok (.bipush 6, 2) := by decide +kernel
theorem dX9_works_361 : decode cX9_works 361 = .ok (.aload_n 0, 1) := by decide +kernel
theorem dX9_works_362 : decode cX9_works 362 = .ok (.getfield 23, 3) := by decide +kernel
theorem dX9_works_365 : decode cX9_works 365 = .ok (.iload 4, 2) := by decide +kernel
theorem dX9_works_367 : decode cX9_works 367 = .ok (.iaload, 1) := by decide +kernel
theorem dX9_works_368 : decode cX9_works 368 = .ok (.imul, 1) := by decide +kernel
theorem dX9_works_369 : decode cX9_works 369 = .ok (.iconst 2, 1) := by decide +kernel
theorem dX9_works_370 : decode cX9_works 370 = .ok (.iadd, 1) := by decide +kernel
theorem dX9_works_371 : decode cX9_works 371 = .ok (.iaload, 1) := by decide +kernel
theorem dX9_works_372 : decode cX9_works 372 = .ok (.istore 8, 2) := by decide +kernel
theorem dX9_works_374 : decode cX9_works 374 = .ok (.iload 8, 2) := by decide +kernel
theorem dX9_works_376 : decode cX9_works 376 = .ok (.bipush 6, 2) := by decide +kernel
theorem dX9_works_378 : decode cX9_works 378 = .ok (.if_icmp .ge 22, 3) := by decide +kernel
theorem dX9_works_381 : decode cX9_works 381 = .ok (.aload_n 0, 1) := by decide +kernel
theorem dX9_works_382 : decode cX9_works 382 = .ok (.ldc2_w 113, 3) := by decide +kernel
theorem dX9_works_385 : decode cX9_works 385 = .ok (.iload 8, 2) := by decide +kernel
theorem dX9_works_387 : decode cX9_works 387 = .ok (.i2l, 1) := by decide +kernel
theorem dX9_works_388 : decode cX9_works 388 = .ok (.lsub, 1) := by decide +kernel
theorem dX9_works_389 : decode cX9_works 389 = .ok (.aload_n 0, 1) := by decide +kernel
theorem dX9_works_390 : decode cX9_works 390 = .ok (.getfield 43, 3) := by decide +kernel
theorem dX9_works_393 : decode cX9_works 393 = .ok (.iload 7, 2) := by decide +kernel
theorem dX9_works_395 : decode cX9_works 395 = .ok (.laload, 1) := by decide +kernel
theorem dX9_works_396 : decode cX9_works 396 = .ok (.lmul, 1) := by decide +kernel
theorem dX9_works_397 : decode cX9_works 397 = .ok (.invokevirtual 180, 3) := by decide +kernel
theorem dX9_works_400 : decode cX9_works 400 = .ok (.iload 8, 2) := by decide +kernel
theorem dX9_works_402 : decode cX9_works 402 = .ok (.ifCond .le 27, 3) := by decide +kernel
theorem dX9_works_405 : decode cX9_works 405 = .ok (.aload_n 0, 1) := by decide +kernel
theorem dX9_works_406 : decode cX9_works 406 = .ok (.iload 4, 2) := by decide +kernel
theorem dX9_works_408 : decode cX9_works 408 = .ok (.invokevirtual 209, 3) := by decide +kernel
theorem dX9_works_411 : decode cX9_works 411 = .ok (.aload_n 0, 1) := by decide +kernel
theorem dX9_works_412 : decode cX9_works 412 = .ok (.iload_n 3, 1) := by decide +kernel
theorem dX9_works_413 : decode cX9_works 413 = .ok (.iload 8, 2) := by decide +kernel
theorem dX9_works_415 : decode cX9_works 415 = .ok (.i2l, 1) := by decide +kernel
theorem dX9_works_416 : decode cX9_works 416 = .ok (.aload_n 0, 1) := by decide +kernel
theorem dX9_works_417 : decode cX9_works 417 = .ok (.getfield 43, 3) := by decide +kernel
theorem dX9_works_420 : decode cX9_works 420 = .ok (.iload 7, 2) := by decide +kernel
theorem dX9_works_422 : decode cX9_works 422 = .ok (.laload, 1) := by decide +kernel
theorem dX9_works_423 : decode cX9_works 423 = .ok (.lmul, 1) := by decide +kernel
theorem dX9_works_424 : decode cX9_works 424 = .ok (.lload 5, 2) := by decide +kernel
theorem dX9_works_426 : decode cX9_works 426 = .ok (.invokevirtual 205, 3) := by decide +kernel
theorem dX9_works_429 : decode cX9_works 429 = .ok (.iinc 7 1, 3) := by decide +kernel
theorem dX9_works_432 : decode cX9_works 432 = .ok (.goto (-163), 3) := by decide +kernel
theorem dX9_works_435 : decode cX9_works 435 = .ok (.iload_n 2, 1) := by decide +kernel
theorem dX9_works_436 : decode cX9_works 436 = .ok (.iconst 1, 1) := by decide +kernel
theorem dX9_works_437 : decode cX9_works 437 = .ok (.iadd, 1) := by decide +kernel
theorem dX9_works_438 : decode cX9_works 438 = .ok (.iload_n 1, 1) := by decide +kernel
theorem dX9_works_439 : decode cX9_works 439 = .ok (.if_icmp .ge 16, 3) := by decide +kernel
theorem dX9_works_442 : decode cX9_works 442 = .ok (.aload_n 0, 1) := by decide +kernel
theorem dX9_works_443 : decode cX9_works 443 = .ok (.getfield 169, 3) := by decide +kernel
theorem dX9_works_446 : decode cX9_works 446 = .ok (.sipush 400, 3) := by decide +kernel
theorem dX9_works_449 : decode cX9_works 449 = .ok (.if_icmp .le 6, 3) := by decide +kernel
theorem dX9_works_452 : decode cX9_works 452 = .ok (.bipush (-5), 2) := by decide +kernel
theorem dX9_works_454 : decode cX9_works 454 = .ok (.ireturn, 1) := by decide +kernel
theorem dX9_works_455 : decode cX9_works 455 = .ok (.iload_n 2, 1) := by decide +kernel
theorem dX9_works_456 : decode cX9_works 456 = .ok (.iconst 1, 1) := by decide +kernel
theorem dX9_works_457 : decode cX9_works 457 = .ok (.iadd, 1) := by decide +kernel
theorem dX9_works_458 : decode cX9_works 458 = .ok (.iload_n 1, 1) := by decide +kernel
theorem dX9_works_459 : decode cX9_works 459 = .ok (.if_icmp .ge 57, 3) := by decide +kernel
theorem dX9_works_462 : decode cX9_works 462 = .ok (.aload_n 0, 1) := by decide +kernel
theorem dX9_works_463 : decode cX9_works 463 = .ok (.aload_n 0, 1) := by decide +kernel
theorem dX9_works_464 : decode cX9_works 464 = .ok (.getfield 169, 3) := by decide +kernel
theorem dX9_works_467 : decode cX9_works 467 = .ok (.putfield 193, 3) := by decide +kernel
theorem dX9_works_470 : decode cX9_works 470 = .ok (.iconst 0, 1) := by decide +kernel
theorem dX9_works_471 : decode cX9_works 471 = .ok (.istore 7, 2) := by decide +kernel
theorem dX9_works_473 : decode cX9_works 473 = .ok (.iload 7, 2) := by decide +kernel
theorem dX9_works_475 : decode cX9_works 475 = .ok (.aload_n 0, 1) := by decide +kernel
theorem dX9_works_476 : decode cX9_works 476 = .ok (.getfield 169, 3) := by decide +kernel
theorem dX9_works_479 : decode cX9_works 479 = .ok (.if_icmp .ge 37, 3) := by decide +kernel
theorem dX9_works_482 : decode cX9_works 482 = .ok (.aload_n 0, 1) := by decide +kernel
theorem dX9_works_483 : decode cX9_works 483 = .ok (.getfield 39, 3) := by decide +kernel
theorem dX9_works_486 : decode cX9_works 486 = .ok (.iload 7, 2) := by decide +kernel
theorem dX9_works_488 : decode cX9_works 488 = .ok (.aload_n 0, 1) := by decide +kernel
theorem dX9_works_489 : decode cX9_works 489 = .ok (.getfield 46, 3) := by decide +kernel
theorem dX9_works_492 : decode cX9_works 492 = .ok (.iload 7, 2) := by decide +kernel
theorem dX9_works_494 : decode cX9_works 494 = .ok (.laload, 1) := by decide +kernel
theorem dX9_works_495 : decode cX9_works 495 = .ok (.lastore, 1) := by decide +kernel
theorem dX9_works_496 : decode cX9_works 496 = .ok (.aload_n 0, 1) := by decide +kernel
theorem dX9_works_497 : decode cX9_works 497 = .ok (.getfield 43, 3) := by decide +kernel
theorem dX9_works_500 : decode cX9_works 500 = .ok (.iload 7, 2) := by decide +kernel
theorem dX9_works_502 : decode cX9_works 502 = .ok (.aload_n 0, 1) := by decide +kernel
theorem dX9_works_503 : decode cX9_works 503 = .ok (.getfield 49, 3) := by decide +kernel
theorem dX9_works_506 : decode cX9_works 506 = .ok (.iload 7, 2) := by decide +kernel
theorem dX9_works_508 : decode cX9_works 508 = .ok (.laload, 1) := by decide +kernel
theorem dX9_works_509 : decode cX9_works 509 = .ok (.lastore, 1) := by decide +kernel
theorem dX9_works_510 : decode cX9_works 510 = .ok (.iinc 7 1, 3) := by decide +kernel
theorem dX9_works_513 : decode cX9_works 513 = .ok (.goto (-40), 3) := by decide +kernel
theorem dX9_works_516 : decode cX9_works 516 = .ok (.iinc 2 1, 3) := by decide +kernel
theorem dX9_works_519 : decode cX9_works 519 = .ok (.goto (-346), 3) := by decide +kernel
theorem dX9_works_522 : decode cX9_works 522 = .ok (.iconst 0, 1) := by decide +kernel
theorem dX9_works_523 : decode cX9_works 523 = .ok (.istore_n 2, 1) := by decide +kernel
theorem dX9_works_524 : decode cX9_works 524 = .ok (.iload_n 2, 1) := by decide +kernel
theorem dX9_works_525 : decode cX9_works 525 = .ok (.aload_n 0, 1) := by decide +kernel
theorem dX9_works_526 : decode cX9_works 526 = .ok (.getfield 169, 3) := by decide +kernel
theorem dX9_works_529 : decode cX9_works 529 = .ok (.if_icmp .ge 34, 3) := by decide +kernel
theorem dX9_works_532 : decode cX9_works 532 = .ok (.aload_n 0, 1) := by decide +kernel
theorem dX9_works_533 : decode cX9_works 533 = .ok (.aload_n 0, 1) := by decide +kernel
theorem dX9_works_534 : decode cX9_works 534 = .ok (.getfield 46, 3) := by decide +kernel
theorem dX9_works_537 : decode cX9_works 537 = .ok (.iload_n 2, 1) := by decide +kernel
theorem dX9_works_538 : decode cX9_works 538 = .ok (.laload, 1) := by decide +kernel
theorem dX9_works_539 : decode cX9_works 539 = .ok (.invokevirtual 196, 3) := by decide +kernel
theorem dX9_works_542 : decode cX9_works 542 = .ok (.aload_n 0, 1) := by decide +kernel
theorem dX9_works_543 : decode cX9_works 543 = .ok (.iconst 2, 1) := by decide +kernel
theorem dX9_works_544 : decode cX9_works 544 = .ok (.aload_n 0, 1) := by decide +kernel
theorem dX9_works_545 : decode cX9_works 545 = .ok (.getfield 16, 3) := by decide +kernel
theorem dX9_works_548 : decode cX9_works 548 = .ok (.aload_n 0, 1) := by decide +kernel
theorem dX9_works_549 : decode cX9_works 549 = .ok (.getfield 49, 3) := by decide +kernel
theorem dX9_works_552 : decode cX9_works 552 = .ok (.iload_n 2, 1) := by decide +kernel
theorem dX9_works_553 : decode cX9_works 553 = .ok (.laload, 1) := by decide +kernel
theorem dX9_works_554 : decode cX9_works 554 = .ok (.invokevirtual 176, 3) := by decide +kernel
theorem dX9_works_557 : decode cX9_works 557 = .ok (.iinc 2 1, 3) := by decide +kernel
theorem dX9_works_560 : decode cX9_works 560 = .ok (.goto (-36), 3) := by decide +kernel
theorem dX9_works_563 : decode cX9_works 563 = .ok (.iconst 0, 1) := by decide +kernel
theorem dX9_works_564 : decode cX9_works 564 = .ok (.ireturn, 1) := by decide +kernel
theorem dX9_worksAsItIs_0 : decode cX9_worksAsItIs 0 = .ok (.aload_n 0, 1) := by decide +kernel
theorem dX9_worksAsItIs_1 : decode cX9_worksAsItIs 1 = .ok (.iconst 0, 1) := by decide +kernel
theorem dX9_worksAsItIs_2 : decode cX9_worksAsItIs 2 = .ok (.invokevirtual 213, 3) := by decide +kernel
theorem dX9_worksAsItIs_5 : decode cX9_worksAsItIs 5 = .ok (.aload_n 0, 1) := by decide +kernel
theorem dX9_worksAsItIs_6 : decode cX9_worksAsItIs 6 = .ok (.invokevirtual 216, 3) := by decide +kernel
theorem dX9_worksAsItIs_9 : decode cX9_worksAsItIs 9 = .ok (.ireturn, 1) := by decide +kernel
theorem dX9_chanceOf_0 : decode cX9_chanceOf 0 = .ok (.aload_n 0, 1) := by decide +kernel
theorem dX9_chanceOf_1 : decode cX9_chanceOf 1 = .ok (.getfield 64, 3) := by decide +kernel
theorem dX9_chanceOf_4 : decode cX9_chanceOf 4 = .ok (.aload_n 0, 1) := by decide +kernel
theorem dX9_chanceOf_5 : decode cX9_chanceOf 5 = .ok (.invokevirtual 190, 3) := by decide +kernel
theorem dX9_chanceOf_8 : decode cX9_chanceOf 8 = .ok (.laload, 1) := by decide +kernel
theorem dX9_chanceOf_9 : decode cX9_chanceOf 9 = .ok (.lstore_n 1, 1) := by decide +kernel
theorem dX9_chanceOf_10 : decode cX9_chanceOf 10 = .ok (.aload_n 0, 1) := by decide +kernel
theorem dX9_chanceOf_11 : decode cX9_chanceOf 11 = .ok (.getfield 55, 3) := by decide +kernel
theorem dX9_chanceOf_14 : decode cX9_chanceOf 14 = .ok (.iconst 0, 1) := by decide +kernel
theorem dX9_chanceOf_15 : decode cX9_chanceOf 15 = .ok (.laload, 1) := by decide +kernel
theorem dX9_chanceOf_16 : decode cX9_chanceOf 16 = .ok (.lstore_n 3, 1) := by decide +kernel
theorem dX9_chanceOf_17 : decode cX9_chanceOf 17 = .ok (.lload_n 3, 1) := by decide +kernel
theorem dX9_chanceOf_18 : decode cX9_chanceOf 18 = .ok (.lload_n 1, 1) := by decide +kernel
theorem dX9_chanceOf_19 : decode cX9_chanceOf 19 = .ok (.ldiv, 1) := by decide +kernel
theorem dX9_chanceOf_20 : decode cX9_chanceOf 20 = .ok (.lstore 5, 2) := by decide +kernel
theorem dX9_chanceOf_22 : decode cX9_chanceOf 22 = .ok (.lload_n 3, 1) := by decide +kernel
theorem dX9_chanceOf_23 : decode cX9_chanceOf 23 = .ok (.lload_n 1, 1) := by decide +kernel
theorem dX9_chanceOf_24 : decode cX9_chanceOf 24 = .ok (.lrem, 1) := by decide +kernel
theorem dX9_chanceOf_25 : decode cX9_chanceOf 25 = .ok (.lstore_n 3, 1) := by decide +kernel
theorem dX9_chanceOf_26 : decode cX9_chanceOf 26 = .ok (.iconst 0, 1) := by decide +kernel
theorem dX9_chanceOf_27 : decode cX9_chanceOf 27 = .ok (.istore 7, 2) := by decide +kernel
theorem dX9_chanceOf_29 : decode cX9_chanceOf 29 = .ok (.iload 7, 2) := by decide +kernel
theorem dX9_chanceOf_31 : decode cX9_chanceOf 31 = .ok (.bipush 6, 2) := by decide +kernel
theorem dX9_chanceOf_33 : decode cX9_chanceOf 33 = .ok (.if_icmp .ge 31, 3) := by decide +kernel
theorem dX9_chanceOf_36 : decode cX9_chanceOf 36 = .ok (.ldc2_w 219, 3) := by decide +kernel
theorem dX9_chanceOf_39 : decode cX9_chanceOf 39 = .ok (.lload_n 3, 1) := by decide +kernel
theorem dX9_chanceOf_40 : decode cX9_chanceOf 40 = .ok (.lmul, 1) := by decide +kernel
theorem dX9_chanceOf_41 : decode cX9_chanceOf 41 = .ok (.lstore_n 3, 1) := by decide +kernel
theorem dX9_chanceOf_42 : decode cX9_chanceOf 42 = .ok (.ldc2_w 219, 3) := by decide +kernel
theorem dX9_chanceOf_45 : decode cX9_chanceOf 45 = .ok (.lload 5, 2) := by decide +kernel
theorem dX9_chanceOf_47 : decode cX9_chanceOf 47 = .ok (.lmul, 1) := by decide +kernel
theorem dX9_chanceOf_48 : decode cX9_chanceOf 48 = .ok (.lload_n 3, 1) := by decide +kernel
theorem dX9_chanceOf_49 : decode cX9_chanceOf 49 = .ok (.lload_n 1, 1) := by decide +kernel
theorem dX9_chanceOf_50 : decode cX9_chanceOf 50 = .ok (.ldiv, 1) := by decide +kernel
theorem dX9_chanceOf_51 : decode cX9_chanceOf 51 = .ok (.ladd, 1) := by decide +kernel
theorem dX9_chanceOf_52 : decode cX9_chanceOf 52 = .ok (.lstore 5, 2) := by decide +kernel
theorem dX9_chanceOf_54 : decode cX9_chanceOf 54 = .ok (.lload_n 3, 1) := by decide +kernel
