theorem dX11_driest_29 : decode cX11_driest 29 = .ok (.bipush 6, 2) := by decide +kernel
theorem dX11_driest_31 : decode cX11_driest 31 = .ok (.if_icmp .lt 6, 3) := by decide +kernel
theorem dX11_driest_34 : decode cX11_driest 34 = .ok (.bipush (-4), 2) := by decide +kernel
theorem dX11_driest_36 : decode cX11_driest 36 = .ok (.ireturn, 1) := by decide +kernel
theorem dX11_driest_37 : decode cX11_driest 37 = .ok (.aload_n 0, 1) := by decide +kernel
theorem dX11_driest_38 : decode cX11_driest 38 = .ok (.getfield 59, 3) := by decide +kernel
theorem dX11_driest_41 : decode cX11_driest 41 = .ok (.aload_n 0, 1) := by decide +kernel
theorem dX11_driest_42 : decode cX11_driest 42 = .ok (.getfield 12, 3) := by decide +kernel
theorem dX11_driest_45 : decode cX11_driest 45 = .ok (.invokevirtual 238, 3) := by decide +kernel
theorem dX11_driest_48 : decode cX11_driest 48 = .ok (.aload_n 0, 1) := by decide +kernel
theorem dX11_driest_49 : decode cX11_driest 49 = .ok (.getfield 59, 3) := by decide +kernel
theorem dX11_driest_52 : decode cX11_driest 52 = .ok (.aload_n 0, 1) := by decide +kernel
theorem dX11_driest_53 : decode cX11_driest 53 = .ok (.getfield 12, 3) := by decide +kernel
theorem dX11_driest_56 : decode cX11_driest 56 = .ok (.iload_n 2, 1) := by decide +kernel
theorem dX11_driest_57 : decode cX11_driest 57 = .ok (.aload_n 0, 1) := by decide +kernel
theorem dX11_driest_58 : decode cX11_driest 58 = .ok (.getfield 52, 3) := by decide +kernel
theorem dX11_driest_61 : decode cX11_driest 61 = .ok (.aload_n 0, 1) := by decide +kernel
theorem dX11_driest_62 : decode cX11_driest 62 = .ok (.getfield 12, 3) := by decide +kernel
theorem dX11_driest_65 : decode cX11_driest 65 = .ok (.iload_n 1, 1) := by decide +kernel
theorem dX11_driest_66 : decode cX11_driest 66 = .ok (.invokevirtual 247, 3) := by decide +kernel
theorem dX11_driest_69 : decode cX11_driest 69 = .ok (.invokevirtual 253, 3) := by decide +kernel
theorem dX11_driest_72 : decode cX11_driest 72 = .ok (.ireturn, 1) := by decide +kernel
theorem dX11_head_0 : decode cX11_head 0 = .ok (.iload_n 1, 1) := by decide +kernel
theorem dX11_head_1 : decode cX11_head 1 = .ok (.invokestatic 257, 3) := by decide +kernel
theorem dX11_head_4 : decode cX11_head 4 = .ok (.ifCond .eq 12, 3) := by decide +kernel
theorem dX11_head_7 : decode cX11_head 7 = .ok (.iload_n 2, 1) := by decide +kernel
theorem dX11_head_8 : decode cX11_head 8 = .ok (.iconst 0, 1) := by decide +kernel
theorem dX11_head_9 : decode cX11_head 9 = .ok (.iconst 2, 1) := by decide +kernel
theorem dX11_head_10 : decode cX11_head 10 = .ok (.invokestatic 107, 3) := by decide +kernel
theorem dX11_head_13 : decode cX11_head 13 = .ok (.ifCond .ne 6, 3) := by decide +kernel
theorem dX11_head_16 : decode cX11_head 16 = .ok (.bipush (-2), 2) := by decide +kernel
theorem dX11_head_18 : decode cX11_head 18 = .ok (.ireturn, 1) := by decide +kernel
theorem dX11_head_19 : decode cX11_head 19 = .ok (.aload_n 0, 1) := by decide +kernel
theorem dX11_head_20 : decode cX11_head 20 = .ok (.getfield 66, 3) := by decide +kernel
theorem dX11_head_23 : decode cX11_head 23 = .ok (.aload_n 0, 1) := by decide +kernel
theorem dX11_head_24 : decode cX11_head 24 = .ok (.getfield 12, 3) := by decide +kernel
theorem dX11_head_27 : decode cX11_head 27 = .ok (.iload_n 1, 1) := by decide +kernel
theorem dX11_head_28 : decode cX11_head 28 = .ok (.invokevirtual 260, 3) := by decide +kernel
theorem dX11_head_31 : decode cX11_head 31 = .ok (.aload_n 0, 1) := by decide +kernel
theorem dX11_head_32 : decode cX11_head 32 = .ok (.getfield 66, 3) := by decide +kernel
theorem dX11_head_35 : decode cX11_head 35 = .ok (.invokevirtual 264, 3) := by decide +kernel
theorem dX11_head_38 : decode cX11_head 38 = .ok (.istore_n 3, 1) := by decide +kernel
theorem dX11_head_39 : decode cX11_head 39 = .ok (.iload_n 3, 1) := by decide +kernel
theorem dX11_head_40 : decode cX11_head 40 = .ok (.bipush (-5), 2) := by decide +kernel
theorem dX11_head_42 : decode cX11_head 42 = .ok (.if_icmp .eq 7, 3) := by decide +kernel
theorem dX11_head_45 : decode cX11_head 45 = .ok (.iload_n 2, 1) := by decide +kernel
theorem dX11_head_46 : decode cX11_head 46 = .ok (.ifCond .ne 5, 3) := by decide +kernel
theorem dX11_head_49 : decode cX11_head 49 = .ok (.iload_n 3, 1) := by decide +kernel
theorem dX11_head_50 : decode cX11_head 50 = .ok (.ireturn, 1) := by decide +kernel
theorem dX11_head_51 : decode cX11_head 51 = .ok (.aload_n 0, 1) := by decide +kernel
theorem dX11_head_52 : decode cX11_head 52 = .ok (.getfield 66, 3) := by decide +kernel
theorem dX11_head_55 : decode cX11_head 55 = .ok (.invokevirtual 267, 3) := by decide +kernel
theorem dX11_head_58 : decode cX11_head 58 = .ok (.istore 4, 2) := by decide +kernel
theorem dX11_head_60 : decode cX11_head 60 = .ok (.iload_n 2, 1) := by decide +kernel
theorem dX11_head_61 : decode cX11_head 61 = .ok (.iconst 1, 1) := by decide +kernel
theorem dX11_head_62 : decode cX11_head 62 = .ok (.if_icmp .ne 11, 3) := by decide +kernel
theorem dX11_head_65 : decode cX11_head 65 = .ok (.iload 4, 2) := by decide +kernel
theorem dX11_head_67 : decode cX11_head 67 = .ok (.invokestatic 270, 3) := by decide +kernel
theorem dX11_head_70 : decode cX11_head 70 = .ok (.goto 5, 3) := by decide +kernel
theorem dX11_head_73 : decode cX11_head 73 = .ok (.iload 4, 2) := by decide +kernel
theorem dX11_head_75 : decode cX11_head 75 = .ok (.ireturn, 1) := by decide +kernel
theorem dX11_used_0 : decode cX11_used 0 = .ok (.iload_n 1, 1) := by decide +kernel
theorem dX11_used_1 : decode cX11_used 1 = .ok (.invokestatic 257, 3) := by decide +kernel
theorem dX11_used_4 : decode cX11_used 4 = .ok (.ifCond .ne 6, 3) := by decide +kernel
theorem dX11_used_7 : decode cX11_used 7 = .ok (.bipush (-2), 2) := by decide +kernel
theorem dX11_used_9 : decode cX11_used 9 = .ok (.ireturn, 1) := by decide +kernel
theorem dX11_used_10 : decode cX11_used 10 = .ok (.aload_n 0, 1) := by decide +kernel
theorem dX11_used_11 : decode cX11_used 11 = .ok (.getfield 66, 3) := by decide +kernel
theorem dX11_used_14 : decode cX11_used 14 = .ok (.aload_n 0, 1) := by decide +kernel
theorem dX11_used_15 : decode cX11_used 15 = .ok (.getfield 12, 3) := by decide +kernel
theorem dX11_used_18 : decode cX11_used 18 = .ok (.iload_n 1, 1) := by decide +kernel
theorem dX11_used_19 : decode cX11_used 19 = .ok (.invokevirtual 260, 3) := by decide +kernel
theorem dX11_used_22 : decode cX11_used 22 = .ok (.aload_n 0, 1) := by decide +kernel
theorem dX11_used_23 : decode cX11_used 23 = .ok (.getfield 66, 3) := by decide +kernel
theorem dX11_used_26 : decode cX11_used 26 = .ok (.iload_n 2, 1) := by decide +kernel
theorem dX11_used_27 : decode cX11_used 27 = .ok (.invokevirtual 273, 3) := by decide +kernel
theorem dX11_used_30 : decode cX11_used 30 = .ok (.ireturn, 1) := by decide +kernel
theorem dX11_heads_0 : decode cX11_heads 0 = .ok (.iload_n 1, 1) := by decide +kernel
theorem dX11_heads_1 : decode cX11_heads 1 = .ok (.invokestatic 257, 3) := by decide +kernel
theorem dX11_heads_4 : decode cX11_heads 4 = .ok (.ifCond .ne 6, 3) := by decide +kernel
theorem dX11_heads_7 : decode cX11_heads 7 = .ok (.bipush (-2), 2) := by decide +kernel
theorem dX11_heads_9 : decode cX11_heads 9 = .ok (.ireturn, 1) := by decide +kernel
theorem dX11_heads_10 : decode cX11_heads 10 = .ok (.aload_n 0, 1) := by decide +kernel
theorem dX11_heads_11 : decode cX11_heads 11 = .ok (.getfield 66, 3) := by decide +kernel
theorem dX11_heads_14 : decode cX11_heads 14 = .ok (.aload_n 0, 1) := by decide +kernel
theorem dX11_heads_15 : decode cX11_heads 15 = .ok (.getfield 12, 3) := by decide +kernel
theorem dX11_heads_18 : decode cX11_heads 18 = .ok (.iload_n 1, 1) := by decide +kernel
theorem dX11_heads_19 : decode cX11_heads 19 = .ok (.invokevirtual 260, 3) := by decide +kernel
theorem dX11_heads_22 : decode cX11_heads 22 = .ok (.aload_n 0, 1) := by decide +kernel
theorem dX11_heads_23 : decode cX11_heads 23 = .ok (.getfield 66, 3) := by decide +kernel
theorem dX11_heads_26 : decode cX11_heads 26 = .ok (.invokevirtual 276, 3) := by decide +kernel
theorem dX11_heads_29 : decode cX11_heads 29 = .ok (.ireturn, 1) := by decide +kernel
theorem dX11_feed_0 : decode cX11_feed 0 = .ok (.iload_n 1, 1) := by decide +kernel
theorem dX11_feed_1 : decode cX11_feed 1 = .ok (.iconst 0, 1) := by decide +kernel
theorem dX11_feed_2 : decode cX11_feed 2 = .ok (.bipush 127, 2) := by decide +kernel
theorem dX11_feed_4 : decode cX11_feed 4 = .ok (.invokestatic 107, 3) := by decide +kernel
theorem dX11_feed_7 : decode cX11_feed 7 = .ok (.ifCond .ne 6, 3) := by decide +kernel
theorem dX11_feed_10 : decode cX11_feed 10 = .ok (.bipush (-2), 2) := by decide +kernel
theorem dX11_feed_12 : decode cX11_feed 12 = .ok (.ireturn, 1) := by decide +kernel
theorem dX11_feed_13 : decode cX11_feed 13 = .ok (.aload_n 0, 1) := by decide +kernel
theorem dX11_feed_14 : decode cX11_feed 14 = .ok (.getfield 34, 3) := by decide +kernel
theorem dX11_feed_17 : decode cX11_feed 17 = .ok (.iload_n 1, 1) := by decide +kernel
theorem dX11_feed_18 : decode cX11_feed 18 = .ok (.i2b, 1) := by decide +kernel
theorem dX11_feed_19 : decode cX11_feed 19 = .ok (.invokevirtual 278, 3) := by decide +kernel
theorem dX11_feed_22 : decode cX11_feed 22 = .ok (.ireturn, 1) := by decide +kernel
theorem dX11_read_0 : decode cX11_read 0 = .ok (.aload_n 0, 1) := by decide +kernel
theorem dX11_read_1 : decode cX11_read 1 = .ok (.getfield 34, 3) := by decide +kernel
theorem dX11_read_4 : decode cX11_read 4 = .ok (.invokevirtual 282, 3) := by decide +kernel
theorem dX11_read_7 : decode cX11_read 7 = .ok (.istore_n 1, 1) := by decide +kernel
theorem dX11_read_8 : decode cX11_read 8 = .ok (.aload_n 0, 1) := by decide +kernel
theorem dX11_read_9 : decode cX11_read 9 = .ok (.getfield 34, 3) := by decide +kernel
theorem dX11_read_12 : decode cX11_read 12 = .ok (.getfield 286, 3) := by decide +kernel
theorem dX11_read_15 : decode cX11_read 15 = .ok (.istore_n 2, 1) := by decide +kernel
theorem dX11_read_16 : decode cX11_read 16 = .ok (.aload_n 0, 1) := by decide +kernel
theorem dX11_read_17 : decode cX11_read 17 = .ok (.getfield 34, 3) := by decide +kernel
theorem dX11_read_20 : decode cX11_read 20 = .ok (.iconst 0, 1) := by decide +kernel
theorem dX11_read_21 : decode cX11_read 21 = .ok (.putfield 127, 3) := by decide +kernel
theorem dX11_read_24 : decode cX11_read 24 = .ok (.iload_n 1, 1) := by decide +kernel
theorem dX11_read_25 : decode cX11_read 25 = .ok (.ifCond .ne 8, 3) := by decide +kernel
theorem dX11_read_28 : decode cX11_read 28 = .ok (.bipush (-100), 2) := by decide +kernel
theorem dX11_read_30 : decode cX11_read 30 = .ok (.iload_n 2, 1) := by decide +kernel
theorem dX11_read_31 : decode cX11_read 31 = .ok (.isub, 1) := by decide +kernel
theorem dX11_read_32 : decode cX11_read 32 = .ok (.ireturn, 1) := by decide +kernel
theorem dX11_read_33 : decode cX11_read 33 = .ok (.aload_n 0, 1) := by decide +kernel
theorem dX11_read_34 : decode cX11_read 34 = .ok (.getfield 34, 3) := by decide +kernel
theorem dX11_read_37 : decode cX11_read 37 = .ok (.aload_n 0, 1) := by decide +kernel
theorem dX11_read_38 : decode cX11_read 38 = .ok (.getfield 12, 3) := by decide +kernel
theorem dX11_read_41 : decode cX11_read 41 = .ok (.invokevirtual 289, 3) := by decide +kernel
theorem dX11_read_44 : decode cX11_read 44 = .ok (.istore_n 3, 1) := by decide +kernel
theorem dX11_read_45 : decode cX11_read 45 = .ok (.iload_n 3, 1) := by decide +kernel
theorem dX11_read_46 : decode cX11_read 46 = .ok (.iconst (-1), 1) := by decide +kernel
theorem dX11_read_47 : decode cX11_read 47 = .ok (.if_icmp .eq 9, 3) := by decide +kernel
theorem dX11_read_50 : decode cX11_read 50 = .ok (.sipush (-300), 3) := by decide +kernel
theorem dX11_read_53 : decode cX11_read 53 = .ok (.iload_n 3, 1) := by decide +kernel
theorem dX11_read_54 : decode cX11_read 54 = .ok (.isub, 1) := by decide +kernel
theorem dX11_read_55 : decode cX11_read 55 = .ok (.ireturn, 1) := by decide +kernel
theorem dX11_read_56 : decode cX11_read 56 = .ok (.aload_n 0, 1) := by decide +kernel
theorem dX11_read_57 : decode cX11_read 57 = .ok (.getfield 34, 3) := by decide +kernel
theorem dX11_read_60 : decode cX11_read 60 = .ok (.aload_n 0, 1) := by decide +kernel
theorem dX11_read_61 : decode cX11_read 61 = .ok (.getfield 12, 3) := by decide +kernel
theorem dX11_read_64 : decode cX11_read 64 = .ok (.invokevirtual 293, 3) := by decide +kernel
theorem dX11_read_67 : decode cX11_read 67 = .ok (.aload_n 0, 1) := by decide +kernel
theorem dX11_read_68 : decode cX11_read 68 = .ok (.dup, 1) := by decide +kernel
theorem dX11_read_69 : decode cX11_read 69 = .ok (.getfield 38, 3) := by decide +kernel
theorem dX11_read_72 : decode cX11_read 72 = .ok (.iconst 1, 1) := by decide +kernel
theorem dX11_read_73 : decode cX11_read 73 = .ok (.iadd, 1) := by decide +kernel
theorem dX11_read_74 : decode cX11_read 74 = .ok (.putfield 38, 3) := by decide +kernel
theorem dX11_read_77 : decode cX11_read 77 = .ok (.aload_n 0, 1) := by decide +kernel
theorem dX11_read_78 : decode cX11_read 78 = .ok (.getfield 34, 3) := by decide +kernel
theorem dX11_read_81 : decode cX11_read 81 = .ok (.getfield 296, 3) := by decide +kernel
theorem dX11_read_84 : decode cX11_read 84 = .ok (.ireturn, 1) := by decide +kernel
theorem dX11_hang_0 : decode cX11_hang 0 = .ok (.iload_n 1, 1) := by decide +kernel
theorem dX11_hang_1 : decode cX11_hang 1 = .ok (.invokestatic 299, 3) := by decide +kernel
theorem dX11_hang_4 : decode cX11_hang 4 = .ok (.ifCond .ne 5, 3) := by decide +kernel
theorem dX11_hang_7 : decode cX11_hang 7 = .ok (.iconst (-1), 1) := by decide +kernel
theorem dX11_hang_8 : decode cX11_hang 8 = .ok (.ireturn, 1) := by decide +kernel
theorem dX11_hang_9 : decode cX11_hang 9 = .ok (.iload_n 2, 1) := by decide +kernel
theorem dX11_hang_10 : decode cX11_hang 10 = .ok (.iconst 0, 1) := by decide +kernel
theorem dX11_hang_11 : decode cX11_hang 11 = .ok (.iconst 3, 1) := by decide +kernel
theorem dX11_hang_12 : decode cX11_hang 12 = .ok (.invokestatic 107, 3) := by decide +kernel
theorem dX11_hang_15 : decode cX11_hang 15 = .ok (.ifCond .ne 6, 3) := by decide +kernel
theorem dX11_hang_18 : decode cX11_hang 18 = .ok (.bipush (-2), 2) := by decide +kernel
theorem dX11_hang_20 : decode cX11_hang 20 = .ok (.ireturn, 1) := by decide +kernel
theorem dX11_hang_21 : decode cX11_hang 21 = .ok (.iload_n 2, 1) := by decide +kernel
theorem dX11_hang_22 : decode cX11_hang 22 = .ok (.iconst 3, 1) := by decide +kernel
theorem dX11_hang_23 : decode cX11_hang 23 = .ok (.if_icmp .ne 7, 3) := by decide +kernel
theorem dX11_hang_26 : decode cX11_hang 26 = .ok (.aconst_null, 1) := by decide +kernel
theorem dX11_hang_27 : decode cX11_hang 27 = .ok (.goto 12, 3) := by decide +kernel
theorem dX11_hang_30 : decode cX11_hang 30 = .ok (.aload_n 0, 1) := by decide +kernel
theorem dX11_hang_31 : decode cX11_hang 31 = .ok (.getfield 12, 3) := by decide +kernel
theorem dX11_hang_34 : decode cX11_hang 34 = .ok (.iload_n 2, 1) := by decide +kernel
theorem dX11_hang_35 : decode cX11_hang 35 = .ok (.iload_n 3, 1) := by decide +kernel
theorem dX11_hang_36 : decode cX11_hang 36 = .ok (.invokevirtual 302, 3) := by decide +kernel
theorem dX11_hang_39 : decode cX11_hang 39 = .ok (.astore 4, 2) := by decide +kernel
theorem dX11_hang_41 : decode cX11_hang 41 = .ok (.aload 4, 2) := by decide +kernel
theorem dX11_hang_43 : decode cX11_hang 43 = .ok (.ifnonnull 10, 3) := by decide +kernel
theorem dX11_hang_46 : decode cX11_hang 46 = .ok (.iload_n 2, 1) := by decide +kernel
theorem dX11_hang_47 : decode cX11_hang 47 = .ok (.iconst 3, 1) := by decide +kernel
theorem dX11_hang_48 : decode cX11_hang 48 = .ok (.if_icmp .eq 5, 3) := by decide +kernel
theorem dX11_hang_51 : decode cX11_hang 51 = .ok (.iconst (-1), 1) := by decide +kernel
theorem dX11_hang_52 : decode cX11_hang 52 = .ok (.ireturn, 1) := by decide +kernel
theorem dX11_hang_53 : decode cX11_hang 53 = .ok (.aload_n 0, 1) := by decide +kernel
theorem dX11_hang_54 : decode cX11_hang 54 = .ok (.getfield 27, 3) := by decide +kernel
theorem dX11_hang_57 : decode cX11_hang 57 = .ok (.iload_n 1, 1) := by decide +kernel
theorem dX11_hang_58 : decode cX11_hang 58 = .ok (.aload 4, 2) := by decide +kernel
theorem dX11_hang_60 : decode cX11_hang 60 = .ok (.aastore, 1) := by decide +kernel
theorem dX11_hang_61 : decode cX11_hang 61 = .ok (.iconst 1, 1) := by decide +kernel
theorem dX11_hang_62 : decode cX11_hang 62 = .ok (.ireturn, 1) := by decide +kernel
theorem dX11_tray_0 : decode cX11_tray 0 = .ok (.iload_n 1, 1) := by decide +kernel
theorem dX11_tray_1 : decode cX11_tray 1 = .ok (.invokestatic 299, 3) := by decide +kernel
theorem dX11_tray_4 : decode cX11_tray 4 = .ok (.ifCond .ne 5, 3) := by decide +kernel
theorem dX11_tray_7 : decode cX11_tray 7 = .ok (.iconst (-1), 1) := by decide +kernel
theorem dX11_tray_8 : decode cX11_tray 8 = .ok (.ireturn, 1) := by decide +kernel
theorem dX11_tray_9 : decode cX11_tray 9 = .ok (.iload_n 2, 1) := by decide +kernel
theorem dX11_tray_10 : decode cX11_tray 10 = .ok (.iconst 0, 1) := by decide +kernel
theorem dX11_tray_11 : decode cX11_tray 11 = .ok (.iconst 1, 1) := by decide +kernel
theorem dX11_tray_12 : decode cX11_tray 12 = .ok (.invokestatic 107, 3) := by decide +kernel
theorem dX11_tray_15 : decode cX11_tray 15 = .ok (.ifCond .eq 9, 3) := by decide +kernel
theorem dX11_tray_18 : decode cX11_tray 18 = .ok (.iload_n 3, 1) := by decide +kernel
theorem dX11_tray_19 : decode cX11_tray 19 = .ok (.bipush 30, 2) := by decide +kernel
theorem dX11_tray_21 : decode cX11_tray 21 = .ok (.if_icmp .le 6, 3) := by decide +kernel
theorem dX11_tray_24 : decode cX11_tray 24 = .ok (.bipush (-2), 2) := by decide +kernel
theorem dX11_tray_26 : decode cX11_tray 26 = .ok (.ireturn, 1) := by decide +kernel
theorem dX11_tray_27 : decode cX11_tray 27 = .ok (.iload_n 3, 1) := by decide +kernel
theorem dX11_tray_28 : decode cX11_tray 28 = .ok (.ifCond .ge 6, 3) := by decide +kernel
theorem dX11_tray_31 : decode cX11_tray 31 = .ok (.bipush (-14), 2) := by decide +kernel
theorem dX11_tray_33 : decode cX11_tray 33 = .ok (.ireturn, 1) := by decide +kernel
theorem dX11_tray_34 : decode cX11_tray 34 = .ok (.aload_n 0, 1) := by decide +kernel
theorem dX11_tray_35 : decode cX11_tray 35 = .ok (.getfield 27, 3) := by decide +kernel
theorem dX11_tray_38 : decode cX11_tray 38 = .ok (.iload_n 1, 1) := by decide +kernel
theorem dX11_tray_39 : decode cX11_tray 39 = .ok (.new 306, 3) := by decide +kernel
theorem dX11_tray_42 : decode cX11_tray 42 = .ok (.dup, 1) := by decide +kernel
theorem dX11_tray_43 : decode cX11_tray 43 = .ok (.iload_n 2, 1) := by decide +kernel
theorem dX11_tray_44 : decode cX11_tray 44 = .ok (.iload_n 3, 1) := by decide +kernel
theorem dX11_tray_45 : decode cX11_tray 45 = .ok (.invokespecial 308, 3) := by decide +kernel
theorem dX11_tray_48 : decode cX11_tray 48 = .ok (.aastore, 1) := by decide +kernel
theorem dX11_tray_49 : decode cX11_tray 49 = .ok (.iconst 1, 1) := by decide +kernel
theorem dX11_tray_50 : decode cX11_tray 50 = .ok (.ireturn, 1) := by decide +kernel
theorem dX11_held_0 : decode cX11_held 0 = .ok (.iload_n 1, 1) := by decide +kernel
theorem dX11_held_1 : decode cX11_held 1 = .ok (.invokestatic 299, 3) := by decide +kernel
theorem dX11_held_4 : decode cX11_held 4 = .ok (.ifCond .ne 5, 3) := by decide +kernel
theorem dX11_held_7 : decode cX11_held 7 = .ok (.iconst (-1), 1) := by decide +kernel
theorem dX11_held_8 : decode cX11_held 8 = .ok (.ireturn, 1) := by decide +kernel
theorem dX11_held_9 : decode cX11_held 9 = .ok (.aload_n 0, 1) := by decide +kernel
theorem dX11_held_10 : decode cX11_held 10 = .ok (.getfield 27, 3) := by decide +kernel
theorem dX11_held_13 : decode cX11_held 13 = .ok (.iload_n 1, 1) := by decide +kernel
theorem dX11_held_14 : decode cX11_held 14 = .ok (.aaload, 1) := by decide +kernel
theorem dX11_held_15 : decode cX11_held 15 = .ok (.astore_n 2, 1) := by decide +kernel
theorem dX11_held_16 : decode cX11_held 16 = .ok (.aload_n 2, 1) := by decide +kernel
theorem dX11_held_17 : decode cX11_held 17 = .ok (.ifnonnull 7, 3) := by decide +kernel
theorem dX11_held_20 : decode cX11_held 20 = .ok (.iconst 0, 1) := by decide +kernel
theorem dX11_held_21 : decode cX11_held 21 = .ok (.goto 7, 3) := by decide +kernel
theorem dX11_held_24 : decode cX11_held 24 = .ok (.aload_n 2, 1) := by decide +kernel
theorem dX11_held_25 : decode cX11_held 25 = .ok (.invokevirtual 311, 3) := by decide +kernel
theorem dX11_held_28 : decode cX11_held 28 = .ok (.ireturn, 1) := by decide +kernel
theorem dX11_as_0 : decode cX11_as 0 = .ok (.iload_n 1, 1) := by decide +kernel
theorem dX11_as_1 : decode cX11_as 1 = .ok (.invokestatic 299, 3) := by decide +kernel
theorem dX11_as_4 : decode cX11_as 4 = .ok (.ifCond .ne 5, 3) := by decide +kernel
theorem dX11_as_7 : decode cX11_as 7 = .ok (.iconst (-1), 1) := by decide +kernel
theorem dX11_as_8 : decode cX11_as 8 = .ok (.ireturn, 1) := by decide +kernel
theorem dX11_as_9 : decode cX11_as 9 = .ok (.iload_n 2, 1) := by decide +kernel
theorem dX11_as_10 : decode cX11_as 10 = .ok (.iconst 0, 1) := by decide +kernel
theorem dX11_as_11 : decode cX11_as 11 = .ok (.iconst 2, 1) := by decide +kernel
theorem dX11_as_12 : decode cX11_as 12 = .ok (.invokestatic 107, 3) := by decide +kernel
theorem dX11_as_15 : decode cX11_as 15 = .ok (.ifCond .eq 17, 3) := by decide +kernel
theorem dX11_as_18 : decode cX11_as 18 = .ok (.iload_n 3, 1) := by decide +kernel
theorem dX11_as_19 : decode cX11_as 19 = .ok (.iconst 0, 1) := by decide +kernel
theorem dX11_as_20 : decode cX11_as 20 = .ok (.iload_n 2, 1) := by decide +kernel
theorem dX11_as_21 : decode cX11_as 21 = .ok (.invokestatic 314, 3) := by decide +kernel
theorem dX11_as_24 : decode cX11_as 24 = .ok (.iconst 1, 1) := by decide +kernel
theorem dX11_as_25 : decode cX11_as 25 = .ok (.isub, 1) := by decide +kernel
theorem dX11_as_26 : decode cX11_as 26 = .ok (.invokestatic 107, 3) := by decide +kernel
theorem dX11_as_29 : decode cX11_as 29 = .ok (.ifCond .ne 6, 3) := by decide +kernel
theorem dX11_as_32 : decode cX11_as 32 = .ok (.bipush (-2), 2) := by decide +kernel
theorem dX11_as_34 : decode cX11_as 34 = .ok (.ireturn, 1) := by decide +kernel
theorem dX11_as_35 : decode cX11_as 35 = .ok (.aload_n 0, 1) := by decide +kernel
theorem dX11_as_36 : decode cX11_as 36 = .ok (.getfield 27, 3) := by decide +kernel
theorem dX11_as_39 : decode cX11_as 39 = .ok (.iload_n 1, 1) := by decide +kernel
theorem dX11_as_40 : decode cX11_as 40 = .ok (.aaload, 1) := by decide +kernel
theorem dX11_as_41 : decode cX11_as 41 = .ok (.astore 4, 2) := by decide +kernel
theorem dX11_as_43 : decode cX11_as 43 = .ok (.aload 4, 2) := by decide +kernel
theorem dX11_as_45 : decode cX11_as 45 = .ok (.ifnonnull 6, 3) := by decide +kernel
theorem dX11_as_48 : decode cX11_as 48 = .ok (.bipush (-11), 2) := by decide +kernel
theorem dX11_as_50 : decode cX11_as 50 = .ok (.ireturn, 1) := by decide +kernel
theorem dX11_as_51 : decode cX11_as 51 = .ok (.iload_n 2, 1) := by decide +kernel
theorem dX11_as_52 : decode cX11_as 52 = .ok (.ifCond .ne 44, 3) := by decide +kernel
theorem dX11_as_55 : decode cX11_as 55 = .ok (.aload 4, 2) := by decide +kernel
theorem dX11_as_57 : decode cX11_as 57 = .ok (.instanceof 71, 3) := by decide +kernel
theorem dX11_as_60 : decode cX11_as 60 = .ok (.ifCond .eq 36, 3) := by decide +kernel
theorem dX11_as_63 : decode cX11_as 63 = .ok (.aload 4, 2) := by decide +kernel
theorem dX11_as_65 : decode cX11_as 65 = .ok (.checkcast 71, 3) := by decide +kernel
theorem dX11_as_68 : decode cX11_as 68 = .ok (.astore 5, 2) := by decide +kernel
theorem dX11_as_70 : decode cX11_as 70 = .ok (.aload 5, 2) := by decide +kernel
theorem dX11_as_72 : decode cX11_as 72 = .ok (.getfield 134, 3) := by decide +kernel
theorem dX11_as_75 : decode cX11_as 75 = .ok (.iload_n 3, 1) := by decide +kernel
theorem dX11_as_76 : decode cX11_as 76 = .ok (.getstatic 317, 3) := by decide +kernel
theorem dX11_as_79 : decode cX11_as 79 = .ok (.invokestatic 320, 3) := by decide +kernel
theorem dX11_as_82 : decode cX11_as 82 = .ok (.ifCond .eq 11, 3) := by decide +kernel
theorem dX11_as_85 : decode cX11_as 85 = .ok (.aload 5, 2) := by decide +kernel
theorem dX11_as_87 : decode cX11_as 87 = .ok (.getfield 137, 3) := by decide +kernel
theorem dX11_as_90 : decode cX11_as 90 = .ok (.goto 5, 3) := by decide +kernel
theorem dX11_as_93 : decode cX11_as 93 = .ok (.bipush (-13), 2) := by decide +kernel
theorem dX11_as_95 : decode cX11_as 95 = .ok (.ireturn, 1) := by decide +kernel
theorem dX11_as_96 : decode cX11_as 96 = .ok (.iload_n 2, 1) := by decide +kernel
theorem dX11_as_97 : decode cX11_as 97 = .ok (.iconst 1, 1) := by decide +kernel
theorem dX11_as_98 : decode cX11_as 98 = .ok (.if_icmp .ne 44, 3) := by decide +kernel
theorem dX11_as_101 : decode cX11_as 101 = .ok (.aload 4, 2) := by decide +kernel
theorem dX11_as_103 : decode cX11_as 103 = .ok (.instanceof 84, 3) := by decide +kernel
theorem dX11_as_106 : decode cX11_as 106 = .ok (.ifCond .eq 36, 3) := by decide +kernel
theorem dX11_as_109 : decode cX11_as 109 = .ok (.aload 4, 2) := by decide +kernel
theorem dX11_as_111 : decode cX11_as 111 = .ok (.checkcast 84, 3) := by decide +kernel
theorem dX11_as_114 : decode cX11_as 114 = .ok (.astore 5, 2) := by decide +kernel
theorem dX11_as_116 : decode cX11_as 116 = .ok (.aload 5, 2) := by decide +kernel
theorem dX11_as_118 : decode cX11_as 118 = .ok (.getfield 229, 3) := by decide +kernel
theorem dX11_as_121 : decode cX11_as 121 = .ok (.iload_n 3, 1) := by decide +kernel
theorem dX11_as_122 : decode cX11_as 122 = .ok (.getstatic 324, 3) := by decide +kernel
theorem dX11_as_125 : decode cX11_as 125 = .ok (.invokestatic 320, 3) := by decide +kernel
theorem dX11_as_128 : decode cX11_as 128 = .ok (.ifCond .eq 11, 3) := by decide +kernel
theorem dX11_as_131 : decode cX11_as 131 = .ok (.aload 5, 2) := by decide +kernel
theorem dX11_as_133 : decode cX11_as 133 = .ok (.getfield 230, 3) := by decide +kernel
theorem dX11_as_136 : decode cX11_as 136 = .ok (.goto 5, 3) := by decide +kernel
theorem dX11_as_139 : decode cX11_as 139 = .ok (.bipush (-13), 2) := by decide +kernel
theorem dX11_as_141 : decode cX11_as 141 = .ok (.ireturn, 1) := by decide +kernel
theorem dX11_as_142 : decode cX11_as 142 = .ok (.iload_n 2, 1) := by decide +kernel
theorem dX11_as_143 : decode cX11_as 143 = .ok (.iconst 2, 1) := by decide +kernel
theorem dX11_as_144 : decode cX11_as 144 = .ok (.if_icmp .ne 24, 3) := by decide +kernel
theorem dX11_as_147 : decode cX11_as 147 = .ok (.aload 4, 2) := by decide +kernel
theorem dX11_as_149 : decode cX11_as 149 = .ok (.instanceof 96, 3) := by decide +kernel
theorem dX11_as_152 : decode cX11_as 152 = .ok (.ifCond .eq 16, 3) := by decide +kernel
theorem dX11_as_155 : decode cX11_as 155 = .ok (.aload 4, 2) := by decide +kernel
theorem dX11_as_157 : decode cX11_as 157 = .ok (.checkcast 96, 3) := by decide +kernel
theorem dX11_as_160 : decode cX11_as 160 = .ok (.astore 5, 2) := by decide +kernel
theorem dX11_as_162 : decode cX11_as 162 = .ok (.aload 5, 2) := by decide +kernel
theorem dX11_as_164 : decode cX11_as 164 = .ok (.getfield 327, 3) := by decide +kernel
theorem dX11_as_167 : decode cX11_as 167 = .ok (.ireturn, 1) := by decide +kernel
theorem dX11_as_168 : decode cX11_as 168 = .ok (.bipush (-13), 2) := by decide +kernel
theorem dX11_as_170 : decode cX11_as 170 = .ok (.ireturn, 1) := by decide +kernel
theorem dX11_put_0 : decode cX11_put 0 = .ok (.aload_n 0, 1) := by decide +kernel
theorem dX11_put_1 : decode cX11_put 1 = .ok (.iload_n 1, 1) := by decide +kernel
theorem dX11_put_2 : decode cX11_put 2 = .ok (.invokevirtual 328, 3) := by decide +kernel
theorem dX11_put_5 : decode cX11_put 5 = .ok (.astore 5, 2) := by decide +kernel
theorem dX11_put_7 : decode cX11_put 7 = .ok (.aload 5, 2) := by decide +kernel
theorem dX11_put_9 : decode cX11_put 9 = .ok (.ifnonnull 9, 3) := by decide +kernel
theorem dX11_put_12 : decode cX11_put 12 = .ok (.aload_n 0, 1) := by decide +kernel
theorem dX11_put_13 : decode cX11_put 13 = .ok (.iload_n 1, 1) := by decide +kernel
theorem dX11_put_14 : decode cX11_put 14 = .ok (.invokevirtual 332, 3) := by decide +kernel
theorem dX11_put_17 : decode cX11_put 17 = .ok (.ireturn, 1) := by decide +kernel
theorem dX11_put_18 : decode cX11_put 18 = .ok (.aload 5, 2) := by decide +kernel
theorem dX11_put_20 : decode cX11_put 20 = .ok (.iload_n 2, 1) := by decide +kernel
theorem dX11_put_21 : decode cX11_put 21 = .ok (.invokevirtual 335, 3) := by decide +kernel
theorem dX11_put_24 : decode cX11_put 24 = .ok (.ifCond .ne 6, 3) := by decide +kernel
theorem dX11_put_27 : decode cX11_put 27 = .ok (.bipush (-12), 2) := by decide +kernel
theorem dX11_put_29 : decode cX11_put 29 = .ok (.ireturn, 1) := by decide +kernel
theorem dX11_put_30 : decode cX11_put 30 = .ok (.aload 5, 2) := by decide +kernel
theorem dX11_put_32 : decode cX11_put 32 = .ok (.iload_n 2, 1) := by decide +kernel
theorem dX11_put_33 : decode cX11_put 33 = .ok (.lload_n 3, 1) := by decide +kernel
theorem dX11_put_34 : decode cX11_put 34 = .ok (.invokevirtual 338, 3) := by decide +kernel
theorem dX11_put_37 : decode cX11_put 37 = .ok (.iconst 1, 1) := by decide +kernel
theorem dX11_put_38 : decode cX11_put 38 = .ok (.ireturn, 1) := by decide +kernel
theorem dX11_get_0 : decode cX11_get 0 = .ok (.aload_n 0, 1) := by decide +kernel
theorem dX11_get_1 : decode cX11_get 1 = .ok (.iload_n 1, 1) := by decide +kernel
theorem dX11_get_2 : decode cX11_get 2 = .ok (.invokevirtual 328, 3) := by decide +kernel
theorem dX11_get_5 : decode cX11_get 5 = .ok (.astore_n 3, 1) := by decide +kernel
theorem dX11_get_6 : decode cX11_get 6 = .ok (.aload_n 3, 1) := by decide +kernel
theorem dX11_get_7 : decode cX11_get 7 = .ok (.ifnull 20, 3) := by decide +kernel
theorem dX11_get_10 : decode cX11_get 10 = .ok (.aload_n 3, 1) := by decide +kernel
theorem dX11_get_11 : decode cX11_get 11 = .ok (.iload_n 2, 1) := by decide +kernel
theorem dX11_get_12 : decode cX11_get 12 = .ok (.invokevirtual 335, 3) := by decide +kernel
theorem dX11_get_15 : decode cX11_get 15 = .ok (.ifCond .eq 12, 3) := by decide +kernel
theorem dX11_get_18 : decode cX11_get 18 = .ok (.aload_n 3, 1) := by decide +kernel
theorem dX11_get_19 : decode cX11_get 19 = .ok (.getfield 342, 3) := by decide +kernel
theorem dX11_get_22 : decode cX11_get 22 = .ok (.iload_n 2, 1) := by decide +kernel
theorem dX11_get_23 : decode cX11_get 23 = .ok (.laload, 1) := by decide +kernel
theorem dX11_get_24 : decode cX11_get 24 = .ok (.goto 6, 3) := by decide +kernel
theorem dX11_get_27 : decode cX11_get 27 = .ok (.ldc2_w 346, 3) := by decide +kernel
theorem dX11_get_30 : decode cX11_get 30 = .ok (.lreturn, 1) := by decide +kernel
theorem dX11_fill_0 : decode cX11_fill 0 = .ok (.aload_n 0, 1) := by decide +kernel
theorem dX11_fill_1 : decode cX11_fill 1 = .ok (.iload_n 1, 1) := by decide +kernel
theorem dX11_fill_2 : decode cX11_fill 2 = .ok (.invokevirtual 328, 3) := by decide +kernel
theorem dX11_fill_5 : decode cX11_fill 5 = .ok (.astore 4, 2) := by decide +kernel
theorem dX11_fill_7 : decode cX11_fill 7 = .ok (.aload 4, 2) := by decide +kernel
theorem dX11_fill_9 : decode cX11_fill 9 = .ok (.ifnull 18, 3) := by decide +kernel
theorem dX11_fill_12 : decode cX11_fill 12 = .ok (.aload_n 0, 1) := by decide +kernel
theorem dX11_fill_13 : decode cX11_fill 13 = .ok (.iload_n 2, 1) := by decide +kernel
theorem dX11_fill_14 : decode cX11_fill 14 = .ok (.invokevirtual 188, 3) := by decide +kernel
theorem dX11_fill_17 : decode cX11_fill 17 = .ok (.ifCond .eq 10, 3) := by decide +kernel
theorem dX11_fill_20 : decode cX11_fill 20 = .ok (.iload_n 3, 1) := by decide +kernel
theorem dX11_fill_21 : decode cX11_fill 21 = .ok (.invokestatic 191, 3) := by decide +kernel
theorem dX11_fill_24 : decode cX11_fill 24 = .ok (.ifCond .ne 11, 3) := by decide +kernel
theorem dX11_fill_27 : decode cX11_fill 27 = .ok (.aload_n 0, 1) := by decide +kernel
theorem dX11_fill_28 : decode cX11_fill 28 = .ok (.iload_n 1, 1) := by decide +kernel
theorem dX11_fill_29 : decode cX11_fill 29 = .ok (.iload_n 2, 1) := by decide +kernel
theorem dX11_fill_30 : decode cX11_fill 30 = .ok (.iload_n 3, 1) := by decide +kernel
theorem dX11_fill_31 : decode cX11_fill 31 = .ok (.invokevirtual 348, 3) := by decide +kernel
theorem dX11_fill_34 : decode cX11_fill 34 = .ok (.ireturn, 1) := by decide +kernel
theorem dX11_fill_35 : decode cX11_fill 35 = .ok (.aload_n 0, 1) := by decide +kernel
theorem dX11_fill_36 : decode cX11_fill 36 = .ok (.getfield 52, 3) := by decide +kernel
theorem dX11_fill_39 : decode cX11_fill 39 = .ok (.aload_n 0, 1) := by decide +kernel
theorem dX11_fill_40 : decode cX11_fill 40 = .ok (.getfield 12, 3) := by decide +kernel
theorem dX11_fill_43 : decode cX11_fill 43 = .ok (.iload_n 2, 1) := by decide +kernel
theorem dX11_fill_44 : decode cX11_fill 44 = .ok (.iload_n 3, 1) := by decide +kernel
theorem dX11_fill_45 : decode cX11_fill 45 = .ok (.invokevirtual 194, 3) := by decide +kernel
theorem dX11_fill_48 : decode cX11_fill 48 = .ok (.aload 4, 2) := by decide +kernel
theorem dX11_fill_50 : decode cX11_fill 50 = .ok (.getfield 342, 3) := by decide +kernel
theorem dX11_fill_53 : decode cX11_fill 53 = .ok (.arraylength, 1) := by decide +kernel
theorem dX11_fill_54 : decode cX11_fill 54 = .ok (.aload_n 0, 1) := by decide +kernel
theorem dX11_fill_55 : decode cX11_fill 55 = .ok (.getfield 52, 3) := by decide +kernel
theorem dX11_fill_58 : decode cX11_fill 58 = .ok (.getfield 352, 3) := by decide +kernel
theorem dX11_fill_61 : decode cX11_fill 61 = .ok (.invokestatic 353, 3) := by decide +kernel
theorem dX11_fill_64 : decode cX11_fill 64 = .ok (.istore 5, 2) := by decide +kernel
theorem dX11_fill_66 : decode cX11_fill 66 = .ok (.iconst 0, 1) := by decide +kernel
theorem dX11_fill_67 : decode cX11_fill 67 = .ok (.istore 6, 2) := by decide +kernel
theorem dX11_fill_69 : decode cX11_fill 69 = .ok (.iload 6, 2) := by decide +kernel
theorem dX11_fill_71 : decode cX11_fill 71 = .ok (.iload 5, 2) := by decide +kernel
theorem dX11_fill_73 : decode cX11_fill 73 = .ok (.if_icmp .ge 27, 3) := by decide +kernel
theorem dX11_fill_76 : decode cX11_fill 76 = .ok (.aload 4, 2) := by decide +kernel
theorem dX11_fill_78 : decode cX11_fill 78 = .ok (.iload 6, 2) := by decide +kernel
theorem dX11_fill_80 : decode cX11_fill 80 = .ok (.aload_n 0, 1) := by decide +kernel
theorem dX11_fill_81 : decode cX11_fill 81 = .ok (.getfield 52, 3) := by decide +kernel
theorem dX11_fill_84 : decode cX11_fill 84 = .ok (.getfield 211, 3) := by decide +kernel
theorem dX11_fill_87 : decode cX11_fill 87 = .ok (.iload 6, 2) := by decide +kernel
theorem dX11_fill_89 : decode cX11_fill 89 = .ok (.iaload, 1) := by decide +kernel
theorem dX11_fill_90 : decode cX11_fill 90 = .ok (.i2l, 1) := by decide +kernel
theorem dX11_fill_91 : decode cX11_fill 91 = .ok (.invokevirtual 338, 3) := by decide +kernel
theorem dX11_fill_94 : decode cX11_fill 94 = .ok (.iinc 6 1, 3) := by decide +kernel
theorem dX11_fill_97 : decode cX11_fill 97 = .ok (.goto (-28), 3) := by decide +kernel
theorem dX11_fill_100 : decode cX11_fill 100 = .ok (.iload 5, 2) := by decide +kernel
theorem dX11_fill_102 : decode cX11_fill 102 = .ok (.ireturn, 1) := by decide +kernel
theorem dX11_judge_0 : decode cX11_judge 0 = .ok (.aload_n 0, 1) := by decide +kernel
theorem dX11_judge_1 : decode cX11_judge 1 = .ok (.iload_n 1, 1) := by decide +kernel
theorem dX11_judge_2 : decode cX11_judge 2 = .ok (.invokevirtual 328, 3) := by decide +kernel
theorem dX11_judge_5 : decode cX11_judge 5 = .ok (.astore 4, 2) := by decide +kernel
theorem dX11_judge_7 : decode cX11_judge 7 = .ok (.aload 4, 2) := by decide +kernel
theorem dX11_judge_9 : decode cX11_judge 9 = .ok (.ifnull 18, 3) := by decide +kernel
theorem dX11_judge_12 : decode cX11_judge 12 = .ok (.aload_n 0, 1) := by decide +kernel
theorem dX11_judge_13 : decode cX11_judge 13 = .ok (.iload_n 2, 1) := by decide +kernel
theorem dX11_judge_14 : decode cX11_judge 14 = .ok (.invokevirtual 188, 3) := by decide +kernel
theorem dX11_judge_17 : decode cX11_judge 17 = .ok (.ifCond .eq 10, 3) := by decide +kernel
theorem dX11_judge_20 : decode cX11_judge 20 = .ok (.iload_n 3, 1) := by decide +kernel
theorem dX11_judge_21 : decode cX11_judge 21 = .ok (.invokestatic 191, 3) := by decide +kernel
theorem dX11_judge_24 : decode cX11_judge 24 = .ok (.ifCond .ne 11, 3) := by decide +kernel
theorem dX11_judge_27 : decode cX11_judge 27 = .ok (.aload_n 0, 1) := by decide +kernel
theorem dX11_judge_28 : decode cX11_judge 28 = .ok (.iload_n 1, 1) := by decide +kernel
theorem dX11_judge_29 : decode cX11_judge 29 = .ok (.iload_n 2, 1) := by decide +kernel
theorem dX11_judge_30 : decode cX11_judge 30 = .ok (.iload_n 3, 1) := by decide +kernel
theorem dX11_judge_31 : decode cX11_judge 31 = .ok (.invokevirtual 348, 3) := by decide +kernel
theorem dX11_judge_34 : decode cX11_judge 34 = .ok (.ireturn, 1) := by decide +kernel
theorem dX11_judge_35 : decode cX11_judge 35 = .ok (.aload_n 0, 1) := by decide +kernel
theorem dX11_judge_36 : decode cX11_judge 36 = .ok (.getfield 52, 3) := by decide +kernel
theorem dX11_judge_39 : decode cX11_judge 39 = .ok (.aload_n 0, 1) := by decide +kernel
theorem dX11_judge_40 : decode cX11_judge 40 = .ok (.getfield 12, 3) := by decide +kernel
theorem dX11_judge_43 : decode cX11_judge 43 = .ok (.iload_n 2, 1) := by decide +kernel
theorem dX11_judge_44 : decode cX11_judge 44 = .ok (.iload_n 3, 1) := by decide +kernel
theorem dX11_judge_45 : decode cX11_judge 45 = .ok (.invokevirtual 194, 3) := by decide +kernel
theorem dX11_judge_48 : decode cX11_judge 48 = .ok (.iconst 0, 1) := by decide +kernel
theorem dX11_judge_49 : decode cX11_judge 49 = .ok (.istore 5, 2) := by decide +kernel
theorem dX11_judge_51 : decode cX11_judge 51 = .ok (.iload 5, 2) := by decide +kernel
theorem dX11_judge_53 : decode cX11_judge 53 = .ok (.aload 4, 2) := by decide +kernel
theorem dX11_judge_55 : decode cX11_judge 55 = .ok (.getfield 342, 3) := by decide +kernel
theorem dX11_judge_58 : decode cX11_judge 58 = .ok (.arraylength, 1) := by decide +kernel
theorem dX11_judge_59 : decode cX11_judge 59 = .ok (.if_icmp .ge 47, 3) := by decide +kernel
theorem dX11_judge_62 : decode cX11_judge 62 = .ok (.iload 5, 2) := by decide +kernel
theorem dX11_judge_64 : decode cX11_judge 64 = .ok (.aload_n 0, 1) := by decide +kernel
theorem dX11_judge_65 : decode cX11_judge 65 = .ok (.getfield 52, 3) := by decide +kernel
theorem dX11_judge_68 : decode cX11_judge 68 = .ok (.getfield 352, 3) := by decide +kernel
theorem dX11_judge_71 : decode cX11_judge 71 = .ok (.if_icmp .ge 26, 3) := by decide +kernel
theorem dX11_judge_74 : decode cX11_judge 74 = .ok (.aload 4, 2) := by decide +kernel
theorem dX11_judge_76 : decode cX11_judge 76 = .ok (.getfield 342, 3) := by decide +kernel
theorem dX11_judge_79 : decode cX11_judge 79 = .ok (.iload 5, 2) := by decide +kernel
theorem dX11_judge_81 : decode cX11_judge 81 = .ok (.laload, 1) := by decide +kernel
theorem dX11_judge_82 : decode cX11_judge 82 = .ok (.aload_n 0, 1) := by decide +kernel
theorem dX11_judge_83 : decode cX11_judge 83 = .ok (.getfield 52, 3) := by decide +kernel
theorem dX11_judge_86 : decode cX11_judge 86 = .ok (.getfield 211, 3) := by decide +kernel
theorem dX11_judge_89 : decode cX11_judge 89 = .ok (.iload 5, 2) := by decide +kernel
theorem dX11_judge_91 : decode cX11_judge 91 = .ok (.iaload, 1) := by decide +kernel
theorem dX11_judge_92 : decode cX11_judge 92 = .ok (.i2l, 1) := by decide +kernel
theorem dX11_judge_93 : decode cX11_judge 93 = .ok (.lcmp, 1) := by decide +kernel
theorem dX11_judge_94 : decode cX11_judge 94 = .ok (.ifCond .eq 6, 3) := by decide +kernel
theorem dX11_judge_97 : decode cX11_judge 97 = .ok (.iload 5, 2) := by decide +kernel
theorem dX11_judge_99 : decode cX11_judge 99 = .ok (.ireturn, 1) := by decide +kernel
theorem dX11_judge_100 : decode cX11_judge 100 = .ok (.iinc 5 1, 3) := by decide +kernel
theorem dX11_judge_103 : decode cX11_judge 103 = .ok (.goto (-52), 3) := by decide +kernel
theorem dX11_judge_106 : decode cX11_judge 106 = .ok (.bipush (-5), 2) := by decide +kernel
theorem dX11_judge_108 : decode cX11_judge 108 = .ok (.ireturn, 1) := by decide +kernel
theorem dX11_move_0 : decode cX11_move 0 = .ok (.iload_n 1, 1) := by decide +kernel
theorem dX11_move_1 : decode cX11_move 1 = .ok (.invokestatic 299, 3) := by decide +kernel
theorem dX11_move_4 : decode cX11_move 4 = .ok (.ifCond .eq 10, 3) := by decide +kernel
theorem dX11_move_7 : decode cX11_move 7 = .ok (.iload_n 3, 1) := by decide +kernel
theorem dX11_move_8 : decode cX11_move 8 = .ok (.invokestatic 299, 3) := by decide +kernel
theorem dX11_move_11 : decode cX11_move 11 = .ok (.ifCond .ne 5, 3) := by decide +kernel
theorem dX11_move_14 : decode cX11_move 14 = .ok (.iconst (-1), 1) := by decide +kernel
theorem dX11_move_15 : decode cX11_move 15 = .ok (.ireturn, 1) := by decide +kernel
theorem dX11_move_16 : decode cX11_move 16 = .ok (.aload_n 0, 1) := by decide +kernel
theorem dX11_move_17 : decode cX11_move 17 = .ok (.getfield 27, 3) := by decide +kernel
theorem dX11_move_20 : decode cX11_move 20 = .ok (.iload_n 1, 1) := by decide +kernel
theorem dX11_move_21 : decode cX11_move 21 = .ok (.aaload, 1) := by decide +kernel
theorem dX11_move_22 : decode cX11_move 22 = .ok (.ifnull 12, 3) := by decide +kernel
theorem dX11_move_25 : decode cX11_move 25 = .ok (.aload_n 0, 1) := by decide +kernel
theorem dX11_move_26 : decode cX11_move 26 = .ok (.getfield 27, 3) := by decide +kernel
theorem dX11_move_29 : decode cX11_move 29 = .ok (.iload_n 3, 1) := by decide +kernel
theorem dX11_move_30 : decode cX11_move 30 = .ok (.aaload, 1) := by decide +kernel
theorem dX11_move_31 : decode cX11_move 31 = .ok (.ifnonnull 6, 3) := by decide +kernel
theorem dX11_move_34 : decode cX11_move 34 = .ok (.bipush (-11), 2) := by decide +kernel
theorem dX11_move_36 : decode cX11_move 36 = .ok (.ireturn, 1) := by decide +kernel
theorem dX11_move_37 : decode cX11_move 37 = .ok (.aload_n 0, 1) := by decide +kernel
theorem dX11_move_38 : decode cX11_move 38 = .ok (.iload_n 1, 1) := by decide +kernel
theorem dX11_move_39 : decode cX11_move 39 = .ok (.invokevirtual 328, 3) := by decide +kernel
theorem dX11_move_42 : decode cX11_move 42 = .ok (.astore 6, 2) := by decide +kernel
theorem dX11_move_44 : decode cX11_move 44 = .ok (.aload_n 0, 1) := by decide +kernel
theorem dX11_move_45 : decode cX11_move 45 = .ok (.iload_n 3, 1) := by decide +kernel
theorem dX11_move_46 : decode cX11_move 46 = .ok (.invokevirtual 328, 3) := by decide +kernel
theorem dX11_move_49 : decode cX11_move 49 = .ok (.astore 7, 2) := by decide +kernel
theorem dX11_move_51 : decode cX11_move 51 = .ok (.aload 6, 2) := by decide +kernel
theorem dX11_move_53 : decode cX11_move 53 = .ok (.ifnull 21, 3) := by decide +kernel
theorem dX11_move_56 : decode cX11_move 56 = .ok (.aload 7, 2) := by decide +kernel
theorem dX11_move_58 : decode cX11_move 58 = .ok (.ifnull 16, 3) := by decide +kernel
theorem dX11_move_61 : decode cX11_move 61 = .ok (.aload 6, 2) := by decide +kernel
theorem dX11_move_63 : decode cX11_move 63 = .ok (.getfield 358, 3) := by decide +kernel
theorem dX11_move_66 : decode cX11_move 66 = .ok (.aload 7, 2) := by decide +kernel
theorem dX11_move_68 : decode cX11_move 68 = .ok (.getfield 358, 3) := by decide +kernel
theorem dX11_move_71 : decode cX11_move 71 = .ok (.if_icmp .eq 6, 3) := by decide +kernel
theorem dX11_move_74 : decode cX11_move 74 = .ok (.bipush (-13), 2) := by decide +kernel
theorem dX11_move_76 : decode cX11_move 76 = .ok (.ireturn, 1) := by decide +kernel
theorem dX11_move_77 : decode cX11_move 77 = .ok (.aload 6, 2) := by decide +kernel
theorem dX11_move_79 : decode cX11_move 79 = .ok (.iload_n 2, 1) := by decide +kernel
theorem dX11_move_80 : decode cX11_move 80 = .ok (.iload 5, 2) := by decide +kernel
theorem dX11_move_82 : decode cX11_move 82 = .ok (.invokevirtual 361, 3) := by decide +kernel
theorem dX11_move_85 : decode cX11_move 85 = .ok (.ifCond .eq 15, 3) := by decide +kernel
theorem dX11_move_88 : decode cX11_move 88 = .ok (.aload 7, 2) := by decide +kernel
theorem dX11_move_90 : decode cX11_move 90 = .ok (.iload 4, 2) := by decide +kernel
theorem dX11_move_92 : decode cX11_move 92 = .ok (.iload 5, 2) := by decide +kernel
theorem dX11_move_94 : decode cX11_move 94 = .ok (.invokevirtual 361, 3) := by decide +kernel
theorem dX11_move_97 : decode cX11_move 97 = .ok (.ifCond .ne 6, 3) := by decide +kernel
theorem dX11_move_100 : decode cX11_move 100 = .ok (.bipush (-12), 2) := by decide +kernel
theorem dX11_move_102 : decode cX11_move 102 = .ok (.ireturn, 1) := by decide +kernel
theorem dX11_move_103 : decode cX11_move 103 = .ok (.aload 6, 2) := by decide +kernel
theorem dX11_move_105 : decode cX11_move 105 = .ok (.getfield 342, 3) := by decide +kernel
theorem dX11_move_108 : decode cX11_move 108 = .ok (.iload_n 2, 1) := by decide +kernel
theorem dX11_move_109 : decode cX11_move 109 = .ok (.aload 7, 2) := by decide +kernel
theorem dX11_move_111 : decode cX11_move 111 = .ok (.getfield 342, 3) := by decide +kernel
theorem dX11_move_114 : decode cX11_move 114 = .ok (.iload 4, 2) := by decide +kernel
theorem dX11_move_116 : decode cX11_move 116 = .ok (.iload 5, 2) := by decide +kernel
theorem dX11_move_118 : decode cX11_move 118 = .ok (.invokestatic 364, 3) := by decide +kernel
theorem dX11_move_121 : decode cX11_move 121 = .ok (.iload 5, 2) := by decide +kernel
theorem dX11_move_123 : decode cX11_move 123 = .ok (.ireturn, 1) := by decide +kernel
theorem dX11_image_0 : decode cX11_image 0 = .ok (.aload_n 0, 1) := by decide +kernel
theorem dX11_image_1 : decode cX11_image 1 = .ok (.getfield 18, 3) := by decide +kernel
theorem dX11_image_4 : decode cX11_image 4 = .ok (.aload_n 0, 1) := by decide +kernel
theorem dX11_image_5 : decode cX11_image 5 = .ok (.getfield 12, 3) := by decide +kernel
theorem dX11_image_8 : decode cX11_image 8 = .ok (.invokevirtual 370, 3) := by decide +kernel
theorem dX11_image_11 : decode cX11_image 11 = .ok (.aload_n 0, 1) := by decide +kernel
theorem dX11_image_12 : decode cX11_image 12 = .ok (.iconst 1, 1) := by decide +kernel
theorem dX11_image_13 : decode cX11_image 13 = .ok (.putfield 21, 3) := by decide +kernel
theorem dX11_image_16 : decode cX11_image 16 = .ok (.aload_n 0, 1) := by decide +kernel
theorem dX11_image_17 : decode cX11_image 17 = .ok (.getfield 18, 3) := by decide +kernel
theorem dX11_image_20 : decode cX11_image 20 = .ok (.getfield 118, 3) := by decide +kernel
theorem dX11_image_23 : decode cX11_image 23 = .ok (.ireturn, 1) := by decide +kernel
theorem dX11_undo_0 : decode cX11_undo 0 = .ok (.aload_n 0, 1) := by decide +kernel
theorem dX11_undo_1 : decode cX11_undo 1 = .ok (.getfield 21, 3) := by decide +kernel
theorem dX11_undo_4 : decode cX11_undo 4 = .ok (.ifCond .ne 6, 3) := by decide +kernel
theorem dX11_undo_7 : decode cX11_undo 7 = .ok (.bipush (-3), 2) := by decide +kernel
theorem dX11_undo_9 : decode cX11_undo 9 = .ok (.ireturn, 1) := by decide +kernel
theorem dX11_undo_10 : decode cX11_undo 10 = .ok (.aload_n 0, 1) := by decide +kernel
theorem dX11_undo_11 : decode cX11_undo 11 = .ok (.getfield 12, 3) := by decide +kernel
theorem dX11_undo_14 : decode cX11_undo 14 = .ok (.aload_n 0, 1) := by decide +kernel
theorem dX11_undo_15 : decode cX11_undo 15 = .ok (.getfield 18, 3) := by decide +kernel
theorem dX11_undo_18 : decode cX11_undo 18 = .ok (.invokevirtual 370, 3) := by decide +kernel
theorem dX11_undo_21 : decode cX11_undo 21 = .ok (.aload_n 0, 1) := by decide +kernel
theorem dX11_undo_22 : decode cX11_undo 22 = .ok (.getfield 12, 3) := by decide +kernel
theorem dX11_undo_25 : decode cX11_undo 25 = .ok (.getfield 118, 3) := by decide +kernel
theorem dX11_undo_28 : decode cX11_undo 28 = .ok (.ireturn, 1) := by decide +kernel
theorem dX11_isIn_0 : decode cX11_isIn 0 = .ok (.iload_n 0, 1) := by decide +kernel
theorem dX11_isIn_1 : decode cX11_isIn 1 = .ok (.iload_n 1, 1) := by decide +kernel
theorem dX11_isIn_2 : decode cX11_isIn 2 = .ok (.if_icmp .lt 12, 3) := by decide +kernel
theorem dX11_isIn_5 : decode cX11_isIn 5 = .ok (.iload_n 0, 1) := by decide +kernel
theorem dX11_isIn_6 : decode cX11_isIn 6 = .ok (.iload_n 2, 1) := by decide +kernel
theorem dX11_isIn_7 : decode cX11_isIn 7 = .ok (.if_icmp .gt 7, 3) := by decide +kernel
theorem dX11_isIn_10 : decode cX11_isIn 10 = .ok (.iconst 1, 1) := by decide +kernel
theorem dX11_isIn_11 : decode cX11_isIn 11 = .ok (.goto 4, 3) := by decide +kernel
theorem dX11_isIn_14 : decode cX11_isIn 14 = .ok (.iconst 0, 1) := by decide +kernel
theorem dX11_isIn_15 : decode cX11_isIn 15 = .ok (.ireturn, 1) := by decide +kernel
theorem dX11_isPress_0 : decode cX11_isPress 0 = .ok (.iload_n 0, 1) := by decide +kernel
theorem dX11_isPress_1 : decode cX11_isPress 1 = .ok (.iconst 0, 1) := by decide +kernel
theorem dX11_isPress_2 : decode cX11_isPress 2 = .ok (.bipush 99, 2) := by decide +kernel
theorem dX11_isPress_4 : decode cX11_isPress 4 = .ok (.invokestatic 107, 3) := by decide +kernel
theorem dX11_isPress_7 : decode cX11_isPress 7 = .ok (.ireturn, 1) := by decide +kernel
theorem dX11_isHeight_0 : decode cX11_isHeight 0 = .ok (.iload_n 0, 1) := by decide +kernel
theorem dX11_isHeight_1 : decode cX11_isHeight 1 = .ok (.iconst 0, 1) := by decide +kernel
theorem dX11_isHeight_2 : decode cX11_isHeight 2 = .ok (.bipush 8, 2) := by decide +kernel
theorem dX11_isHeight_4 : decode cX11_isHeight 4 = .ok (.invokestatic 107, 3) := by decide +kernel
theorem dX11_isHeight_7 : decode cX11_isHeight 7 = .ok (.ireturn, 1) := by decide +kernel
theorem dX11_isRadius_0 : decode cX11_isRadius 0 = .ok (.iload_n 0, 1) := by decide +kernel
theorem dX11_isRadius_1 : decode cX11_isRadius 1 = .ok (.iconst 1, 1) := by decide +kernel
theorem dX11_isRadius_2 : decode cX11_isRadius 2 = .ok (.sipush 200, 3) := by decide +kernel
theorem dX11_isRadius_5 : decode cX11_isRadius 5 = .ok (.invokestatic 107, 3) := by decide +kernel
theorem dX11_isRadius_8 : decode cX11_isRadius 8 = .ok (.ireturn, 1) := by decide +kernel
theorem dX11_isPeg_0 : decode cX11_isPeg 0 = .ok (.iload_n 0, 1) := by decide +kernel
theorem dX11_isPeg_1 : decode cX11_isPeg 1 = .ok (.iconst 0, 1) := by decide +kernel
theorem dX11_isPeg_2 : decode cX11_isPeg 2 = .ok (.iconst 5, 1) := by decide +kernel
theorem dX11_isPeg_3 : decode cX11_isPeg 3 = .ok (.invokestatic 107, 3) := by decide +kernel
theorem dX11_isPeg_6 : decode cX11_isPeg 6 = .ok (.ireturn, 1) := by decide +kernel
theorem dX11_canRule_0 : decode cX11_canRule 0 = .ok (.iload_n 0, 1) := by decide +kernel
theorem dX11_canRule_1 : decode cX11_canRule 1 = .ok (.iconst 0, 1) := by decide +kernel
theorem dX11_canRule_2 : decode cX11_canRule 2 = .ok (.iconst 3, 1) := by decide +kernel
theorem dX11_canRule_3 : decode cX11_canRule 3 = .ok (.invokestatic 107, 3) := by decide +kernel
theorem dX11_canRule_6 : decode cX11_canRule 6 = .ok (.ifCond .eq 24, 3) := by decide +kernel
theorem dX11_canRule_9 : decode cX11_canRule 9 = .ok (.iload_n 1, 1) := by decide +kernel
theorem dX11_canRule_10 : decode cX11_canRule 10 = .ok (.getstatic 373, 3) := by decide +kernel
theorem dX11_canRule_13 : decode cX11_canRule 13 = .ok (.iload_n 0, 1) := by decide +kernel
theorem dX11_canRule_14 : decode cX11_canRule 14 = .ok (.iaload, 1) := by decide +kernel
theorem dX11_canRule_15 : decode cX11_canRule 15 = .ok (.getstatic 376, 3) := by decide +kernel
theorem dX11_canRule_18 : decode cX11_canRule 18 = .ok (.iload_n 0, 1) := by decide +kernel
theorem dX11_canRule_19 : decode cX11_canRule 19 = .ok (.iaload, 1) := by decide +kernel
theorem dX11_canRule_20 : decode cX11_canRule 20 = .ok (.invokestatic 107, 3) := by decide +kernel
theorem dX11_canRule_23 : decode cX11_canRule 23 = .ok (.ifCond .eq 7, 3) := by decide +kernel
theorem dX11_canRule_26 : decode cX11_canRule 26 = .ok (.iconst 1, 1) := by decide +kernel
theorem dX11_canRule_27 : decode cX11_canRule 27 = .ok (.goto 4, 3) := by decide +kernel
theorem dX11_canRule_30 : decode cX11_canRule 30 = .ok (.iconst 0, 1) := by decide +kernel
theorem dX11_canRule_31 : decode cX11_canRule 31 = .ok (.ireturn, 1) := by decide +kernel
theorem dX11_isRingSet_0 : decode cX11_isRingSet 0 = .ok (.iload_n 1, 1) := by decide +kernel
theorem dX11_isRingSet_1 : decode cX11_isRingSet 1 = .ok (.iconst 1, 1) := by decide +kernel
theorem dX11_isRingSet_2 : decode cX11_isRingSet 2 = .ok (.iconst 1, 1) := by decide +kernel
theorem dX11_isRingSet_3 : decode cX11_isRingSet 3 = .ok (.aload_n 0, 1) := by decide +kernel
theorem dX11_isRingSet_4 : decode cX11_isRingSet 4 = .ok (.getfield 12, 3) := by decide +kernel
theorem dX11_isRingSet_7 : decode cX11_isRingSet 7 = .ok (.getfield 118, 3) := by decide +kernel
theorem dX11_isRingSet_10 : decode cX11_isRingSet 10 = .ok (.ishl, 1) := by decide +kernel
theorem dX11_isRingSet_11 : decode cX11_isRingSet 11 = .ok (.iconst 1, 1) := by decide +kernel
theorem dX11_isRingSet_12 : decode cX11_isRingSet 12 = .ok (.isub, 1) := by decide +kernel
theorem dX11_isRingSet_13 : decode cX11_isRingSet 13 = .ok (.invokestatic 107, 3) := by decide +kernel
theorem dX11_isRingSet_16 : decode cX11_isRingSet 16 = .ok (.ifCond .eq 16, 3) := by decide +kernel
theorem dX11_isRingSet_19 : decode cX11_isRingSet 19 = .ok (.iload_n 1, 1) := by decide +kernel
theorem dX11_isRingSet_20 : decode cX11_isRingSet 20 = .ok (.invokestatic 379, 3) := by decide +kernel
theorem dX11_isRingSet_23 : decode cX11_isRingSet 23 = .ok (.bipush 8, 2) := by decide +kernel
theorem dX11_isRingSet_25 : decode cX11_isRingSet 25 = .ok (.if_icmp .gt 7, 3) := by decide +kernel
theorem dX11_isRingSet_28 : decode cX11_isRingSet 28 = .ok (.iconst 1, 1) := by decide +kernel
theorem dX11_isRingSet_29 : decode cX11_isRingSet 29 = .ok (.goto 4, 3) := by decide +kernel
theorem dX11_isRingSet_32 : decode cX11_isRingSet 32 = .ok (.iconst 0, 1) := by decide +kernel
theorem dX11_isRingSet_33 : decode cX11_isRingSet 33 = .ok (.ireturn, 1) := by decide +kernel
theorem dX11_holds_0 : decode cX11_holds 0 = .ok (.iload_n 0, 1) := by decide +kernel
theorem dX11_holds_1 : decode cX11_holds 1 = .ok (.iload_n 1, 1) := by decide +kernel
theorem dX11_holds_2 : decode cX11_holds 2 = .ok (.ishr, 1) := by decide +kernel
theorem dX11_holds_3 : decode cX11_holds 3 = .ok (.iconst 1, 1) := by decide +kernel
theorem dX11_holds_4 : decode cX11_holds 4 = .ok (.iand, 1) := by decide +kernel
theorem dX11_holds_5 : decode cX11_holds 5 = .ok (.iconst 1, 1) := by decide +kernel
theorem dX11_holds_6 : decode cX11_holds 6 = .ok (.if_icmp .ne 7, 3) := by decide +kernel
theorem dX11_holds_9 : decode cX11_holds 9 = .ok (.iconst 1, 1) := by decide +kernel
theorem dX11_holds_10 : decode cX11_holds 10 = .ok (.goto 4, 3) := by decide +kernel
theorem dX11_holds_13 : decode cX11_holds 13 = .ok (.iconst 0, 1) := by decide +kernel
theorem dX11_holds_14 : decode cX11_holds 14 = .ok (.ireturn, 1) := by decide +kernel
theorem dX11_without_0 : decode cX11_without 0 = .ok (.iload_n 0, 1) := by decide +kernel
theorem dX11_without_1 : decode cX11_without 1 = .ok (.iconst 1, 1) := by decide +kernel
theorem dX11_without_2 : decode cX11_without 2 = .ok (.iload_n 1, 1) := by decide +kernel
theorem dX11_without_3 : decode cX11_without 3 = .ok (.ishl, 1) := by decide +kernel
theorem dX11_without_4 : decode cX11_without 4 = .ok (.iconst (-1), 1) := by decide +kernel
theorem dX11_without_5 : decode cX11_without 5 = .ok (.ixor, 1) := by decide +kernel
theorem dX11_without_6 : decode cX11_without 6 = .ok (.iand, 1) := by decide +kernel
theorem dX11_without_7 : decode cX11_without 7 = .ok (.ireturn, 1) := by decide +kernel
theorem dX11_kindsOf_0 : decode cX11_kindsOf 0 = .ok (.iload_n 0, 1) := by decide +kernel
theorem dX11_kindsOf_1 : decode cX11_kindsOf 1 = .ok (.lookupswitch 37 #[(0, 27), (1, 32)], 27) := by decide +kernel
theorem dX11_kindsOf_28 : decode cX11_kindsOf 28 = .ok (.getstatic 317, 3) := by decide +kernel
theorem dX11_kindsOf_31 : decode cX11_kindsOf 31 = .ok (.arraylength, 1) := by decide +kernel
theorem dX11_kindsOf_32 : decode cX11_kindsOf 32 = .ok (.ireturn, 1) := by decide +kernel
theorem dX11_kindsOf_33 : decode cX11_kindsOf 33 = .ok (.getstatic 324, 3) := by decide +kernel
theorem dX11_kindsOf_36 : decode cX11_kindsOf 36 = .ok (.arraylength, 1) := by decide +kernel
theorem dX11_kindsOf_37 : decode cX11_kindsOf 37 = .ok (.ireturn, 1) := by decide +kernel
theorem dX11_kindsOf_38 : decode cX11_kindsOf 38 = .ok (.iconst 1, 1) := by decide +kernel
theorem dX11_kindsOf_39 : decode cX11_kindsOf 39 = .ok (.ireturn, 1) := by decide +kernel
theorem dX11_isUnder_0 : decode cX11_isUnder 0 = .ok (.iload_n 0, 1) := by decide +kernel
theorem dX11_isUnder_1 : decode cX11_isUnder 1 = .ok (.istore_n 3, 1) := by decide +kernel
theorem dX11_isUnder_2 : decode cX11_isUnder 2 = .ok (.iconst 0, 1) := by decide +kernel
theorem dX11_isUnder_3 : decode cX11_isUnder 3 = .ok (.istore 4, 2) := by decide +kernel
theorem dX11_isUnder_5 : decode cX11_isUnder 5 = .ok (.iload 4, 2) := by decide +kernel
theorem dX11_isUnder_7 : decode cX11_isUnder 7 = .ok (.aload_n 2, 1) := by decide +kernel
theorem dX11_isUnder_8 : decode cX11_isUnder 8 = .ok (.arraylength, 1) := by decide +kernel
theorem dX11_isUnder_9 : decode cX11_isUnder 9 = .ok (.if_icmp .ge 30, 3) := by decide +kernel
theorem dX11_isUnder_12 : decode cX11_isUnder 12 = .ok (.iload_n 3, 1) := by decide +kernel
theorem dX11_isUnder_13 : decode cX11_isUnder 13 = .ok (.ifCond .lt 26, 3) := by decide +kernel
theorem dX11_isUnder_16 : decode cX11_isUnder 16 = .ok (.iload_n 3, 1) := by decide +kernel
theorem dX11_isUnder_17 : decode cX11_isUnder 17 = .ok (.aload_n 2, 1) := by decide +kernel
theorem dX11_isUnder_18 : decode cX11_isUnder 18 = .ok (.arraylength, 1) := by decide +kernel
theorem dX11_isUnder_19 : decode cX11_isUnder 19 = .ok (.if_icmp .ge 20, 3) := by decide +kernel
theorem dX11_isUnder_22 : decode cX11_isUnder 22 = .ok (.iload_n 3, 1) := by decide +kernel
theorem dX11_isUnder_23 : decode cX11_isUnder 23 = .ok (.iload_n 1, 1) := by decide +kernel
theorem dX11_isUnder_24 : decode cX11_isUnder 24 = .ok (.if_icmp .ne 5, 3) := by decide +kernel
theorem dX11_isUnder_27 : decode cX11_isUnder 27 = .ok (.iconst 1, 1) := by decide +kernel
theorem dX11_isUnder_28 : decode cX11_isUnder 28 = .ok (.ireturn, 1) := by decide +kernel
theorem dX11_isUnder_29 : decode cX11_isUnder 29 = .ok (.aload_n 2, 1) := by decide +kernel
theorem dX11_isUnder_30 : decode cX11_isUnder 30 = .ok (.iload_n 3, 1) := by decide +kernel
theorem dX11_isUnder_31 : decode cX11_isUnder 31 = .ok (.iaload, 1) := by decide +kernel
theorem dX11_isUnder_32 : decode cX11_isUnder 32 = .ok (.istore_n 3, 1) := by decide +kernel
theorem dX11_isUnder_33 : decode cX11_isUnder 33 = .ok (.iinc 4 1, 3) := by decide +kernel
theorem dX11_isUnder_36 : decode cX11_isUnder 36 = .ok (.goto (-31), 3) := by decide +kernel
theorem dX11_isUnder_39 : decode cX11_isUnder 39 = .ok (.iconst 0, 1) := by decide +kernel
theorem dX11_isUnder_40 : decode cX11_isUnder 40 = .ok (.ireturn, 1) := by decide +kernel
theorem dX11_rootOf_0 : decode cX11_rootOf 0 = .ok (.iconst 0, 1) := by decide +kernel
theorem dX11_rootOf_1 : decode cX11_rootOf 1 = .ok (.istore_n 1, 1) := by decide +kernel
theorem dX11_rootOf_2 : decode cX11_rootOf 2 = .ok (.sipush 128, 3) := by decide +kernel
theorem dX11_rootOf_5 : decode cX11_rootOf 5 = .ok (.istore_n 2, 1) := by decide +kernel
theorem dX11_rootOf_6 : decode cX11_rootOf 6 = .ok (.iload_n 2, 1) := by decide +kernel
theorem dX11_rootOf_7 : decode cX11_rootOf 7 = .ok (.ifCond .le 23, 3) := by decide +kernel
theorem dX11_rootOf_10 : decode cX11_rootOf 10 = .ok (.iload_n 1, 1) := by decide +kernel
theorem dX11_rootOf_11 : decode cX11_rootOf 11 = .ok (.iload_n 2, 1) := by decide +kernel
theorem dX11_rootOf_12 : decode cX11_rootOf 12 = .ok (.iadd, 1) := by decide +kernel
theorem dX11_rootOf_13 : decode cX11_rootOf 13 = .ok (.istore_n 3, 1) := by decide +kernel
theorem dX11_rootOf_14 : decode cX11_rootOf 14 = .ok (.iload_n 3, 1) := by decide +kernel
theorem dX11_rootOf_15 : decode cX11_rootOf 15 = .ok (.iload_n 3, 1) := by decide +kernel
theorem dX11_rootOf_16 : decode cX11_rootOf 16 = .ok (.imul, 1) := by decide +kernel
theorem dX11_rootOf_17 : decode cX11_rootOf 17 = .ok (.iload_n 0, 1) := by decide +kernel
theorem dX11_rootOf_18 : decode cX11_rootOf 18 = .ok (.if_icmp .gt 5, 3) := by decide +kernel
theorem dX11_rootOf_21 : decode cX11_rootOf 21 = .ok (.iload_n 3, 1) := by decide +kernel
theorem dX11_rootOf_22 : decode cX11_rootOf 22 = .ok (.istore_n 1, 1) := by decide +kernel
theorem dX11_rootOf_23 : decode cX11_rootOf 23 = .ok (.iload_n 2, 1) := by decide +kernel
theorem dX11_rootOf_24 : decode cX11_rootOf 24 = .ok (.iconst 1, 1) := by decide +kernel
theorem dX11_rootOf_25 : decode cX11_rootOf 25 = .ok (.ishr, 1) := by decide +kernel
theorem dX11_rootOf_26 : decode cX11_rootOf 26 = .ok (.istore_n 2, 1) := by decide +kernel
theorem dX11_rootOf_27 : decode cX11_rootOf 27 = .ok (.goto (-21), 3) := by decide +kernel
theorem dX11_rootOf_30 : decode cX11_rootOf 30 = .ok (.iload_n 1, 1) := by decide +kernel
theorem dX11_rootOf_31 : decode cX11_rootOf 31 = .ok (.ireturn, 1) := by decide +kernel
theorem dX11_sagOf_0 : decode cX11_sagOf 0 = .ok (.iconst 2, 1) := by decide +kernel
theorem dX11_sagOf_1 : decode cX11_sagOf 1 = .ok (.bipush 113, 2) := by decide +kernel
theorem dX11_sagOf_3 : decode cX11_sagOf 3 = .ok (.iload_n 1, 1) := by decide +kernel
theorem dX11_sagOf_4 : decode cX11_sagOf 4 = .ok (.imul, 1) := by decide +kernel
theorem dX11_sagOf_5 : decode cX11_sagOf 5 = .ok (.sipush 710, 3) := by decide +kernel
theorem dX11_sagOf_8 : decode cX11_sagOf 8 = .ok (.idiv, 1) := by decide +kernel
theorem dX11_sagOf_9 : decode cX11_sagOf 9 = .ok (.imul, 1) := by decide +kernel
theorem dX11_sagOf_10 : decode cX11_sagOf 10 = .ok (.istore_n 2, 1) := by decide +kernel
theorem dX11_sagOf_11 : decode cX11_sagOf 11 = .ok (.iload_n 0, 1) := by decide +kernel
theorem dX11_sagOf_12 : decode cX11_sagOf 12 = .ok (.iload_n 2, 1) := by decide +kernel
theorem dX11_sagOf_13 : decode cX11_sagOf 13 = .ok (.if_icmp .le 6, 3) := by decide +kernel
theorem dX11_sagOf_16 : decode cX11_sagOf 16 = .ok (.bipush (-5), 2) := by decide +kernel
theorem dX11_sagOf_18 : decode cX11_sagOf 18 = .ok (.ireturn, 1) := by decide +kernel
theorem dX11_sagOf_19 : decode cX11_sagOf 19 = .ok (.iload_n 2, 1) := by decide +kernel
theorem dX11_sagOf_20 : decode cX11_sagOf 20 = .ok (.iload_n 2, 1) := by decide +kernel
theorem dX11_sagOf_21 : decode cX11_sagOf 21 = .ok (.iload_n 2, 1) := by decide +kernel
theorem dX11_sagOf_22 : decode cX11_sagOf 22 = .ok (.imul, 1) := by decide +kernel
theorem dX11_sagOf_23 : decode cX11_sagOf 23 = .ok (.iload_n 0, 1) := by decide +kernel
theorem dX11_sagOf_24 : decode cX11_sagOf 24 = .ok (.iload_n 0, 1) := by decide +kernel
theorem dX11_sagOf_25 : decode cX11_sagOf 25 = .ok (.imul, 1) := by decide +kernel
theorem dX11_sagOf_26 : decode cX11_sagOf 26 = .ok (.isub, 1) := by decide +kernel
theorem dX11_sagOf_27 : decode cX11_sagOf 27 = .ok (.invokestatic 384, 3) := by decide +kernel
theorem dX11_sagOf_30 : decode cX11_sagOf 30 = .ok (.isub, 1) := by decide +kernel
theorem dX11_sagOf_31 : decode cX11_sagOf 31 = .ok (.iconst 2, 1) := by decide +kernel
theorem dX11_sagOf_32 : decode cX11_sagOf 32 = .ok (.idiv, 1) := by decide +kernel
theorem dX11_sagOf_33 : decode cX11_sagOf 33 = .ok (.ireturn, 1) := by decide +kernel
theorem dX11_howManyDigits_0 : decode cX11_howManyDigits 0 = .ok (.iconst 0, 1) := by decide +kernel
theorem dX11_howManyDigits_1 : decode cX11_howManyDigits 1 = .ok (.istore_n 1, 1) := by decide +kernel
theorem dX11_howManyDigits_2 : decode cX11_howManyDigits 2 = .ok (.iload_n 0, 1) := by decide +kernel
theorem dX11_howManyDigits_3 : decode cX11_howManyDigits 3 = .ok (.istore_n 2, 1) := by decide +kernel
theorem dX11_howManyDigits_4 : decode cX11_howManyDigits 4 = .ok (.iconst 0, 1) := by decide +kernel
theorem dX11_howManyDigits_5 : decode cX11_howManyDigits 5 = .ok (.istore_n 3, 1) := by decide +kernel
theorem dX11_howManyDigits_6 : decode cX11_howManyDigits 6 = .ok (.iload_n 3, 1) := by decide +kernel
theorem dX11_howManyDigits_7 : decode cX11_howManyDigits 7 = .ok (.bipush 10, 2) := by decide +kernel
theorem dX11_howManyDigits_9 : decode cX11_howManyDigits 9 = .ok (.if_icmp .ge 21, 3) := by decide +kernel
theorem dX11_howManyDigits_12 : decode cX11_howManyDigits 12 = .ok (.iload_n 2, 1) := by decide +kernel
theorem dX11_howManyDigits_13 : decode cX11_howManyDigits 13 = .ok (.ifCond .le 17, 3) := by decide +kernel
theorem dX11_howManyDigits_16 : decode cX11_howManyDigits 16 = .ok (.iinc 1 1, 3) := by decide +kernel
theorem dX11_howManyDigits_19 : decode cX11_howManyDigits 19 = .ok (.iload_n 2, 1) := by decide +kernel
theorem dX11_howManyDigits_20 : decode cX11_howManyDigits 20 = .ok (.bipush 10, 2) := by decide +kernel
theorem dX11_howManyDigits_22 : decode cX11_howManyDigits 22 = .ok (.idiv, 1) := by decide +kernel
theorem dX11_howManyDigits_23 : decode cX11_howManyDigits 23 = .ok (.istore_n 2, 1) := by decide +kernel
theorem dX11_howManyDigits_24 : decode cX11_howManyDigits 24 = .ok (.iinc 3 1, 3) := by decide +kernel
theorem dX11_howManyDigits_27 : decode cX11_howManyDigits 27 = .ok (.goto (-21), 3) := by decide +kernel
theorem dX11_howManyDigits_30 : decode cX11_howManyDigits 30 = .ok (.iload_n 1, 1) := by decide +kernel
theorem dX11_howManyDigits_31 : decode cX11_howManyDigits 31 = .ok (.ireturn, 1) := by decide +kernel
theorem dX11_spellRow_0 : decode cX11_spellRow 0 = .ok (.iload_n 0, 1) := by decide +kernel
theorem dX11_spellRow_1 : decode cX11_spellRow 1 = .ok (.invokestatic 270, 3) := by decide +kernel
theorem dX11_spellRow_4 : decode cX11_spellRow 4 = .ok (.istore_n 3, 1) := by decide +kernel
theorem dX11_spellRow_5 : decode cX11_spellRow 5 = .ok (.iload_n 3, 1) := by decide +kernel
theorem dX11_spellRow_6 : decode cX11_spellRow 6 = .ok (.iconst 1, 1) := by decide +kernel
theorem dX11_spellRow_7 : decode cX11_spellRow 7 = .ok (.if_icmp .lt 9, 3) := by decide +kernel
theorem dX11_spellRow_10 : decode cX11_spellRow 10 = .ok (.iload_n 3, 1) := by decide +kernel
theorem dX11_spellRow_11 : decode cX11_spellRow 11 = .ok (.aload_n 2, 1) := by decide +kernel
theorem dX11_spellRow_12 : decode cX11_spellRow 12 = .ok (.arraylength, 1) := by decide +kernel
theorem dX11_spellRow_13 : decode cX11_spellRow 13 = .ok (.if_icmp .le 5, 3) := by decide +kernel
theorem dX11_spellRow_16 : decode cX11_spellRow 16 = .ok (.iconst 0, 1) := by decide +kernel
theorem dX11_spellRow_17 : decode cX11_spellRow 17 = .ok (.ireturn, 1) := by decide +kernel
theorem dX11_spellRow_18 : decode cX11_spellRow 18 = .ok (.iload_n 0, 1) := by decide +kernel
theorem dX11_spellRow_19 : decode cX11_spellRow 19 = .ok (.istore 4, 2) := by decide +kernel
theorem dX11_spellRow_21 : decode cX11_spellRow 21 = .ok (.iconst 0, 1) := by decide +kernel
theorem dX11_spellRow_22 : decode cX11_spellRow 22 = .ok (.istore 5, 2) := by decide +kernel
theorem dX11_spellRow_24 : decode cX11_spellRow 24 = .ok (.iload_n 3, 1) := by decide +kernel
theorem dX11_spellRow_25 : decode cX11_spellRow 25 = .ok (.iconst 1, 1) := by decide +kernel
theorem dX11_spellRow_26 : decode cX11_spellRow 26 = .ok (.isub, 1) := by decide +kernel
theorem dX11_spellRow_27 : decode cX11_spellRow 27 = .ok (.istore 6, 2) := by decide +kernel
theorem dX11_spellRow_29 : decode cX11_spellRow 29 = .ok (.iload 6, 2) := by decide +kernel
theorem dX11_spellRow_31 : decode cX11_spellRow 31 = .ok (.ifCond .lt 63, 3) := by decide +kernel
theorem dX11_spellRow_34 : decode cX11_spellRow 34 = .ok (.iload 4, 2) := by decide +kernel
theorem dX11_spellRow_36 : decode cX11_spellRow 36 = .ok (.bipush 10, 2) := by decide +kernel
theorem dX11_spellRow_38 : decode cX11_spellRow 38 = .ok (.irem, 1) := by decide +kernel
theorem dX11_spellRow_39 : decode cX11_spellRow 39 = .ok (.iconst 1, 1) := by decide +kernel
theorem dX11_spellRow_40 : decode cX11_spellRow 40 = .ok (.isub, 1) := by decide +kernel
theorem dX11_spellRow_41 : decode cX11_spellRow 41 = .ok (.istore 7, 2) := by decide +kernel
theorem dX11_spellRow_43 : decode cX11_spellRow 43 = .ok (.iload 7, 2) := by decide +kernel
theorem dX11_spellRow_45 : decode cX11_spellRow 45 = .ok (.ifCond .lt 19, 3) := by decide +kernel
theorem dX11_spellRow_48 : decode cX11_spellRow 48 = .ok (.iload 7, 2) := by decide +kernel
theorem dX11_spellRow_50 : decode cX11_spellRow 50 = .ok (.iload_n 1, 1) := by decide +kernel
theorem dX11_spellRow_51 : decode cX11_spellRow 51 = .ok (.if_icmp .ge 13, 3) := by decide +kernel
theorem dX11_spellRow_54 : decode cX11_spellRow 54 = .ok (.iload 5, 2) := by decide +kernel
theorem dX11_spellRow_56 : decode cX11_spellRow 56 = .ok (.iload 7, 2) := by decide +kernel
theorem dX11_spellRow_58 : decode cX11_spellRow 58 = .ok (.invokestatic 387, 3) := by decide +kernel
theorem dX11_spellRow_61 : decode cX11_spellRow 61 = .ok (.ifCond .eq 5, 3) := by decide +kernel
theorem dX11_spellRow_64 : decode cX11_spellRow 64 = .ok (.iconst 0, 1) := by decide +kernel
theorem dX11_spellRow_65 : decode cX11_spellRow 65 = .ok (.ireturn, 1) := by decide +kernel
theorem dX11_spellRow_66 : decode cX11_spellRow 66 = .ok (.aload_n 2, 1) := by decide +kernel
theorem dX11_spellRow_67 : decode cX11_spellRow 67 = .ok (.iload 6, 2) := by decide +kernel
theorem dX11_spellRow_69 : decode cX11_spellRow 69 = .ok (.iload 7, 2) := by decide +kernel
theorem dX11_spellRow_71 : decode cX11_spellRow 71 = .ok (.iastore, 1) := by decide +kernel
theorem dX11_spellRow_72 : decode cX11_spellRow 72 = .ok (.iload 5, 2) := by decide +kernel
theorem dX11_spellRow_74 : decode cX11_spellRow 74 = .ok (.iconst 1, 1) := by decide +kernel
theorem dX11_spellRow_75 : decode cX11_spellRow 75 = .ok (.iload 7, 2) := by decide +kernel
theorem dX11_spellRow_77 : decode cX11_spellRow 77 = .ok (.ishl, 1) := by decide +kernel
theorem dX11_spellRow_78 : decode cX11_spellRow 78 = .ok (.ior, 1) := by decide +kernel
theorem dX11_spellRow_79 : decode cX11_spellRow 79 = .ok (.istore 5, 2) := by decide +kernel
theorem dX11_spellRow_81 : decode cX11_spellRow 81 = .ok (.iload 4, 2) := by decide +kernel
theorem dX11_spellRow_83 : decode cX11_spellRow 83 = .ok (.bipush 10, 2) := by decide +kernel
theorem dX11_spellRow_85 : decode cX11_spellRow 85 = .ok (.idiv, 1) := by decide +kernel
theorem dX11_spellRow_86 : decode cX11_spellRow 86 = .ok (.istore 4, 2) := by decide +kernel
theorem dX11_spellRow_88 : decode cX11_spellRow 88 = .ok (.iinc 6 (-1), 3) := by decide +kernel
theorem dX11_spellRow_91 : decode cX11_spellRow 91 = .ok (.goto (-62), 3) := by decide +kernel
theorem dX11_spellRow_94 : decode cX11_spellRow 94 = .ok (.iload_n 3, 1) := by decide +kernel
theorem dX11_spellRow_95 : decode cX11_spellRow 95 = .ok (.ireturn, 1) := by decide +kernel
theorem dX11_ofResting_0 : decode cX11_ofResting 0 = .ok (.aload_n 0, 1) := by decide +kernel
theorem dX11_ofResting_1 : decode cX11_ofResting 1 = .ok (.getfield 59, 3) := by decide +kernel
theorem dX11_ofResting_4 : decode cX11_ofResting 4 = .ok (.aload_n 0, 1) := by decide +kernel
theorem dX11_ofResting_5 : decode cX11_ofResting 5 = .ok (.getfield 12, 3) := by decide +kernel
theorem dX11_ofResting_8 : decode cX11_ofResting 8 = .ok (.invokevirtual 238, 3) := by decide +kernel
theorem dX11_ofResting_11 : decode cX11_ofResting 11 = .ok (.aload_n 0, 1) := by decide +kernel
theorem dX11_ofResting_12 : decode cX11_ofResting 12 = .ok (.getfield 59, 3) := by decide +kernel
theorem dX11_ofResting_15 : decode cX11_ofResting 15 = .ok (.getfield 390, 3) := by decide +kernel
theorem dX11_ofResting_18 : decode cX11_ofResting 18 = .ok (.iload_n 2, 1) := by decide +kernel
theorem dX11_ofResting_19 : decode cX11_ofResting 19 = .ok (.iaload, 1) := by decide +kernel
theorem dX11_ofResting_20 : decode cX11_ofResting 20 = .ok (.istore 4, 2) := by decide +kernel
theorem dX11_ofResting_22 : decode cX11_ofResting 22 = .ok (.iload 4, 2) := by decide +kernel
theorem dX11_ofResting_24 : decode cX11_ofResting 24 = .ok (.bipush (-5), 2) := by decide +kernel
theorem dX11_ofResting_26 : decode cX11_ofResting 26 = .ok (.if_icmp .ne 6, 3) := by decide +kernel
theorem dX11_ofResting_29 : decode cX11_ofResting 29 = .ok (.bipush (-5), 2) := by decide +kernel
theorem dX11_ofResting_31 : decode cX11_ofResting 31 = .ok (.ireturn, 1) := by decide +kernel
theorem dX11_ofResting_32 : decode cX11_ofResting 32 = .ok (.aload_n 0, 1) := by decide +kernel
theorem dX11_ofResting_33 : decode cX11_ofResting 33 = .ok (.getfield 12, 3) := by decide +kernel
theorem dX11_ofResting_36 : decode cX11_ofResting 36 = .ok (.iload 4, 2) := by decide +kernel
theorem dX11_ofResting_38 : decode cX11_ofResting 38 = .ok (.aload_n 1, 1) := by decide +kernel
theorem dX11_ofResting_39 : decode cX11_ofResting 39 = .ok (.getfield 230, 3) := by decide +kernel
theorem dX11_ofResting_42 : decode cX11_ofResting 42 = .ok (.invokestatic 393, 3) := by decide +kernel
theorem dX11_ofResting_45 : decode cX11_ofResting 45 = .ok (.istore 5, 2) := by decide +kernel
theorem dX11_ofResting_47 : decode cX11_ofResting 47 = .ok (.iload_n 3, 1) := by decide +kernel
theorem dX11_ofResting_48 : decode cX11_ofResting 48 = .ok (.lookupswitch 41 #[(3, 28), (4, 38)], 28) := by decide +kernel
theorem dX11_ofResting_76 : decode cX11_ofResting 76 = .ok (.iload 4, 2) := by decide +kernel
theorem dX11_ofResting_78 : decode cX11_ofResting 78 = .ok (.aload_n 1, 1) := by decide +kernel
theorem dX11_ofResting_79 : decode cX11_ofResting 79 = .ok (.getfield 231, 3) := by decide +kernel
theorem dX11_ofResting_82 : decode cX11_ofResting 82 = .ok (.invokestatic 396, 3) := by decide +kernel
theorem dX11_ofResting_85 : decode cX11_ofResting 85 = .ok (.ireturn, 1) := by decide +kernel
theorem dX11_ofResting_86 : decode cX11_ofResting 86 = .ok (.iload 5, 2) := by decide +kernel
theorem dX11_ofResting_88 : decode cX11_ofResting 88 = .ok (.ireturn, 1) := by decide +kernel
theorem dX11_ofResting_89 : decode cX11_ofResting 89 = .ok (.aload_n 1, 1) := by decide +kernel
theorem dX11_ofResting_90 : decode cX11_ofResting 90 = .ok (.getfield 229, 3) := by decide +kernel
theorem dX11_ofResting_93 : decode cX11_ofResting 93 = .ok (.iload 5, 2) := by decide +kernel
theorem dX11_ofResting_95 : decode cX11_ofResting 95 = .ok (.invokestatic 399, 3) := by decide +kernel
theorem dX11_ofResting_98 : decode cX11_ofResting 98 = .ok (.ireturn, 1) := by decide +kernel
theorem dX11_trayOn_0 : decode cX11_trayOn 0 = .ok (.iload_n 1, 1) := by decide +kernel
theorem dX11_trayOn_1 : decode cX11_trayOn 1 = .ok (.invokestatic 299, 3) := by decide +kernel
theorem dX11_trayOn_4 : decode cX11_trayOn 4 = .ok (.ifCond .eq 24, 3) := by decide +kernel
theorem dX11_trayOn_7 : decode cX11_trayOn 7 = .ok (.aload_n 0, 1) := by decide +kernel
theorem dX11_trayOn_8 : decode cX11_trayOn 8 = .ok (.getfield 27, 3) := by decide +kernel
theorem dX11_trayOn_11 : decode cX11_trayOn 11 = .ok (.iload_n 1, 1) := by decide +kernel
theorem dX11_trayOn_12 : decode cX11_trayOn 12 = .ok (.aaload, 1) := by decide +kernel
theorem dX11_trayOn_13 : decode cX11_trayOn 13 = .ok (.astore_n 3, 1) := by decide +kernel
theorem dX11_trayOn_14 : decode cX11_trayOn 14 = .ok (.aload_n 3, 1) := by decide +kernel
theorem dX11_trayOn_15 : decode cX11_trayOn 15 = .ok (.instanceof 306, 3) := by decide +kernel
theorem dX11_trayOn_18 : decode cX11_trayOn 18 = .ok (.ifCond .eq 10, 3) := by decide +kernel
theorem dX11_trayOn_21 : decode cX11_trayOn 21 = .ok (.aload_n 3, 1) := by decide +kernel
theorem dX11_trayOn_22 : decode cX11_trayOn 22 = .ok (.checkcast 306, 3) := by decide +kernel
theorem dX11_trayOn_25 : decode cX11_trayOn 25 = .ok (.astore_n 2, 1) := by decide +kernel
theorem dX11_trayOn_26 : decode cX11_trayOn 26 = .ok (.aload_n 2, 1) := by decide +kernel
theorem dX11_trayOn_27 : decode cX11_trayOn 27 = .ok (.areturn, 1) := by decide +kernel
theorem dX11_trayOn_28 : decode cX11_trayOn 28 = .ok (.aconst_null, 1) := by decide +kernel
theorem dX11_trayOn_29 : decode cX11_trayOn 29 = .ok (.areturn, 1) := by decide +kernel
theorem dX11_lackOfTray_0 : decode cX11_lackOfTray 0 = .ok (.iload_n 1, 1) := by decide +kernel
theorem dX11_lackOfTray_1 : decode cX11_lackOfTray 1 = .ok (.invokestatic 299, 3) := by decide +kernel
theorem dX11_lackOfTray_4 : decode cX11_lackOfTray 4 = .ok (.ifCond .ne 5, 3) := by decide +kernel
theorem dX11_lackOfTray_7 : decode cX11_lackOfTray 7 = .ok (.iconst (-1), 1) := by decide +kernel
theorem dX11_lackOfTray_8 : decode cX11_lackOfTray 8 = .ok (.ireturn, 1) := by decide +kernel
theorem dX11_lackOfTray_9 : decode cX11_lackOfTray 9 = .ok (.aload_n 0, 1) := by decide +kernel
theorem dX11_lackOfTray_10 : decode cX11_lackOfTray 10 = .ok (.getfield 27, 3) := by decide +kernel
theorem dX11_lackOfTray_13 : decode cX11_lackOfTray 13 = .ok (.iload_n 1, 1) := by decide +kernel
theorem dX11_lackOfTray_14 : decode cX11_lackOfTray 14 = .ok (.aaload, 1) := by decide +kernel
theorem dX11_lackOfTray_15 : decode cX11_lackOfTray 15 = .ok (.ifnonnull 8, 3) := by decide +kernel
theorem dX11_lackOfTray_18 : decode cX11_lackOfTray 18 = .ok (.bipush (-11), 2) := by decide +kernel
theorem dX11_lackOfTray_20 : decode cX11_lackOfTray 20 = .ok (.goto 5, 3) := by decide +kernel
theorem dX11_lackOfTray_23 : decode cX11_lackOfTray 23 = .ok (.bipush (-13), 2) := by decide +kernel
theorem dX11_lackOfTray_25 : decode cX11_lackOfTray 25 = .ok (.ireturn, 1) := by decide +kernel
theorem dX11_lackForRing_0 : decode cX11_lackForRing 0 = .ok (.aload_n 0, 1) := by decide +kernel
theorem dX11_lackForRing_1 : decode cX11_lackForRing 1 = .ok (.iload_n 2, 1) := by decide +kernel
theorem dX11_lackForRing_2 : decode cX11_lackForRing 2 = .ok (.invokevirtual 188, 3) := by decide +kernel
theorem dX11_lackForRing_5 : decode cX11_lackForRing 5 = .ok (.ifCond .eq 14, 3) := by decide +kernel
theorem dX11_lackForRing_8 : decode cX11_lackForRing 8 = .ok (.iload_n 3, 1) := by decide +kernel
theorem dX11_lackForRing_9 : decode cX11_lackForRing 9 = .ok (.invokestatic 191, 3) := by decide +kernel
theorem dX11_lackForRing_12 : decode cX11_lackForRing 12 = .ok (.ifCond .eq 7, 3) := by decide +kernel
theorem dX11_lackForRing_15 : decode cX11_lackForRing 15 = .ok (.iconst 1, 1) := by decide +kernel
theorem dX11_lackForRing_16 : decode cX11_lackForRing 16 = .ok (.goto 4, 3) := by decide +kernel
theorem dX11_lackForRing_19 : decode cX11_lackForRing 19 = .ok (.iconst 0, 1) := by decide +kernel
theorem dX11_lackForRing_20 : decode cX11_lackForRing 20 = .ok (.istore 4, 2) := by decide +kernel
theorem dX11_lackForRing_22 : decode cX11_lackForRing 22 = .ok (.iload_n 1, 1) := by decide +kernel
theorem dX11_lackForRing_23 : decode cX11_lackForRing 23 = .ok (.invokestatic 299, 3) := by decide +kernel
theorem dX11_lackForRing_26 : decode cX11_lackForRing 26 = .ok (.ifCond .eq 13, 3) := by decide +kernel
theorem dX11_lackForRing_29 : decode cX11_lackForRing 29 = .ok (.iload 4, 2) := by decide +kernel
theorem dX11_lackForRing_31 : decode cX11_lackForRing 31 = .ok (.ifCond .ne 8, 3) := by decide +kernel
theorem dX11_lackForRing_34 : decode cX11_lackForRing 34 = .ok (.bipush (-2), 2) := by decide +kernel
theorem dX11_lackForRing_36 : decode cX11_lackForRing 36 = .ok (.goto 8, 3) := by decide +kernel
theorem dX11_lackForRing_39 : decode cX11_lackForRing 39 = .ok (.aload_n 0, 1) := by decide +kernel
theorem dX11_lackForRing_40 : decode cX11_lackForRing 40 = .ok (.iload_n 1, 1) := by decide +kernel
theorem dX11_lackForRing_41 : decode cX11_lackForRing 41 = .ok (.invokevirtual 332, 3) := by decide +kernel
theorem dX11_lackForRing_44 : decode cX11_lackForRing 44 = .ok (.ireturn, 1) := by decide +kernel
theorem dX12_init_0 : decode cX12_init 0 = .ok (.aload_n 0, 1) := by decide +kernel
theorem dX12_init_1 : decode cX12_init 1 = .ok (.invokespecial 3, 3) := by decide +kernel
theorem dX12_init_4 : decode cX12_init 4 = .ok (.aload_n 0, 1) := by decide +kernel
theorem dX12_init_5 : decode cX12_init 5 = .ok (.bipush 77, 2) := by decide +kernel
theorem dX12_init_7 : decode cX12_init 7 = .ok (.newarray .int, 2) := by decide +kernel
theorem dX12_init_9 : decode cX12_init 9 = .ok (.putfield 9, 3) := by decide +kernel
theorem dX12_init_12 : decode cX12_init 12 = .ok (.aload_n 0, 1) := by decide +kernel
theorem dX12_init_13 : decode cX12_init 13 = .ok (.bipush 77, 2) := by decide +kernel
theorem dX12_init_15 : decode cX12_init 15 = .ok (.newarray .int, 2) := by decide +kernel
theorem dX12_init_17 : decode cX12_init 17 = .ok (.putfield 15, 3) := by decide +kernel
theorem dX12_init_20 : decode cX12_init 20 = .ok (.aload_n 0, 1) := by decide +kernel
theorem dX12_init_21 : decode cX12_init 21 = .ok (.bipush 77, 2) := by decide +kernel
theorem dX12_init_23 : decode cX12_init 23 = .ok (.newarray .int, 2) := by decide +kernel
theorem dX12_init_25 : decode cX12_init 25 = .ok (.putfield 18, 3) := by decide +kernel
theorem dX12_init_28 : decode cX12_init 28 = .ok (.aload_n 0, 1) := by decide +kernel
theorem dX12_init_29 : decode cX12_init 29 = .ok (.bipush 80, 2) := by decide +kernel
theorem dX12_init_31 : decode cX12_init 31 = .ok (.newarray .int, 2) := by decide +kernel
theorem dX12_init_33 : decode cX12_init 33 = .ok (.putfield 21, 3) := by decide +kernel
theorem dX12_init_36 : decode cX12_init 36 = .ok (.aload_n 0, 1) := by decide +kernel
theorem dX12_init_37 : decode cX12_init 37 = .ok (.sipush 200, 3) := by decide +kernel
theorem dX12_init_40 : decode cX12_init 40 = .ok (.newarray .int, 2) := by decide +kernel
theorem dX12_init_42 : decode cX12_init 42 = .ok (.putfield 24, 3) := by decide +kernel
theorem dX12_init_45 : decode cX12_init 45 = .ok (.aload_n 0, 1) := by decide +kernel
theorem dX12_init_46 : decode cX12_init 46 = .ok (.bipush 9, 2) := by decide +kernel
theorem dX12_init_48 : decode cX12_init 48 = .ok (.newarray .int, 2) := by decide +kernel
theorem dX12_init_50 : decode cX12_init 50 = .ok (.putfield 27, 3) := by decide +kernel
theorem dX12_init_53 : decode cX12_init 53 = .ok (.aload_n 0, 1) := by decide +kernel
theorem dX12_init_54 : decode cX12_init 54 = .ok (.bipush 9, 2) := by decide +kernel
theorem dX12_init_56 : decode cX12_init 56 = .ok (.newarray .int, 2) := by decide +kernel
theorem dX12_init_58 : decode cX12_init 58 = .ok (.putfield 30, 3) := by decide +kernel
theorem dX12_init_61 : decode cX12_init 61 = .ok (.aload_n 0, 1) := by decide +kernel
theorem dX12_init_62 : decode cX12_init 62 = .ok (.bipush 7, 2) := by decide +kernel
theorem dX12_init_64 : decode cX12_init 64 = .ok (.newarray .int, 2) := by decide +kernel
theorem dX12_init_66 : decode cX12_init 66 = .ok (.putfield 33, 3) := by decide +kernel
theorem dX12_init_69 : decode cX12_init 69 = .ok (.aload_n 0, 1) := by decide +kernel
theorem dX12_init_70 : decode cX12_init 70 = .ok (.bipush 7, 2) := by decide +kernel
theorem dX12_init_72 : decode cX12_init 72 = .ok (.newarray .int, 2) := by decide +kernel
theorem dX12_init_74 : decode cX12_init 74 = .ok (.putfield 36, 3) := by decide +kernel
theorem dX12_init_77 : decode cX12_init 77 = .ok (.aload_n 0, 1) := by decide +kernel
theorem dX12_init_78 : decode cX12_init 78 = .ok (.bipush 6, 2) := by decide +kernel
theorem dX12_init_80 : decode cX12_init 80 = .ok (.newarray .int, 2) := by decide +kernel
theorem dX12_init_82 : decode cX12_init 82 = .ok (.putfield 39, 3) := by decide +kernel
theorem dX12_init_85 : decode cX12_init 85 = .ok (.aload_n 0, 1) := by decide +kernel
theorem dX12_init_86 : decode cX12_init 86 = .ok (.bipush 6, 2) := by decide +kernel
theorem dX12_init_88 : decode cX12_init 88 = .ok (.newarray .int, 2) := by decide +kernel
theorem dX12_init_90 : decode cX12_init 90 = .ok (.putfield 42, 3) := by decide +kernel
theorem dX12_init_93 : decode cX12_init 93 = .ok (.aload_n 0, 1) := by decide +kernel
theorem dX12_init_94 : decode cX12_init 94 = .ok (.bipush 6, 2) := by decide +kernel
theorem dX12_init_96 : decode cX12_init 96 = .ok (.newarray .int, 2) := by decide +kernel
theorem dX12_init_98 : decode cX12_init 98 = .ok (.putfield 45, 3) := by decide +kernel
theorem dX12_init_101 : decode cX12_init 101 = .ok (.aload_n 0, 1) := by decide +kernel
theorem dX12_init_102 : decode cX12_init 102 = .ok (.bipush 6, 2) := by decide +kernel
theorem dX12_init_104 : decode cX12_init 104 = .ok (.newarray .int, 2) := by decide +kernel
theorem dX12_init_106 : decode cX12_init 106 = .ok (.putfield 48, 3) := by decide +kernel
theorem dX12_init_109 : decode cX12_init 109 = .ok (.aload_n 0, 1) := by decide +kernel
theorem dX12_init_110 : decode cX12_init 110 = .ok (.sipush 180, 3) := by decide +kernel
theorem dX12_init_113 : decode cX12_init 113 = .ok (.newarray .long, 2) := by decide +kernel
theorem dX12_init_115 : decode cX12_init 115 = .ok (.putfield 51, 3) := by decide +kernel
theorem dX12_init_118 : decode cX12_init 118 = .ok (.aload_n 0, 1) := by decide +kernel
theorem dX12_init_119 : decode cX12_init 119 = .ok (.bipush 30, 2) := by decide +kernel
theorem dX12_init_121 : decode cX12_init 121 = .ok (.newarray .long, 2) := by decide +kernel
theorem dX12_init_123 : decode cX12_init 123 = .ok (.putfield 55, 3) := by decide +kernel
theorem dX12_init_126 : decode cX12_init 126 = .ok (.aload_n 0, 1) := by decide +kernel
theorem dX12_init_127 : decode cX12_init 127 = .ok (.getfield 9, 3) := by decide +kernel
theorem dX12_init_130 : decode cX12_init 130 = .ok (.iconst 0, 1) := by decide +kernel
theorem dX12_init_131 : decode cX12_init 131 = .ok (.bipush 100, 2) := by decide +kernel
theorem dX12_init_133 : decode cX12_init 133 = .ok (.iastore, 1) := by decide +kernel
theorem dX12_init_134 : decode cX12_init 134 = .ok (.aload_n 0, 1) := by decide +kernel
theorem dX12_init_135 : decode cX12_init 135 = .ok (.getfield 9, 3) := by decide +kernel
theorem dX12_init_138 : decode cX12_init 138 = .ok (.iconst 1, 1) := by decide +kernel
theorem dX12_init_139 : decode cX12_init 139 = .ok (.iconst 4, 1) := by decide +kernel
theorem dX12_init_140 : decode cX12_init 140 = .ok (.iastore, 1) := by decide +kernel
theorem dX12_init_141 : decode cX12_init 141 = .ok (.aload_n 0, 1) := by decide +kernel
theorem dX12_init_142 : decode cX12_init 142 = .ok (.getfield 9, 3) := by decide +kernel
theorem dX12_init_145 : decode cX12_init 145 = .ok (.iconst 2, 1) := by decide +kernel
theorem dX12_init_146 : decode cX12_init 146 = .ok (.iconst 3, 1) := by decide +kernel
theorem dX12_init_147 : decode cX12_init 147 = .ok (.iastore, 1) := by decide +kernel
theorem dX12_init_148 : decode cX12_init 148 = .ok (.aload_n 0, 1) := by decide +kernel
theorem dX12_init_149 : decode cX12_init 149 = .ok (.getfield 9, 3) := by decide +kernel
theorem dX12_init_152 : decode cX12_init 152 = .ok (.iconst 3, 1) := by decide +kernel
theorem dX12_init_153 : decode cX12_init 153 = .ok (.iconst 2, 1) := by decide +kernel
theorem dX12_init_154 : decode cX12_init 154 = .ok (.iastore, 1) := by decide +kernel
theorem dX12_init_155 : decode cX12_init 155 = .ok (.return_, 1) := by decide +kernel
theorem dX12_within_0 : decode cX12_within 0 = .ok (.iload_n 0, 1) := by decide +kernel
theorem dX12_within_1 : decode cX12_within 1 = .ok (.iload_n 1, 1) := by decide +kernel
theorem dX12_within_2 : decode cX12_within 2 = .ok (.if_icmp .lt 12, 3) := by decide +kernel
theorem dX12_within_5 : decode cX12_within 5 = .ok (.iload_n 0, 1) := by decide +kernel
theorem dX12_within_6 : decode cX12_within 6 = .ok (.iload_n 2, 1) := by decide +kernel
theorem dX12_within_7 : decode cX12_within 7 = .ok (.if_icmp .gt 7, 3) := by decide +kernel
theorem dX12_within_10 : decode cX12_within 10 = .ok (.iconst 1, 1) := by decide +kernel
theorem dX12_within_11 : decode cX12_within 11 = .ok (.goto 4, 3) := by decide +kernel
theorem dX12_within_14 : decode cX12_within 14 = .ok (.iconst 0, 1) := by decide +kernel
theorem dX12_within_15 : decode cX12_within 15 = .ok (.ireturn, 1) := by decide +kernel
theorem dX12_pours_0 : decode cX12_pours 0 = .ok (.iconst 0, 1) := by decide +kernel
theorem dX12_pours_1 : decode cX12_pours 1 = .ok (.istore_n 2, 1) := by decide +kernel
theorem dX12_pours_2 : decode cX12_pours 2 = .ok (.iload_n 2, 1) := by decide +kernel
theorem dX12_pours_3 : decode cX12_pours 3 = .ok (.bipush 77, 2) := by decide +kernel
theorem dX12_pours_5 : decode cX12_pours 5 = .ok (.if_icmp .ge 15, 3) := by decide +kernel
theorem dX12_pours_8 : decode cX12_pours 8 = .ok (.aload_n 1, 1) := by decide +kernel
theorem dX12_pours_9 : decode cX12_pours 9 = .ok (.iload_n 2, 1) := by decide +kernel
theorem dX12_pours_10 : decode cX12_pours 10 = .ok (.aload_n 0, 1) := by decide +kernel
theorem dX12_pours_11 : decode cX12_pours 11 = .ok (.iload_n 2, 1) := by decide +kernel
theorem dX12_pours_12 : decode cX12_pours 12 = .ok (.iaload, 1) := by decide +kernel
theorem dX12_pours_13 : decode cX12_pours 13 = .ok (.iastore, 1) := by decide +kernel
theorem dX12_pours_14 : decode cX12_pours 14 = .ok (.iinc 2 1, 3) := by decide +kernel
theorem dX12_pours_17 : decode cX12_pours 17 = .ok (.goto (-15), 3) := by decide +kernel
theorem dX12_pours_20 : decode cX12_pours 20 = .ok (.return_, 1) := by decide +kernel
theorem dX12_isStave_0 : decode cX12_isStave 0 = .ok (.iload_n 0, 1) := by decide +kernel
theorem dX12_isStave_1 : decode cX12_isStave 1 = .ok (.iconst 0, 1) := by decide +kernel
theorem dX12_isStave_2 : decode cX12_isStave 2 = .ok (.iconst 4, 1) := by decide +kernel
theorem dX12_isStave_3 : decode cX12_isStave 3 = .ok (.invokestatic 58, 3) := by decide +kernel
theorem dX12_isStave_6 : decode cX12_isStave 6 = .ok (.ifCond .eq 38, 3) := by decide +kernel
theorem dX12_isStave_9 : decode cX12_isStave 9 = .ok (.iload_n 1, 1) := by decide +kernel
theorem dX12_isStave_10 : decode cX12_isStave 10 = .ok (.iconst 1, 1) := by decide +kernel
theorem dX12_isStave_11 : decode cX12_isStave 11 = .ok (.bipush 99, 2) := by decide +kernel
theorem dX12_isStave_13 : decode cX12_isStave 13 = .ok (.invokestatic 58, 3) := by decide +kernel
theorem dX12_isStave_16 : decode cX12_isStave 16 = .ok (.ifCond .eq 28, 3) := by decide +kernel
theorem dX12_isStave_19 : decode cX12_isStave 19 = .ok (.iload_n 2, 1) := by decide +kernel
theorem dX12_isStave_20 : decode cX12_isStave 20 = .ok (.iconst 1, 1) := by decide +kernel
theorem dX12_isStave_21 : decode cX12_isStave 21 = .ok (.bipush 9, 2) := by decide +kernel
theorem dX12_isStave_23 : decode cX12_isStave 23 = .ok (.invokestatic 58, 3) := by decide +kernel
theorem dX12_isStave_26 : decode cX12_isStave 26 = .ok (.ifCond .eq 18, 3) := by decide +kernel
theorem dX12_isStave_29 : decode cX12_isStave 29 = .ok (.iload_n 3, 1) := by decide +kernel
theorem dX12_isStave_30 : decode cX12_isStave 30 = .ok (.bipush (-9), 2) := by decide +kernel
theorem dX12_isStave_32 : decode cX12_isStave 32 = .ok (.bipush 9, 2) := by decide +kernel
theorem dX12_isStave_34 : decode cX12_isStave 34 = .ok (.invokestatic 58, 3) := by decide +kernel
theorem dX12_isStave_37 : decode cX12_isStave 37 = .ok (.ifCond .eq 7, 3) := by decide +kernel
theorem dX12_isStave_40 : decode cX12_isStave 40 = .ok (.iconst 1, 1) := by decide +kernel
theorem dX12_isStave_41 : decode cX12_isStave 41 = .ok (.goto 4, 3) := by decide +kernel
theorem dX12_isStave_44 : decode cX12_isStave 44 = .ok (.iconst 0, 1) := by decide +kernel
theorem dX12_isStave_45 : decode cX12_isStave 45 = .ok (.ireturn, 1) := by decide +kernel
theorem dX12_isHoop_0 : decode cX12_isHoop 0 = .ok (.iload_n 0, 1) := by decide +kernel
theorem dX12_isHoop_1 : decode cX12_isHoop 1 = .ok (.iconst 0, 1) := by decide +kernel
theorem dX12_isHoop_2 : decode cX12_isHoop 2 = .ok (.iconst 3, 1) := by decide +kernel
theorem dX12_isHoop_3 : decode cX12_isHoop 3 = .ok (.invokestatic 58, 3) := by decide +kernel
theorem dX12_isHoop_6 : decode cX12_isHoop 6 = .ok (.ifCond .eq 27, 3) := by decide +kernel
theorem dX12_isHoop_9 : decode cX12_isHoop 9 = .ok (.iload_n 1, 1) := by decide +kernel
theorem dX12_isHoop_10 : decode cX12_isHoop 10 = .ok (.iconst 1, 1) := by decide +kernel
theorem dX12_isHoop_11 : decode cX12_isHoop 11 = .ok (.sipush 600, 3) := by decide +kernel
theorem dX12_isHoop_14 : decode cX12_isHoop 14 = .ok (.invokestatic 58, 3) := by decide +kernel
theorem dX12_isHoop_17 : decode cX12_isHoop 17 = .ok (.ifCond .eq 16, 3) := by decide +kernel
theorem dX12_isHoop_20 : decode cX12_isHoop 20 = .ok (.iload_n 2, 1) := by decide +kernel
theorem dX12_isHoop_21 : decode cX12_isHoop 21 = .ok (.iconst 0, 1) := by decide +kernel
theorem dX12_isHoop_22 : decode cX12_isHoop 22 = .ok (.iconst 1, 1) := by decide +kernel
theorem dX12_isHoop_23 : decode cX12_isHoop 23 = .ok (.invokestatic 58, 3) := by decide +kernel
theorem dX12_isHoop_26 : decode cX12_isHoop 26 = .ok (.ifCond .eq 7, 3) := by decide +kernel
theorem dX12_isHoop_29 : decode cX12_isHoop 29 = .ok (.iconst 1, 1) := by decide +kernel
theorem dX12_isHoop_30 : decode cX12_isHoop 30 = .ok (.goto 4, 3) := by decide +kernel
theorem dX12_isHoop_33 : decode cX12_isHoop 33 = .ok (.iconst 0, 1) := by decide +kernel
theorem dX12_isHoop_34 : decode cX12_isHoop 34 = .ok (.ireturn, 1) := by decide +kernel
theorem dX12_stave_0 : decode cX12_stave 0 = .ok (.iload_n 1, 1) := by decide +kernel
theorem dX12_stave_1 : decode cX12_stave 1 = .ok (.iload_n 2, 1) := by decide +kernel
theorem dX12_stave_2 : decode cX12_stave 2 = .ok (.iload_n 3, 1) := by decide +kernel
theorem dX12_stave_3 : decode cX12_stave 3 = .ok (.iload 4, 2) := by decide +kernel
theorem dX12_stave_5 : decode cX12_stave 5 = .ok (.invokestatic 62, 3) := by decide +kernel
theorem dX12_stave_8 : decode cX12_stave 8 = .ok (.ifCond .ne 6, 3) := by decide +kernel
theorem dX12_stave_11 : decode cX12_stave 11 = .ok (.bipush (-2), 2) := by decide +kernel
theorem dX12_stave_13 : decode cX12_stave 13 = .ok (.ireturn, 1) := by decide +kernel
theorem dX12_stave_14 : decode cX12_stave 14 = .ok (.aload_n 0, 1) := by decide +kernel
theorem dX12_stave_15 : decode cX12_stave 15 = .ok (.getfield 9, 3) := by decide +kernel
theorem dX12_stave_18 : decode cX12_stave 18 = .ok (.iconst 4, 1) := by decide +kernel
theorem dX12_stave_19 : decode cX12_stave 19 = .ok (.iaload, 1) := by decide +kernel
theorem dX12_stave_20 : decode cX12_stave 20 = .ok (.bipush 9, 2) := by decide +kernel
theorem dX12_stave_22 : decode cX12_stave 22 = .ok (.if_icmp .ne 6, 3) := by decide +kernel
theorem dX12_stave_25 : decode cX12_stave 25 = .ok (.bipush (-4), 2) := by decide +kernel
theorem dX12_stave_27 : decode cX12_stave 27 = .ok (.ireturn, 1) := by decide +kernel
theorem dX12_stave_28 : decode cX12_stave 28 = .ok (.aload_n 0, 1) := by decide +kernel
theorem dX12_stave_29 : decode cX12_stave 29 = .ok (.getfield 9, 3) := by decide +kernel
theorem dX12_stave_32 : decode cX12_stave 32 = .ok (.iconst 4, 1) := by decide +kernel
theorem dX12_stave_33 : decode cX12_stave 33 = .ok (.dup2, 1) := by decide +kernel
theorem dX12_stave_34 : decode cX12_stave 34 = .ok (.iaload, 1) := by decide +kernel
theorem dX12_stave_35 : decode cX12_stave 35 = .ok (.dup_x2, 1) := by decide +kernel
theorem dX12_stave_36 : decode cX12_stave 36 = .ok (.iconst 1, 1) := by decide +kernel
theorem dX12_stave_37 : decode cX12_stave 37 = .ok (.iadd, 1) := by decide +kernel
theorem dX12_stave_38 : decode cX12_stave 38 = .ok (.iastore, 1) := by decide +kernel
theorem dX12_stave_39 : decode cX12_stave 39 = .ok (.istore 5, 2) := by decide +kernel
theorem dX12_stave_41 : decode cX12_stave 41 = .ok (.aload_n 0, 1) := by decide +kernel
theorem dX12_stave_42 : decode cX12_stave 42 = .ok (.getfield 9, 3) := by decide +kernel
theorem dX12_stave_45 : decode cX12_stave 45 = .ok (.bipush 7, 2) := by decide +kernel
theorem dX12_stave_47 : decode cX12_stave 47 = .ok (.iload 5, 2) := by decide +kernel
theorem dX12_stave_49 : decode cX12_stave 49 = .ok (.iadd, 1) := by decide +kernel
theorem dX12_stave_50 : decode cX12_stave 50 = .ok (.iload_n 1, 1) := by decide +kernel
theorem dX12_stave_51 : decode cX12_stave 51 = .ok (.iastore, 1) := by decide +kernel
theorem dX12_stave_52 : decode cX12_stave 52 = .ok (.aload_n 0, 1) := by decide +kernel
theorem dX12_stave_53 : decode cX12_stave 53 = .ok (.getfield 9, 3) := by decide +kernel
theorem dX12_stave_56 : decode cX12_stave 56 = .ok (.bipush 16, 2) := by decide +kernel
theorem dX12_stave_58 : decode cX12_stave 58 = .ok (.iload 5, 2) := by decide +kernel
theorem dX12_stave_60 : decode cX12_stave 60 = .ok (.iadd, 1) := by decide +kernel
theorem dX12_stave_61 : decode cX12_stave 61 = .ok (.iload_n 2, 1) := by decide +kernel
theorem dX12_stave_62 : decode cX12_stave 62 = .ok (.iastore, 1) := by decide +kernel
theorem dX12_stave_63 : decode cX12_stave 63 = .ok (.aload_n 0, 1) := by decide +kernel
theorem dX12_stave_64 : decode cX12_stave 64 = .ok (.getfield 9, 3) := by decide +kernel
theorem dX12_stave_67 : decode cX12_stave 67 = .ok (.bipush 25, 2) := by decide +kernel
theorem dX12_stave_69 : decode cX12_stave 69 = .ok (.iload 5, 2) := by decide +kernel
theorem dX12_stave_71 : decode cX12_stave 71 = .ok (.iadd, 1) := by decide +kernel
theorem dX12_stave_72 : decode cX12_stave 72 = .ok (.iload_n 3, 1) := by decide +kernel
theorem dX12_stave_73 : decode cX12_stave 73 = .ok (.iastore, 1) := by decide +kernel
theorem dX12_stave_74 : decode cX12_stave 74 = .ok (.aload_n 0, 1) := by decide +kernel
theorem dX12_stave_75 : decode cX12_stave 75 = .ok (.getfield 9, 3) := by decide +kernel
theorem dX12_stave_78 : decode cX12_stave 78 = .ok (.bipush 34, 2) := by decide +kernel
theorem dX12_stave_80 : decode cX12_stave 80 = .ok (.iload 5, 2) := by decide +kernel
theorem dX12_stave_82 : decode cX12_stave 82 = .ok (.iadd, 1) := by decide +kernel
theorem dX12_stave_83 : decode cX12_stave 83 = .ok (.iload 4, 2) := by decide +kernel
theorem dX12_stave_85 : decode cX12_stave 85 = .ok (.iastore, 1) := by decide +kernel
theorem dX12_stave_86 : decode cX12_stave 86 = .ok (.aload_n 0, 1) := by decide +kernel
theorem dX12_stave_87 : decode cX12_stave 87 = .ok (.getfield 9, 3) := by decide +kernel
theorem dX12_stave_90 : decode cX12_stave 90 = .ok (.bipush 43, 2) := by decide +kernel
theorem dX12_stave_92 : decode cX12_stave 92 = .ok (.iload 5, 2) := by decide +kernel
theorem dX12_stave_94 : decode cX12_stave 94 = .ok (.iadd, 1) := by decide +kernel
theorem dX12_stave_95 : decode cX12_stave 95 = .ok (.aload_n 0, 1) := by decide +kernel
theorem dX12_stave_96 : decode cX12_stave 96 = .ok (.dup, 1) := by decide +kernel
theorem dX12_stave_97 : decode cX12_stave 97 = .ok (.getfield 66, 3) := by decide +kernel
theorem dX12_stave_100 : decode cX12_stave 100 = .ok (.iconst 1, 1) := by decide +kernel
theorem dX12_stave_101 : decode cX12_stave 101 = .ok (.iadd, 1) := by decide +kernel
theorem dX12_stave_102 : decode cX12_stave 102 = .ok (.dup_x1, 1) := by decide +kernel
theorem dX12_stave_103 : decode cX12_stave 103 = .ok (.putfield 66, 3) := by decide +kernel
theorem dX12_stave_106 : decode cX12_stave 106 = .ok (.iastore, 1) := by decide +kernel
theorem dX12_stave_107 : decode cX12_stave 107 = .ok (.iload 5, 2) := by decide +kernel
theorem dX12_stave_109 : decode cX12_stave 109 = .ok (.ireturn, 1) := by decide +kernel
theorem dX12_hoop_0 : decode cX12_hoop 0 = .ok (.iload_n 1, 1) := by decide +kernel
theorem dX12_hoop_1 : decode cX12_hoop 1 = .ok (.iload_n 2, 1) := by decide +kernel
theorem dX12_hoop_2 : decode cX12_hoop 2 = .ok (.iload_n 3, 1) := by decide +kernel
theorem dX12_hoop_3 : decode cX12_hoop 3 = .ok (.invokestatic 70, 3) := by decide +kernel
theorem dX12_hoop_6 : decode cX12_hoop 6 = .ok (.ifCond .ne 6, 3) := by decide +kernel
theorem dX12_hoop_9 : decode cX12_hoop 9 = .ok (.bipush (-2), 2) := by decide +kernel
theorem dX12_hoop_11 : decode cX12_hoop 11 = .ok (.ireturn, 1) := by decide +kernel
theorem dX12_hoop_12 : decode cX12_hoop 12 = .ok (.aload_n 0, 1) := by decide +kernel
theorem dX12_hoop_13 : decode cX12_hoop 13 = .ok (.getfield 9, 3) := by decide +kernel
theorem dX12_hoop_16 : decode cX12_hoop 16 = .ok (.iconst 5, 1) := by decide +kernel
theorem dX12_hoop_17 : decode cX12_hoop 17 = .ok (.iaload, 1) := by decide +kernel
theorem dX12_hoop_18 : decode cX12_hoop 18 = .ok (.bipush 6, 2) := by decide +kernel
theorem dX12_hoop_20 : decode cX12_hoop 20 = .ok (.if_icmp .ne 6, 3) := by decide +kernel
theorem dX12_hoop_23 : decode cX12_hoop 23 = .ok (.bipush (-4), 2) := by decide +kernel
theorem dX12_hoop_25 : decode cX12_hoop 25 = .ok (.ireturn, 1) := by decide +kernel
theorem dX12_hoop_26 : decode cX12_hoop 26 = .ok (.aload_n 0, 1) := by decide +kernel
theorem dX12_hoop_27 : decode cX12_hoop 27 = .ok (.getfield 9, 3) := by decide +kernel
theorem dX12_hoop_30 : decode cX12_hoop 30 = .ok (.iconst 5, 1) := by decide +kernel
theorem dX12_hoop_31 : decode cX12_hoop 31 = .ok (.dup2, 1) := by decide +kernel
theorem dX12_hoop_32 : decode cX12_hoop 32 = .ok (.iaload, 1) := by decide +kernel
theorem dX12_hoop_33 : decode cX12_hoop 33 = .ok (.dup_x2, 1) := by decide +kernel
theorem dX12_hoop_34 : decode cX12_hoop 34 = .ok (.iconst 1, 1) := by decide +kernel
theorem dX12_hoop_35 : decode cX12_hoop 35 = .ok (.iadd, 1) := by decide +kernel
theorem dX12_hoop_36 : decode cX12_hoop 36 = .ok (.iastore, 1) := by decide +kernel
theorem dX12_hoop_37 : decode cX12_hoop 37 = .ok (.istore 4, 2) := by decide +kernel
theorem dX12_hoop_39 : decode cX12_hoop 39 = .ok (.aload_n 0, 1) := by decide +kernel
theorem dX12_hoop_40 : decode cX12_hoop 40 = .ok (.getfield 9, 3) := by decide +kernel
theorem dX12_hoop_43 : decode cX12_hoop 43 = .ok (.bipush 52, 2) := by decide +kernel
theorem dX12_hoop_45 : decode cX12_hoop 45 = .ok (.iload 4, 2) := by decide +kernel
theorem dX12_hoop_47 : decode cX12_hoop 47 = .ok (.iadd, 1) := by decide +kernel
theorem dX12_hoop_48 : decode cX12_hoop 48 = .ok (.iload_n 1, 1) := by decide +kernel
theorem dX12_hoop_49 : decode cX12_hoop 49 = .ok (.iastore, 1) := by decide +kernel
theorem dX12_hoop_50 : decode cX12_hoop 50 = .ok (.aload_n 0, 1) := by decide +kernel
theorem dX12_hoop_51 : decode cX12_hoop 51 = .ok (.getfield 9, 3) := by decide +kernel
theorem dX12_hoop_54 : decode cX12_hoop 54 = .ok (.bipush 58, 2) := by decide +kernel
theorem dX12_hoop_56 : decode cX12_hoop 56 = .ok (.iload 4, 2) := by decide +kernel
theorem dX12_hoop_58 : decode cX12_hoop 58 = .ok (.iadd, 1) := by decide +kernel
theorem dX12_hoop_59 : decode cX12_hoop 59 = .ok (.iload_n 2, 1) := by decide +kernel
theorem dX12_hoop_60 : decode cX12_hoop 60 = .ok (.iastore, 1) := by decide +kernel
theorem dX12_hoop_61 : decode cX12_hoop 61 = .ok (.aload_n 0, 1) := by decide +kernel
theorem dX12_hoop_62 : decode cX12_hoop 62 = .ok (.getfield 9, 3) := by decide +kernel
theorem dX12_hoop_65 : decode cX12_hoop 65 = .ok (.bipush 64, 2) := by decide +kernel
theorem dX12_hoop_67 : decode cX12_hoop 67 = .ok (.iload 4, 2) := by decide +kernel
theorem dX12_hoop_69 : decode cX12_hoop 69 = .ok (.iadd, 1) := by decide +kernel
theorem dX12_hoop_70 : decode cX12_hoop 70 = .ok (.iload_n 3, 1) := by decide +kernel
theorem dX12_hoop_71 : decode cX12_hoop 71 = .ok (.iastore, 1) := by decide +kernel
theorem dX12_hoop_72 : decode cX12_hoop 72 = .ok (.iload 4, 2) := by decide +kernel
theorem dX12_hoop_74 : decode cX12_hoop 74 = .ok (.ireturn, 1) := by decide +kernel
theorem dX12_board_0 : decode cX12_board 0 = .ok (.iload_n 1, 1) := by decide +kernel
theorem dX12_board_1 : decode cX12_board 1 = .ok (.iconst 1, 1) := by decide +kernel
theorem dX12_board_2 : decode cX12_board 2 = .ok (.bipush 99, 2) := by decide +kernel
theorem dX12_board_4 : decode cX12_board 4 = .ok (.invokestatic 58, 3) := by decide +kernel
theorem dX12_board_7 : decode cX12_board 7 = .ok (.ifCond .ne 6, 3) := by decide +kernel
theorem dX12_board_10 : decode cX12_board 10 = .ok (.bipush (-2), 2) := by decide +kernel
theorem dX12_board_12 : decode cX12_board 12 = .ok (.ireturn, 1) := by decide +kernel
theorem dX12_board_13 : decode cX12_board 13 = .ok (.aload_n 0, 1) := by decide +kernel
theorem dX12_board_14 : decode cX12_board 14 = .ok (.getfield 9, 3) := by decide +kernel
theorem dX12_board_17 : decode cX12_board 17 = .ok (.bipush 6, 2) := by decide +kernel
theorem dX12_board_19 : decode cX12_board 19 = .ok (.iaload, 1) := by decide +kernel
theorem dX12_board_20 : decode cX12_board 20 = .ok (.bipush 7, 2) := by decide +kernel
theorem dX12_board_22 : decode cX12_board 22 = .ok (.if_icmp .ne 6, 3) := by decide +kernel
theorem dX12_board_25 : decode cX12_board 25 = .ok (.bipush (-4), 2) := by decide +kernel
theorem dX12_board_27 : decode cX12_board 27 = .ok (.ireturn, 1) := by decide +kernel
theorem dX12_board_28 : decode cX12_board 28 = .ok (.aload_n 0, 1) := by decide +kernel
theorem dX12_board_29 : decode cX12_board 29 = .ok (.getfield 9, 3) := by decide +kernel
theorem dX12_board_32 : decode cX12_board 32 = .ok (.bipush 70, 2) := by decide +kernel
theorem dX12_board_34 : decode cX12_board 34 = .ok (.aload_n 0, 1) := by decide +kernel
theorem dX12_board_35 : decode cX12_board 35 = .ok (.getfield 9, 3) := by decide +kernel
theorem dX12_board_38 : decode cX12_board 38 = .ok (.bipush 6, 2) := by decide +kernel
theorem dX12_board_40 : decode cX12_board 40 = .ok (.iaload, 1) := by decide +kernel
theorem dX12_board_41 : decode cX12_board 41 = .ok (.iadd, 1) := by decide +kernel
theorem dX12_board_42 : decode cX12_board 42 = .ok (.iload_n 1, 1) := by decide +kernel
theorem dX12_board_43 : decode cX12_board 43 = .ok (.iastore, 1) := by decide +kernel
theorem dX12_board_44 : decode cX12_board 44 = .ok (.aload_n 0, 1) := by decide +kernel
theorem dX12_board_45 : decode cX12_board 45 = .ok (.getfield 9, 3) := by decide +kernel
theorem dX12_board_48 : decode cX12_board 48 = .ok (.bipush 6, 2) := by decide +kernel
theorem dX12_board_50 : decode cX12_board 50 = .ok (.dup2, 1) := by decide +kernel
theorem dX12_board_51 : decode cX12_board 51 = .ok (.iaload, 1) := by decide +kernel
theorem dX12_board_52 : decode cX12_board 52 = .ok (.dup_x2, 1) := by decide +kernel
theorem dX12_board_53 : decode cX12_board 53 = .ok (.iconst 1, 1) := by decide +kernel
theorem dX12_board_54 : decode cX12_board 54 = .ok (.iadd, 1) := by decide +kernel
theorem dX12_board_55 : decode cX12_board 55 = .ok (.iastore, 1) := by decide +kernel
theorem dX12_board_56 : decode cX12_board 56 = .ok (.ireturn, 1) := by decide +kernel
theorem dX12_isRule_0 : decode cX12_isRule 0 = .ok (.iload_n 0, 1) := by decide +kernel
theorem dX12_isRule_1 : decode cX12_isRule 1 = .ok (.ifCond .ne 15, 3) := by decide +kernel
theorem dX12_isRule_4 : decode cX12_isRule 4 = .ok (.iload_n 1, 1) := by decide +kernel
theorem dX12_isRule_5 : decode cX12_isRule 5 = .ok (.bipush 10, 2) := by decide +kernel
theorem dX12_isRule_7 : decode cX12_isRule 7 = .ok (.sipush 500, 3) := by decide +kernel
theorem dX12_isRule_10 : decode cX12_isRule 10 = .ok (.invokestatic 58, 3) := by decide +kernel
theorem dX12_isRule_13 : decode cX12_isRule 13 = .ok (.goto 41, 3) := by decide +kernel
theorem dX12_isRule_16 : decode cX12_isRule 16 = .ok (.iload_n 0, 1) := by decide +kernel
theorem dX12_isRule_17 : decode cX12_isRule 17 = .ok (.iconst 1, 1) := by decide +kernel
theorem dX12_isRule_18 : decode cX12_isRule 18 = .ok (.if_icmp .ne 13, 3) := by decide +kernel
theorem dX12_isRule_21 : decode cX12_isRule 21 = .ok (.iload_n 1, 1) := by decide +kernel
theorem dX12_isRule_22 : decode cX12_isRule 22 = .ok (.iconst 0, 1) := by decide +kernel
theorem dX12_isRule_23 : decode cX12_isRule 23 = .ok (.bipush 50, 2) := by decide +kernel
theorem dX12_isRule_25 : decode cX12_isRule 25 = .ok (.invokestatic 58, 3) := by decide +kernel
theorem dX12_isRule_28 : decode cX12_isRule 28 = .ok (.goto 26, 3) := by decide +kernel
theorem dX12_isRule_31 : decode cX12_isRule 31 = .ok (.iload_n 0, 1) := by decide +kernel
theorem dX12_isRule_32 : decode cX12_isRule 32 = .ok (.iconst 2, 1) := by decide +kernel
theorem dX12_isRule_33 : decode cX12_isRule 33 = .ok (.if_icmp .ne 13, 3) := by decide +kernel
theorem dX12_isRule_36 : decode cX12_isRule 36 = .ok (.iload_n 1, 1) := by decide +kernel
theorem dX12_isRule_37 : decode cX12_isRule 37 = .ok (.iconst 0, 1) := by decide +kernel
theorem dX12_isRule_38 : decode cX12_isRule 38 = .ok (.bipush 20, 2) := by decide +kernel
theorem dX12_isRule_40 : decode cX12_isRule 40 = .ok (.invokestatic 58, 3) := by decide +kernel
theorem dX12_isRule_43 : decode cX12_isRule 43 = .ok (.goto 11, 3) := by decide +kernel
theorem dX12_isRule_46 : decode cX12_isRule 46 = .ok (.iload_n 1, 1) := by decide +kernel
theorem dX12_isRule_47 : decode cX12_isRule 47 = .ok (.bipush (-20), 2) := by decide +kernel
theorem dX12_isRule_49 : decode cX12_isRule 49 = .ok (.bipush 20, 2) := by decide +kernel
theorem dX12_isRule_51 : decode cX12_isRule 51 = .ok (.invokestatic 58, 3) := by decide +kernel
theorem dX12_isRule_54 : decode cX12_isRule 54 = .ok (.ireturn, 1) := by decide +kernel
theorem dX12_rule_0 : decode cX12_rule 0 = .ok (.iload_n 1, 1) := by decide +kernel
theorem dX12_rule_1 : decode cX12_rule 1 = .ok (.iconst 0, 1) := by decide +kernel
theorem dX12_rule_2 : decode cX12_rule 2 = .ok (.iconst 3, 1) := by decide +kernel
theorem dX12_rule_3 : decode cX12_rule 3 = .ok (.invokestatic 58, 3) := by decide +kernel
theorem dX12_rule_6 : decode cX12_rule 6 = .ok (.ifCond .ne 5, 3) := by decide +kernel
theorem dX12_rule_9 : decode cX12_rule 9 = .ok (.iconst (-1), 1) := by decide +kernel
theorem dX12_rule_10 : decode cX12_rule 10 = .ok (.ireturn, 1) := by decide +kernel
theorem dX12_rule_11 : decode cX12_rule 11 = .ok (.iload_n 1, 1) := by decide +kernel
theorem dX12_rule_12 : decode cX12_rule 12 = .ok (.iload_n 2, 1) := by decide +kernel
theorem dX12_rule_13 : decode cX12_rule 13 = .ok (.invokestatic 73, 3) := by decide +kernel
theorem dX12_rule_16 : decode cX12_rule 16 = .ok (.ifCond .ne 6, 3) := by decide +kernel
theorem dX12_rule_19 : decode cX12_rule 19 = .ok (.bipush (-2), 2) := by decide +kernel
theorem dX12_rule_21 : decode cX12_rule 21 = .ok (.ireturn, 1) := by decide +kernel
theorem dX12_rule_22 : decode cX12_rule 22 = .ok (.aload_n 0, 1) := by decide +kernel
theorem dX12_rule_23 : decode cX12_rule 23 = .ok (.getfield 9, 3) := by decide +kernel
theorem dX12_rule_26 : decode cX12_rule 26 = .ok (.iload_n 1, 1) := by decide +kernel
theorem dX12_rule_27 : decode cX12_rule 27 = .ok (.iload_n 2, 1) := by decide +kernel
theorem dX12_rule_28 : decode cX12_rule 28 = .ok (.iastore, 1) := by decide +kernel
theorem dX12_rule_29 : decode cX12_rule 29 = .ok (.iconst 1, 1) := by decide +kernel
theorem dX12_rule_30 : decode cX12_rule 30 = .ok (.ireturn, 1) := by decide +kernel
theorem dX12_told_0 : decode cX12_told 0 = .ok (.iload_n 1, 1) := by decide +kernel
theorem dX12_told_1 : decode cX12_told 1 = .ok (.iconst 0, 1) := by decide +kernel
theorem dX12_told_2 : decode cX12_told 2 = .ok (.bipush 8, 2) := by decide +kernel
theorem dX12_told_4 : decode cX12_told 4 = .ok (.invokestatic 58, 3) := by decide +kernel
theorem dX12_told_7 : decode cX12_told 7 = .ok (.ifCond .ne 5, 3) := by decide +kernel
theorem dX12_told_10 : decode cX12_told 10 = .ok (.iconst (-1), 1) := by decide +kernel
theorem dX12_told_11 : decode cX12_told 11 = .ok (.ireturn, 1) := by decide +kernel
theorem dX12_told_12 : decode cX12_told 12 = .ok (.iload_n 1, 1) := by decide +kernel
theorem dX12_told_13 : decode cX12_told 13 = .ok (.iconst 3, 1) := by decide +kernel
theorem dX12_told_14 : decode cX12_told 14 = .ok (.if_icmp .ne 15, 3) := by decide +kernel
theorem dX12_told_17 : decode cX12_told 17 = .ok (.aload_n 0, 1) := by decide +kernel
theorem dX12_told_18 : decode cX12_told 18 = .ok (.getfield 9, 3) := by decide +kernel
theorem dX12_told_21 : decode cX12_told 21 = .ok (.iconst 3, 1) := by decide +kernel
theorem dX12_told_22 : decode cX12_told 22 = .ok (.iaload, 1) := by decide +kernel
theorem dX12_told_23 : decode cX12_told 23 = .ok (.bipush 100, 2) := by decide +kernel
theorem dX12_told_25 : decode cX12_told 25 = .ok (.iadd, 1) := by decide +kernel
theorem dX12_told_26 : decode cX12_told 26 = .ok (.goto 35, 3) := by decide +kernel
theorem dX12_told_29 : decode cX12_told 29 = .ok (.iload_n 1, 1) := by decide +kernel
theorem dX12_told_30 : decode cX12_told 30 = .ok (.bipush 7, 2) := by decide +kernel
theorem dX12_told_32 : decode cX12_told 32 = .ok (.if_icmp .ge 12, 3) := by decide +kernel
theorem dX12_told_35 : decode cX12_told 35 = .ok (.aload_n 0, 1) := by decide +kernel
theorem dX12_told_36 : decode cX12_told 36 = .ok (.getfield 9, 3) := by decide +kernel
theorem dX12_told_39 : decode cX12_told 39 = .ok (.iload_n 1, 1) := by decide +kernel
theorem dX12_told_40 : decode cX12_told 40 = .ok (.iaload, 1) := by decide +kernel
theorem dX12_told_41 : decode cX12_told 41 = .ok (.goto 20, 3) := by decide +kernel
theorem dX12_told_44 : decode cX12_told 44 = .ok (.iload_n 1, 1) := by decide +kernel
theorem dX12_told_45 : decode cX12_told 45 = .ok (.bipush 7, 2) := by decide +kernel
theorem dX12_told_47 : decode cX12_told 47 = .ok (.if_icmp .ne 10, 3) := by decide +kernel
theorem dX12_told_50 : decode cX12_told 50 = .ok (.aload_n 0, 1) := by decide +kernel
theorem dX12_told_51 : decode cX12_told 51 = .ok (.getfield 77, 3) := by decide +kernel
theorem dX12_told_54 : decode cX12_told 54 = .ok (.goto 7, 3) := by decide +kernel
theorem dX12_told_57 : decode cX12_told 57 = .ok (.aload_n 0, 1) := by decide +kernel
theorem dX12_told_58 : decode cX12_told 58 = .ok (.getfield 80, 3) := by decide +kernel
theorem dX12_told_61 : decode cX12_told 61 = .ok (.ireturn, 1) := by decide +kernel
theorem dX12_countsOf_0 : decode cX12_countsOf 0 = .ok (.aload_n 0, 1) := by decide +kernel
theorem dX12_countsOf_1 : decode cX12_countsOf 1 = .ok (.getfield 9, 3) := by decide +kernel
theorem dX12_countsOf_4 : decode cX12_countsOf 4 = .ok (.bipush 16, 2) := by decide +kernel
theorem dX12_countsOf_6 : decode cX12_countsOf 6 = .ok (.iload_n 1, 1) := by decide +kernel
theorem dX12_countsOf_7 : decode cX12_countsOf 7 = .ok (.iadd, 1) := by decide +kernel
theorem dX12_countsOf_8 : decode cX12_countsOf 8 = .ok (.iaload, 1) := by decide +kernel
theorem dX12_countsOf_9 : decode cX12_countsOf 9 = .ok (.istore_n 2, 1) := by decide +kernel
theorem dX12_countsOf_10 : decode cX12_countsOf 10 = .ok (.iconst 1, 1) := by decide +kernel
theorem dX12_countsOf_11 : decode cX12_countsOf 11 = .ok (.iload_n 2, 1) := by decide +kernel
theorem dX12_countsOf_12 : decode cX12_countsOf 12 = .ok (.iconst 1, 1) := by decide +kernel
theorem dX12_countsOf_13 : decode cX12_countsOf 13 = .ok (.isub, 1) := by decide +kernel
theorem dX12_countsOf_14 : decode cX12_countsOf 14 = .ok (.invokestatic 83, 3) := by decide +kernel
theorem dX12_countsOf_17 : decode cX12_countsOf 17 = .ok (.istore_n 3, 1) := by decide +kernel
theorem dX12_countsOf_18 : decode cX12_countsOf 18 = .ok (.aload_n 0, 1) := by decide +kernel
theorem dX12_countsOf_19 : decode cX12_countsOf 19 = .ok (.getfield 9, 3) := by decide +kernel
theorem dX12_countsOf_22 : decode cX12_countsOf 22 = .ok (.bipush 7, 2) := by decide +kernel
theorem dX12_countsOf_24 : decode cX12_countsOf 24 = .ok (.iload_n 1, 1) := by decide +kernel
theorem dX12_countsOf_25 : decode cX12_countsOf 25 = .ok (.iadd, 1) := by decide +kernel
theorem dX12_countsOf_26 : decode cX12_countsOf 26 = .ok (.iaload, 1) := by decide +kernel
theorem dX12_countsOf_27 : decode cX12_countsOf 27 = .ok (.tableswitch 43 1 4 #[29, 43, 31, 35], 29) := by decide +kernel
theorem dX12_countsOf_56 : decode cX12_countsOf 56 = .ok (.iload_n 3, 1) := by decide +kernel
theorem dX12_countsOf_57 : decode cX12_countsOf 57 = .ok (.ireturn, 1) := by decide +kernel
theorem dX12_countsOf_58 : decode cX12_countsOf 58 = .ok (.iload_n 2, 1) := by decide +kernel
theorem dX12_countsOf_59 : decode cX12_countsOf 59 = .ok (.iconst 2, 1) := by decide +kernel
theorem dX12_countsOf_60 : decode cX12_countsOf 60 = .ok (.iadd, 1) := by decide +kernel
theorem dX12_countsOf_61 : decode cX12_countsOf 61 = .ok (.ireturn, 1) := by decide +kernel
theorem dX12_countsOf_62 : decode cX12_countsOf 62 = .ok (.iconst 1, 1) := by decide +kernel
theorem dX12_countsOf_63 : decode cX12_countsOf 63 = .ok (.iload_n 3, 1) := by decide +kernel
theorem dX12_countsOf_64 : decode cX12_countsOf 64 = .ok (.iconst 2, 1) := by decide +kernel
theorem dX12_countsOf_65 : decode cX12_countsOf 65 = .ok (.idiv, 1) := by decide +kernel
theorem dX12_countsOf_66 : decode cX12_countsOf 66 = .ok (.invokestatic 83, 3) := by decide +kernel
theorem dX12_countsOf_69 : decode cX12_countsOf 69 = .ok (.ireturn, 1) := by decide +kernel
theorem dX12_countsOf_70 : decode cX12_countsOf 70 = .ok (.iload_n 2, 1) := by decide +kernel
theorem dX12_countsOf_71 : decode cX12_countsOf 71 = .ok (.ireturn, 1) := by decide +kernel
theorem dX12_edgeOf_0 : decode cX12_edgeOf 0 = .ok (.aload_n 0, 1) := by decide +kernel
theorem dX12_edgeOf_1 : decode cX12_edgeOf 1 = .ok (.getfield 9, 3) := by decide +kernel
theorem dX12_edgeOf_4 : decode cX12_edgeOf 4 = .ok (.bipush 7, 2) := by decide +kernel
theorem dX12_edgeOf_6 : decode cX12_edgeOf 6 = .ok (.iload_n 1, 1) := by decide +kernel
theorem dX12_edgeOf_7 : decode cX12_edgeOf 7 = .ok (.iadd, 1) := by decide +kernel
theorem dX12_edgeOf_8 : decode cX12_edgeOf 8 = .ok (.iaload, 1) := by decide +kernel
theorem dX12_edgeOf_9 : decode cX12_edgeOf 9 = .ok (.istore_n 2, 1) := by decide +kernel
theorem dX12_edgeOf_10 : decode cX12_edgeOf 10 = .ok (.aload_n 0, 1) := by decide +kernel
theorem dX12_edgeOf_11 : decode cX12_edgeOf 11 = .ok (.getfield 9, 3) := by decide +kernel
theorem dX12_edgeOf_14 : decode cX12_edgeOf 14 = .ok (.bipush 34, 2) := by decide +kernel
theorem dX12_edgeOf_16 : decode cX12_edgeOf 16 = .ok (.iload_n 1, 1) := by decide +kernel
theorem dX12_edgeOf_17 : decode cX12_edgeOf 17 = .ok (.iadd, 1) := by decide +kernel
theorem dX12_edgeOf_18 : decode cX12_edgeOf 18 = .ok (.iaload, 1) := by decide +kernel
theorem dX12_edgeOf_19 : decode cX12_edgeOf 19 = .ok (.istore_n 3, 1) := by decide +kernel
theorem dX12_edgeOf_20 : decode cX12_edgeOf 20 = .ok (.iload_n 2, 1) := by decide +kernel
theorem dX12_edgeOf_21 : decode cX12_edgeOf 21 = .ok (.iconst 2, 1) := by decide +kernel
theorem dX12_edgeOf_22 : decode cX12_edgeOf 22 = .ok (.if_icmp .eq 8, 3) := by decide +kernel
theorem dX12_edgeOf_25 : decode cX12_edgeOf 25 = .ok (.iload_n 2, 1) := by decide +kernel
theorem dX12_edgeOf_26 : decode cX12_edgeOf 26 = .ok (.iconst 3, 1) := by decide +kernel
theorem dX12_edgeOf_27 : decode cX12_edgeOf 27 = .ok (.if_icmp .ne 9, 3) := by decide +kernel
theorem dX12_edgeOf_30 : decode cX12_edgeOf 30 = .ok (.iload_n 3, 1) := by decide +kernel
theorem dX12_edgeOf_31 : decode cX12_edgeOf 31 = .ok (.iconst 1, 1) := by decide +kernel
theorem dX12_edgeOf_32 : decode cX12_edgeOf 32 = .ok (.iadd, 1) := by decide +kernel
theorem dX12_edgeOf_33 : decode cX12_edgeOf 33 = .ok (.goto 15, 3) := by decide +kernel
theorem dX12_edgeOf_36 : decode cX12_edgeOf 36 = .ok (.iload_n 2, 1) := by decide +kernel
theorem dX12_edgeOf_37 : decode cX12_edgeOf 37 = .ok (.iconst 4, 1) := by decide +kernel
theorem dX12_edgeOf_38 : decode cX12_edgeOf 38 = .ok (.if_icmp .ne 9, 3) := by decide +kernel
theorem dX12_edgeOf_41 : decode cX12_edgeOf 41 = .ok (.iload_n 3, 1) := by decide +kernel
theorem dX12_edgeOf_42 : decode cX12_edgeOf 42 = .ok (.iconst 2, 1) := by decide +kernel
theorem dX12_edgeOf_43 : decode cX12_edgeOf 43 = .ok (.isub, 1) := by decide +kernel
theorem dX12_edgeOf_44 : decode cX12_edgeOf 44 = .ok (.goto 4, 3) := by decide +kernel
theorem dX12_edgeOf_47 : decode cX12_edgeOf 47 = .ok (.iload_n 3, 1) := by decide +kernel
theorem dX12_edgeOf_48 : decode cX12_edgeOf 48 = .ok (.ireturn, 1) := by decide +kernel
theorem dX12_priceOf_0 : decode cX12_priceOf 0 = .ok (.aload_n 0, 1) := by decide +kernel
theorem dX12_priceOf_1 : decode cX12_priceOf 1 = .ok (.getfield 9, 3) := by decide +kernel
theorem dX12_priceOf_4 : decode cX12_priceOf 4 = .ok (.bipush 7, 2) := by decide +kernel
theorem dX12_priceOf_6 : decode cX12_priceOf 6 = .ok (.iload_n 1, 1) := by decide +kernel
theorem dX12_priceOf_7 : decode cX12_priceOf 7 = .ok (.iadd, 1) := by decide +kernel
theorem dX12_priceOf_8 : decode cX12_priceOf 8 = .ok (.iaload, 1) := by decide +kernel
theorem dX12_priceOf_9 : decode cX12_priceOf 9 = .ok (.istore_n 2, 1) := by decide +kernel
theorem dX12_priceOf_10 : decode cX12_priceOf 10 = .ok (.aload_n 0, 1) := by decide +kernel
theorem dX12_priceOf_11 : decode cX12_priceOf 11 = .ok (.getfield 9, 3) := by decide +kernel
theorem dX12_priceOf_14 : decode cX12_priceOf 14 = .ok (.bipush 16, 2) := by decide +kernel
theorem dX12_priceOf_16 : decode cX12_priceOf 16 = .ok (.iload_n 1, 1) := by decide +kernel
theorem dX12_priceOf_17 : decode cX12_priceOf 17 = .ok (.iadd, 1) := by decide +kernel
theorem dX12_priceOf_18 : decode cX12_priceOf 18 = .ok (.iaload, 1) := by decide +kernel
theorem dX12_priceOf_19 : decode cX12_priceOf 19 = .ok (.aload_n 0, 1) := by decide +kernel
theorem dX12_priceOf_20 : decode cX12_priceOf 20 = .ok (.getfield 9, 3) := by decide +kernel
theorem dX12_priceOf_23 : decode cX12_priceOf 23 = .ok (.bipush 25, 2) := by decide +kernel
theorem dX12_priceOf_25 : decode cX12_priceOf 25 = .ok (.iload_n 1, 1) := by decide +kernel
theorem dX12_priceOf_26 : decode cX12_priceOf 26 = .ok (.iadd, 1) := by decide +kernel
theorem dX12_priceOf_27 : decode cX12_priceOf 27 = .ok (.iaload, 1) := by decide +kernel
theorem dX12_priceOf_28 : decode cX12_priceOf 28 = .ok (.imul, 1) := by decide +kernel
theorem dX12_priceOf_29 : decode cX12_priceOf 29 = .ok (.istore_n 3, 1) := by decide +kernel
theorem dX12_priceOf_30 : decode cX12_priceOf 30 = .ok (.iload_n 2, 1) := by decide +kernel
theorem dX12_priceOf_31 : decode cX12_priceOf 31 = .ok (.iconst 1, 1) := by decide +kernel
theorem dX12_priceOf_32 : decode cX12_priceOf 32 = .ok (.if_icmp .eq 8, 3) := by decide +kernel
theorem dX12_priceOf_35 : decode cX12_priceOf 35 = .ok (.iload_n 2, 1) := by decide +kernel
theorem dX12_priceOf_36 : decode cX12_priceOf 36 = .ok (.iconst 4, 1) := by decide +kernel
theorem dX12_priceOf_37 : decode cX12_priceOf 37 = .ok (.if_icmp .ne 9, 3) := by decide +kernel
theorem dX12_priceOf_40 : decode cX12_priceOf 40 = .ok (.iload_n 3, 1) := by decide +kernel
theorem dX12_priceOf_41 : decode cX12_priceOf 41 = .ok (.iconst 2, 1) := by decide +kernel
theorem dX12_priceOf_42 : decode cX12_priceOf 42 = .ok (.idiv, 1) := by decide +kernel
theorem dX12_priceOf_43 : decode cX12_priceOf 43 = .ok (.goto 16, 3) := by decide +kernel
theorem dX12_priceOf_46 : decode cX12_priceOf 46 = .ok (.iload_n 2, 1) := by decide +kernel
theorem dX12_priceOf_47 : decode cX12_priceOf 47 = .ok (.iconst 3, 1) := by decide +kernel
theorem dX12_priceOf_48 : decode cX12_priceOf 48 = .ok (.if_icmp .ne 10, 3) := by decide +kernel
theorem dX12_priceOf_51 : decode cX12_priceOf 51 = .ok (.iload_n 3, 1) := by decide +kernel
theorem dX12_priceOf_52 : decode cX12_priceOf 52 = .ok (.bipush 7, 2) := by decide +kernel
theorem dX12_priceOf_54 : decode cX12_priceOf 54 = .ok (.iadd, 1) := by decide +kernel
theorem dX12_priceOf_55 : decode cX12_priceOf 55 = .ok (.goto 4, 3) := by decide +kernel
theorem dX12_priceOf_58 : decode cX12_priceOf 58 = .ok (.iload_n 3, 1) := by decide +kernel
theorem dX12_priceOf_59 : decode cX12_priceOf 59 = .ok (.ireturn, 1) := by decide +kernel
theorem dX12_root_0 : decode cX12_root 0 = .ok (.iconst 0, 1) := by decide +kernel
theorem dX12_root_1 : decode cX12_root 1 = .ok (.istore_n 1, 1) := by decide +kernel
theorem dX12_root_2 : decode cX12_root 2 = .ok (.iload_n 1, 1) := by decide +kernel
theorem dX12_root_3 : decode cX12_root 3 = .ok (.iconst 1, 1) := by decide +kernel
theorem dX12_root_4 : decode cX12_root 4 = .ok (.iadd, 1) := by decide +kernel
theorem dX12_root_5 : decode cX12_root 5 = .ok (.iload_n 1, 1) := by decide +kernel
theorem dX12_root_6 : decode cX12_root 6 = .ok (.iconst 1, 1) := by decide +kernel
theorem dX12_root_7 : decode cX12_root 7 = .ok (.iadd, 1) := by decide +kernel
theorem dX12_root_8 : decode cX12_root 8 = .ok (.imul, 1) := by decide +kernel
theorem dX12_root_9 : decode cX12_root 9 = .ok (.iload_n 0, 1) := by decide +kernel
theorem dX12_root_10 : decode cX12_root 10 = .ok (.if_icmp .gt 9, 3) := by decide +kernel
theorem dX12_root_13 : decode cX12_root 13 = .ok (.iinc 1 1, 3) := by decide +kernel
theorem dX12_root_16 : decode cX12_root 16 = .ok (.goto (-14), 3) := by decide +kernel
theorem dX12_root_19 : decode cX12_root 19 = .ok (.iload_n 1, 1) := by decide +kernel
theorem dX12_root_20 : decode cX12_root 20 = .ok (.ireturn, 1) := by decide +kernel
theorem dX12_sagOf_0 : decode cX12_sagOf 0 = .ok (.iconst 2, 1) := by decide +kernel
theorem dX12_sagOf_1 : decode cX12_sagOf 1 = .ok (.aload_n 0, 1) := by decide +kernel
theorem dX12_sagOf_2 : decode cX12_sagOf 2 = .ok (.getfield 9, 3) := by decide +kernel
theorem dX12_sagOf_5 : decode cX12_sagOf 5 = .ok (.iconst 0, 1) := by decide +kernel
theorem dX12_sagOf_6 : decode cX12_sagOf 6 = .ok (.iaload, 1) := by decide +kernel
theorem dX12_sagOf_7 : decode cX12_sagOf 7 = .ok (.bipush 113, 2) := by decide +kernel
theorem dX12_sagOf_9 : decode cX12_sagOf 9 = .ok (.imul, 1) := by decide +kernel
theorem dX12_sagOf_10 : decode cX12_sagOf 10 = .ok (.sipush 710, 3) := by decide +kernel
theorem dX12_sagOf_13 : decode cX12_sagOf 13 = .ok (.idiv, 1) := by decide +kernel
theorem dX12_sagOf_14 : decode cX12_sagOf 14 = .ok (.imul, 1) := by decide +kernel
theorem dX12_sagOf_15 : decode cX12_sagOf 15 = .ok (.istore_n 2, 1) := by decide +kernel
theorem dX12_sagOf_16 : decode cX12_sagOf 16 = .ok (.aload_n 0, 1) := by decide +kernel
theorem dX12_sagOf_17 : decode cX12_sagOf 17 = .ok (.iload_n 1, 1) := by decide +kernel
theorem dX12_sagOf_18 : decode cX12_sagOf 18 = .ok (.invokevirtual 89, 3) := by decide +kernel
theorem dX12_sagOf_21 : decode cX12_sagOf 21 = .ok (.istore_n 3, 1) := by decide +kernel
theorem dX12_sagOf_22 : decode cX12_sagOf 22 = .ok (.iload_n 3, 1) := by decide +kernel
theorem dX12_sagOf_23 : decode cX12_sagOf 23 = .ok (.iload_n 2, 1) := by decide +kernel
theorem dX12_sagOf_24 : decode cX12_sagOf 24 = .ok (.if_icmp .le 8, 3) := by decide +kernel
theorem dX12_sagOf_27 : decode cX12_sagOf 27 = .ok (.bipush (-5), 2) := by decide +kernel
theorem dX12_sagOf_29 : decode cX12_sagOf 29 = .ok (.goto 17, 3) := by decide +kernel
theorem dX12_sagOf_32 : decode cX12_sagOf 32 = .ok (.iload_n 2, 1) := by decide +kernel
theorem dX12_sagOf_33 : decode cX12_sagOf 33 = .ok (.iload_n 2, 1) := by decide +kernel
theorem dX12_sagOf_34 : decode cX12_sagOf 34 = .ok (.iload_n 2, 1) := by decide +kernel
theorem dX12_sagOf_35 : decode cX12_sagOf 35 = .ok (.imul, 1) := by decide +kernel
theorem dX12_sagOf_36 : decode cX12_sagOf 36 = .ok (.iload_n 3, 1) := by decide +kernel
theorem dX12_sagOf_37 : decode cX12_sagOf 37 = .ok (.iload_n 3, 1) := by decide +kernel
theorem dX12_sagOf_38 : decode cX12_sagOf 38 = .ok (.imul, 1) := by decide +kernel
theorem dX12_sagOf_39 : decode cX12_sagOf 39 = .ok (.isub, 1) := by decide +kernel
theorem dX12_sagOf_40 : decode cX12_sagOf 40 = .ok (.invokestatic 93, 3) := by decide +kernel
theorem dX12_sagOf_43 : decode cX12_sagOf 43 = .ok (.isub, 1) := by decide +kernel
theorem dX12_sagOf_44 : decode cX12_sagOf 44 = .ok (.iconst 2, 1) := by decide +kernel
theorem dX12_sagOf_45 : decode cX12_sagOf 45 = .ok (.idiv, 1) := by decide +kernel
theorem dX12_sagOf_46 : decode cX12_sagOf 46 = .ok (.ireturn, 1) := by decide +kernel
theorem dX12_hasStave_0 : decode cX12_hasStave 0 = .ok (.iload_n 1, 1) := by decide +kernel
theorem dX12_hasStave_1 : decode cX12_hasStave 1 = .ok (.iconst 0, 1) := by decide +kernel
theorem dX12_hasStave_2 : decode cX12_hasStave 2 = .ok (.aload_n 0, 1) := by decide +kernel
theorem dX12_hasStave_3 : decode cX12_hasStave 3 = .ok (.getfield 9, 3) := by decide +kernel
theorem dX12_hasStave_6 : decode cX12_hasStave 6 = .ok (.iconst 4, 1) := by decide +kernel
theorem dX12_hasStave_7 : decode cX12_hasStave 7 = .ok (.iaload, 1) := by decide +kernel
theorem dX12_hasStave_8 : decode cX12_hasStave 8 = .ok (.iconst 1, 1) := by decide +kernel
theorem dX12_hasStave_9 : decode cX12_hasStave 9 = .ok (.isub, 1) := by decide +kernel
theorem dX12_hasStave_10 : decode cX12_hasStave 10 = .ok (.invokestatic 58, 3) := by decide +kernel
theorem dX12_hasStave_13 : decode cX12_hasStave 13 = .ok (.ireturn, 1) := by decide +kernel
theorem dX12_ofStave_0 : decode cX12_ofStave 0 = .ok (.aload_n 0, 1) := by decide +kernel
theorem dX12_ofStave_1 : decode cX12_ofStave 1 = .ok (.iload_n 1, 1) := by decide +kernel
theorem dX12_ofStave_2 : decode cX12_ofStave 2 = .ok (.invokevirtual 96, 3) := by decide +kernel
theorem dX12_ofStave_5 : decode cX12_ofStave 5 = .ok (.ifCond .eq 13, 3) := by decide +kernel
theorem dX12_ofStave_8 : decode cX12_ofStave 8 = .ok (.iload_n 2, 1) := by decide +kernel
theorem dX12_ofStave_9 : decode cX12_ofStave 9 = .ok (.iconst 0, 1) := by decide +kernel
theorem dX12_ofStave_10 : decode cX12_ofStave 10 = .ok (.bipush 7, 2) := by decide +kernel
theorem dX12_ofStave_12 : decode cX12_ofStave 12 = .ok (.invokestatic 58, 3) := by decide +kernel
theorem dX12_ofStave_15 : decode cX12_ofStave 15 = .ok (.ifCond .ne 5, 3) := by decide +kernel
theorem dX12_ofStave_18 : decode cX12_ofStave 18 = .ok (.iconst (-1), 1) := by decide +kernel
theorem dX12_ofStave_19 : decode cX12_ofStave 19 = .ok (.ireturn, 1) := by decide +kernel
theorem dX12_ofStave_20 : decode cX12_ofStave 20 = .ok (.iload_n 2, 1) := by decide +kernel
theorem dX12_ofStave_21 : decode cX12_ofStave 21 = .ok (.tableswitch 107 0 6 #[43, 53, 63, 73, 86, 92, 101], 43) := by decide +kernel
theorem dX12_ofStave_64 : decode cX12_ofStave 64 = .ok (.aload_n 0, 1) := by decide +kernel
theorem dX12_ofStave_65 : decode cX12_ofStave 65 = .ok (.getfield 9, 3) := by decide +kernel
theorem dX12_ofStave_68 : decode cX12_ofStave 68 = .ok (.bipush 7, 2) := by decide +kernel
theorem dX12_ofStave_70 : decode cX12_ofStave 70 = .ok (.iload_n 1, 1) := by decide +kernel
theorem dX12_ofStave_71 : decode cX12_ofStave 71 = .ok (.iadd, 1) := by decide +kernel
theorem dX12_ofStave_72 : decode cX12_ofStave 72 = .ok (.iaload, 1) := by decide +kernel
theorem dX12_ofStave_73 : decode cX12_ofStave 73 = .ok (.ireturn, 1) := by decide +kernel
theorem dX12_ofStave_74 : decode cX12_ofStave 74 = .ok (.aload_n 0, 1) := by decide +kernel
theorem dX12_ofStave_75 : decode cX12_ofStave 75 = .ok (.getfield 9, 3) := by decide +kernel
theorem dX12_ofStave_78 : decode cX12_ofStave 78 = .ok (.bipush 16, 2) := by decide +kernel
theorem dX12_ofStave_80 : decode cX12_ofStave 80 = .ok (.iload_n 1, 1) := by decide +kernel
theorem dX12_ofStave_81 : decode cX12_ofStave 81 = .ok (.iadd, 1) := by decide +kernel
theorem dX12_ofStave_82 : decode cX12_ofStave 82 = .ok (.iaload, 1) := by decide +kernel
theorem dX12_ofStave_83 : decode cX12_ofStave 83 = .ok (.ireturn, 1) := by decide +kernel
theorem dX12_ofStave_84 : decode cX12_ofStave 84 = .ok (.aload_n 0, 1) := by decide +kernel
theorem dX12_ofStave_85 : decode cX12_ofStave 85 = .ok (.getfield 9, 3) := by decide +kernel
theorem dX12_ofStave_88 : decode cX12_ofStave 88 = .ok (.bipush 25, 2) := by decide +kernel
theorem dX12_ofStave_90 : decode cX12_ofStave 90 = .ok (.iload_n 1, 1) := by decide +kernel
theorem dX12_ofStave_91 : decode cX12_ofStave 91 = .ok (.iadd, 1) := by decide +kernel
theorem dX12_ofStave_92 : decode cX12_ofStave 92 = .ok (.iaload, 1) := by decide +kernel
theorem dX12_ofStave_93 : decode cX12_ofStave 93 = .ok (.ireturn, 1) := by decide +kernel
theorem dX12_ofStave_94 : decode cX12_ofStave 94 = .ok (.aload_n 0, 1) := by decide +kernel
theorem dX12_ofStave_95 : decode cX12_ofStave 95 = .ok (.getfield 9, 3) := by decide +kernel
theorem dX12_ofStave_98 : decode cX12_ofStave 98 = .ok (.bipush 34, 2) := by decide +kernel
theorem dX12_ofStave_100 : decode cX12_ofStave 100 = .ok (.iload_n 1, 1) := by decide +kernel
theorem dX12_ofStave_101 : decode cX12_ofStave 101 = .ok (.iadd, 1) := by decide +kernel
theorem dX12_ofStave_102 : decode cX12_ofStave 102 = .ok (.iaload, 1) := by decide +kernel
theorem dX12_ofStave_103 : decode cX12_ofStave 103 = .ok (.bipush 100, 2) := by decide +kernel
theorem dX12_ofStave_105 : decode cX12_ofStave 105 = .ok (.iadd, 1) := by decide +kernel
theorem dX12_ofStave_106 : decode cX12_ofStave 106 = .ok (.ireturn, 1) := by decide +kernel
theorem dX12_ofStave_107 : decode cX12_ofStave 107 = .ok (.aload_n 0, 1) := by decide +kernel
theorem dX12_ofStave_108 : decode cX12_ofStave 108 = .ok (.iload_n 1, 1) := by decide +kernel
theorem dX12_ofStave_109 : decode cX12_ofStave 109 = .ok (.invokevirtual 89, 3) := by decide +kernel
theorem dX12_ofStave_112 : decode cX12_ofStave 112 = .ok (.ireturn, 1) := by decide +kernel
theorem dX12_ofStave_113 : decode cX12_ofStave 113 = .ok (.aload_n 0, 1) := by decide +kernel
theorem dX12_ofStave_114 : decode cX12_ofStave 114 = .ok (.iload_n 1, 1) := by decide +kernel
theorem dX12_ofStave_115 : decode cX12_ofStave 115 = .ok (.invokevirtual 100, 3) := by decide +kernel
theorem dX12_ofStave_118 : decode cX12_ofStave 118 = .ok (.bipush 100, 2) := by decide +kernel
theorem dX12_ofStave_120 : decode cX12_ofStave 120 = .ok (.iadd, 1) := by decide +kernel
theorem dX12_ofStave_121 : decode cX12_ofStave 121 = .ok (.ireturn, 1) := by decide +kernel
theorem dX12_ofStave_122 : decode cX12_ofStave 122 = .ok (.aload_n 0, 1) := by decide +kernel
theorem dX12_ofStave_123 : decode cX12_ofStave 123 = .ok (.iload_n 1, 1) := by decide +kernel
theorem dX12_ofStave_124 : decode cX12_ofStave 124 = .ok (.invokevirtual 103, 3) := by decide +kernel
theorem dX12_ofStave_127 : decode cX12_ofStave 127 = .ok (.ireturn, 1) := by decide +kernel
theorem dX12_ofStave_128 : decode cX12_ofStave 128 = .ok (.aload_n 0, 1) := by decide +kernel
theorem dX12_ofStave_129 : decode cX12_ofStave 129 = .ok (.iload_n 1, 1) := by decide +kernel
