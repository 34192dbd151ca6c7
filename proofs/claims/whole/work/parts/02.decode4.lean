theorem dX12_used_146 : decode cX12_used 146 = .ok (.iload 4, 2) := by decide +kernel
theorem dX12_used_148 : decode cX12_used 148 = .ok (.iconst 2, 1) := by decide +kernel
theorem dX12_used_149 : decode cX12_used 149 = .ok (.iload_n 1, 1) := by decide +kernel
theorem dX12_used_150 : decode cX12_used 150 = .ok (.imul, 1) := by decide +kernel
theorem dX12_used_151 : decode cX12_used 151 = .ok (.if_icmp .ge 8, 3) := by decide +kernel
theorem dX12_used_154 : decode cX12_used 154 = .ok (.bipush (-2), 2) := by decide +kernel
theorem dX12_used_156 : decode cX12_used 156 = .ok (.goto 5, 3) := by decide +kernel
theorem dX12_used_159 : decode cX12_used 159 = .ok (.iload 5, 2) := by decide +kernel
theorem dX12_used_161 : decode cX12_used 161 = .ok (.ireturn, 1) := by decide +kernel
theorem dX12_heads_0 : decode cX12_heads 0 = .ok (.iload_n 1, 1) := by decide +kernel
theorem dX12_heads_1 : decode cX12_heads 1 = .ok (.iconst 1, 1) := by decide +kernel
theorem dX12_heads_2 : decode cX12_heads 2 = .ok (.sipush 200, 3) := by decide +kernel
theorem dX12_heads_5 : decode cX12_heads 5 = .ok (.invokestatic 58, 3) := by decide +kernel
theorem dX12_heads_8 : decode cX12_heads 8 = .ok (.ifCond .ne 6, 3) := by decide +kernel
theorem dX12_heads_11 : decode cX12_heads 11 = .ok (.bipush (-2), 2) := by decide +kernel
theorem dX12_heads_13 : decode cX12_heads 13 = .ok (.ireturn, 1) := by decide +kernel
theorem dX12_heads_14 : decode cX12_heads 14 = .ok (.aload_n 0, 1) := by decide +kernel
theorem dX12_heads_15 : decode cX12_heads 15 = .ok (.iload_n 1, 1) := by decide +kernel
theorem dX12_heads_16 : decode cX12_heads 16 = .ok (.invokevirtual 205, 3) := by decide +kernel
theorem dX12_heads_19 : decode cX12_heads 19 = .ok (.aload_n 0, 1) := by decide +kernel
theorem dX12_heads_20 : decode cX12_heads 20 = .ok (.getfield 185, 3) := by decide +kernel
theorem dX12_heads_23 : decode cX12_heads 23 = .ok (.ireturn, 1) := by decide +kernel
theorem dX12_feed_0 : decode cX12_feed 0 = .ok (.iload_n 1, 1) := by decide +kernel
theorem dX12_feed_1 : decode cX12_feed 1 = .ok (.iconst 0, 1) := by decide +kernel
theorem dX12_feed_2 : decode cX12_feed 2 = .ok (.bipush 127, 2) := by decide +kernel
theorem dX12_feed_4 : decode cX12_feed 4 = .ok (.invokestatic 58, 3) := by decide +kernel
theorem dX12_feed_7 : decode cX12_feed 7 = .ok (.ifCond .ne 6, 3) := by decide +kernel
theorem dX12_feed_10 : decode cX12_feed 10 = .ok (.bipush (-2), 2) := by decide +kernel
theorem dX12_feed_12 : decode cX12_feed 12 = .ok (.ireturn, 1) := by decide +kernel
theorem dX12_feed_13 : decode cX12_feed 13 = .ok (.aload_n 0, 1) := by decide +kernel
theorem dX12_feed_14 : decode cX12_feed 14 = .ok (.getfield 77, 3) := by decide +kernel
theorem dX12_feed_17 : decode cX12_feed 17 = .ok (.bipush 80, 2) := by decide +kernel
theorem dX12_feed_19 : decode cX12_feed 19 = .ok (.if_icmp .ne 6, 3) := by decide +kernel
theorem dX12_feed_22 : decode cX12_feed 22 = .ok (.bipush (-4), 2) := by decide +kernel
theorem dX12_feed_24 : decode cX12_feed 24 = .ok (.ireturn, 1) := by decide +kernel
theorem dX12_feed_25 : decode cX12_feed 25 = .ok (.aload_n 0, 1) := by decide +kernel
theorem dX12_feed_26 : decode cX12_feed 26 = .ok (.getfield 21, 3) := by decide +kernel
theorem dX12_feed_29 : decode cX12_feed 29 = .ok (.aload_n 0, 1) := by decide +kernel
theorem dX12_feed_30 : decode cX12_feed 30 = .ok (.dup, 1) := by decide +kernel
theorem dX12_feed_31 : decode cX12_feed 31 = .ok (.getfield 77, 3) := by decide +kernel
theorem dX12_feed_34 : decode cX12_feed 34 = .ok (.dup_x1, 1) := by decide +kernel
theorem dX12_feed_35 : decode cX12_feed 35 = .ok (.iconst 1, 1) := by decide +kernel
theorem dX12_feed_36 : decode cX12_feed 36 = .ok (.iadd, 1) := by decide +kernel
theorem dX12_feed_37 : decode cX12_feed 37 = .ok (.putfield 77, 3) := by decide +kernel
theorem dX12_feed_40 : decode cX12_feed 40 = .ok (.iload_n 1, 1) := by decide +kernel
theorem dX12_feed_41 : decode cX12_feed 41 = .ok (.iastore, 1) := by decide +kernel
theorem dX12_feed_42 : decode cX12_feed 42 = .ok (.aload_n 0, 1) := by decide +kernel
theorem dX12_feed_43 : decode cX12_feed 43 = .ok (.getfield 77, 3) := by decide +kernel
theorem dX12_feed_46 : decode cX12_feed 46 = .ok (.ireturn, 1) := by decide +kernel
theorem dX12_isFrom_0 : decode cX12_isFrom 0 = .ok (.aload_n 0, 1) := by decide +kernel
theorem dX12_isFrom_1 : decode cX12_isFrom 1 = .ok (.getfield 209, 3) := by decide +kernel
theorem dX12_isFrom_4 : decode cX12_isFrom 4 = .ok (.ifCond .ge 35, 3) := by decide +kernel
theorem dX12_isFrom_7 : decode cX12_isFrom 7 = .ok (.aload_n 0, 1) := by decide +kernel
theorem dX12_isFrom_8 : decode cX12_isFrom 8 = .ok (.getfield 212, 3) := by decide +kernel
theorem dX12_isFrom_11 : decode cX12_isFrom 11 = .ok (.aload_n 0, 1) := by decide +kernel
theorem dX12_isFrom_12 : decode cX12_isFrom 12 = .ok (.getfield 77, 3) := by decide +kernel
theorem dX12_isFrom_15 : decode cX12_isFrom 15 = .ok (.if_icmp .ge 24, 3) := by decide +kernel
theorem dX12_isFrom_18 : decode cX12_isFrom 18 = .ok (.aload_n 0, 1) := by decide +kernel
theorem dX12_isFrom_19 : decode cX12_isFrom 19 = .ok (.getfield 21, 3) := by decide +kernel
theorem dX12_isFrom_22 : decode cX12_isFrom 22 = .ok (.aload_n 0, 1) := by decide +kernel
theorem dX12_isFrom_23 : decode cX12_isFrom 23 = .ok (.getfield 212, 3) := by decide +kernel
theorem dX12_isFrom_26 : decode cX12_isFrom 26 = .ok (.iaload, 1) := by decide +kernel
theorem dX12_isFrom_27 : decode cX12_isFrom 27 = .ok (.iload_n 1, 1) := by decide +kernel
theorem dX12_isFrom_28 : decode cX12_isFrom 28 = .ok (.iload_n 2, 1) := by decide +kernel
theorem dX12_isFrom_29 : decode cX12_isFrom 29 = .ok (.invokestatic 58, 3) := by decide +kernel
theorem dX12_isFrom_32 : decode cX12_isFrom 32 = .ok (.ifCond .eq 7, 3) := by decide +kernel
theorem dX12_isFrom_35 : decode cX12_isFrom 35 = .ok (.iconst 1, 1) := by decide +kernel
theorem dX12_isFrom_36 : decode cX12_isFrom 36 = .ok (.goto 4, 3) := by decide +kernel
theorem dX12_isFrom_39 : decode cX12_isFrom 39 = .ok (.iconst 0, 1) := by decide +kernel
theorem dX12_isFrom_40 : decode cX12_isFrom 40 = .ok (.ireturn, 1) := by decide +kernel
theorem dX12_wrong_0 : decode cX12_wrong 0 = .ok (.aload_n 0, 1) := by decide +kernel
theorem dX12_wrong_1 : decode cX12_wrong 1 = .ok (.getfield 209, 3) := by decide +kernel
theorem dX12_wrong_4 : decode cX12_wrong 4 = .ok (.ifCond .ge 11, 3) := by decide +kernel
theorem dX12_wrong_7 : decode cX12_wrong 7 = .ok (.aload_n 0, 1) := by decide +kernel
theorem dX12_wrong_8 : decode cX12_wrong 8 = .ok (.aload_n 0, 1) := by decide +kernel
theorem dX12_wrong_9 : decode cX12_wrong 9 = .ok (.getfield 212, 3) := by decide +kernel
theorem dX12_wrong_12 : decode cX12_wrong 12 = .ok (.putfield 209, 3) := by decide +kernel
theorem dX12_wrong_15 : decode cX12_wrong 15 = .ok (.return_, 1) := by decide +kernel
theorem dX12_number_0 : decode cX12_number 0 = .ok (.aload_n 0, 1) := by decide +kernel
theorem dX12_number_1 : decode cX12_number 1 = .ok (.bipush 45, 2) := by decide +kernel
theorem dX12_number_3 : decode cX12_number 3 = .ok (.bipush 45, 2) := by decide +kernel
theorem dX12_number_5 : decode cX12_number 5 = .ok (.invokevirtual 215, 3) := by decide +kernel
theorem dX12_number_8 : decode cX12_number 8 = .ok (.istore_n 1, 1) := by decide +kernel
theorem dX12_number_9 : decode cX12_number 9 = .ok (.iload_n 1, 1) := by decide +kernel
theorem dX12_number_10 : decode cX12_number 10 = .ok (.ifCond .eq 13, 3) := by decide +kernel
theorem dX12_number_13 : decode cX12_number 13 = .ok (.aload_n 0, 1) := by decide +kernel
theorem dX12_number_14 : decode cX12_number 14 = .ok (.dup, 1) := by decide +kernel
theorem dX12_number_15 : decode cX12_number 15 = .ok (.getfield 212, 3) := by decide +kernel
theorem dX12_number_18 : decode cX12_number 18 = .ok (.iconst 1, 1) := by decide +kernel
theorem dX12_number_19 : decode cX12_number 19 = .ok (.iadd, 1) := by decide +kernel
theorem dX12_number_20 : decode cX12_number 20 = .ok (.putfield 212, 3) := by decide +kernel
theorem dX12_number_23 : decode cX12_number 23 = .ok (.iconst 0, 1) := by decide +kernel
theorem dX12_number_24 : decode cX12_number 24 = .ok (.istore_n 2, 1) := by decide +kernel
theorem dX12_number_25 : decode cX12_number 25 = .ok (.iconst 0, 1) := by decide +kernel
theorem dX12_number_26 : decode cX12_number 26 = .ok (.istore_n 3, 1) := by decide +kernel
theorem dX12_number_27 : decode cX12_number 27 = .ok (.iload_n 2, 1) := by decide +kernel
theorem dX12_number_28 : decode cX12_number 28 = .ok (.iconst 4, 1) := by decide +kernel
theorem dX12_number_29 : decode cX12_number 29 = .ok (.if_icmp .ge 48, 3) := by decide +kernel
theorem dX12_number_32 : decode cX12_number 32 = .ok (.aload_n 0, 1) := by decide +kernel
theorem dX12_number_33 : decode cX12_number 33 = .ok (.bipush 48, 2) := by decide +kernel
theorem dX12_number_35 : decode cX12_number 35 = .ok (.bipush 57, 2) := by decide +kernel
theorem dX12_number_37 : decode cX12_number 37 = .ok (.invokevirtual 215, 3) := by decide +kernel
theorem dX12_number_40 : decode cX12_number 40 = .ok (.ifCond .eq 37, 3) := by decide +kernel
theorem dX12_number_43 : decode cX12_number 43 = .ok (.bipush 10, 2) := by decide +kernel
theorem dX12_number_45 : decode cX12_number 45 = .ok (.iload_n 3, 1) := by decide +kernel
theorem dX12_number_46 : decode cX12_number 46 = .ok (.imul, 1) := by decide +kernel
theorem dX12_number_47 : decode cX12_number 47 = .ok (.aload_n 0, 1) := by decide +kernel
theorem dX12_number_48 : decode cX12_number 48 = .ok (.getfield 21, 3) := by decide +kernel
theorem dX12_number_51 : decode cX12_number 51 = .ok (.aload_n 0, 1) := by decide +kernel
theorem dX12_number_52 : decode cX12_number 52 = .ok (.getfield 212, 3) := by decide +kernel
theorem dX12_number_55 : decode cX12_number 55 = .ok (.iaload, 1) := by decide +kernel
theorem dX12_number_56 : decode cX12_number 56 = .ok (.iadd, 1) := by decide +kernel
theorem dX12_number_57 : decode cX12_number 57 = .ok (.bipush 48, 2) := by decide +kernel
theorem dX12_number_59 : decode cX12_number 59 = .ok (.isub, 1) := by decide +kernel
theorem dX12_number_60 : decode cX12_number 60 = .ok (.istore_n 3, 1) := by decide +kernel
theorem dX12_number_61 : decode cX12_number 61 = .ok (.aload_n 0, 1) := by decide +kernel
theorem dX12_number_62 : decode cX12_number 62 = .ok (.dup, 1) := by decide +kernel
theorem dX12_number_63 : decode cX12_number 63 = .ok (.getfield 212, 3) := by decide +kernel
theorem dX12_number_66 : decode cX12_number 66 = .ok (.iconst 1, 1) := by decide +kernel
theorem dX12_number_67 : decode cX12_number 67 = .ok (.iadd, 1) := by decide +kernel
theorem dX12_number_68 : decode cX12_number 68 = .ok (.putfield 212, 3) := by decide +kernel
theorem dX12_number_71 : decode cX12_number 71 = .ok (.iinc 2 1, 3) := by decide +kernel
theorem dX12_number_74 : decode cX12_number 74 = .ok (.goto (-47), 3) := by decide +kernel
theorem dX12_number_77 : decode cX12_number 77 = .ok (.iload_n 2, 1) := by decide +kernel
theorem dX12_number_78 : decode cX12_number 78 = .ok (.ifCond .ne 7, 3) := by decide +kernel
theorem dX12_number_81 : decode cX12_number 81 = .ok (.aload_n 0, 1) := by decide +kernel
theorem dX12_number_82 : decode cX12_number 82 = .ok (.invokevirtual 218, 3) := by decide +kernel
theorem dX12_number_85 : decode cX12_number 85 = .ok (.iload_n 1, 1) := by decide +kernel
theorem dX12_number_86 : decode cX12_number 86 = .ok (.ifCond .eq 8, 3) := by decide +kernel
theorem dX12_number_89 : decode cX12_number 89 = .ok (.iload_n 3, 1) := by decide +kernel
theorem dX12_number_90 : decode cX12_number 90 = .ok (.ineg, 1) := by decide +kernel
theorem dX12_number_91 : decode cX12_number 91 = .ok (.goto 4, 3) := by decide +kernel
theorem dX12_number_94 : decode cX12_number 94 = .ok (.iload_n 3, 1) := by decide +kernel
theorem dX12_number_95 : decode cX12_number 95 = .ok (.ireturn, 1) := by decide +kernel
theorem dX12_numbers_0 : decode cX12_numbers 0 = .ok (.iload_n 0, 1) := by decide +kernel
theorem dX12_numbers_1 : decode cX12_numbers 1 = .ok (.bipush 115, 2) := by decide +kernel
theorem dX12_numbers_3 : decode cX12_numbers 3 = .ok (.if_icmp .ne 7, 3) := by decide +kernel
theorem dX12_numbers_6 : decode cX12_numbers 6 = .ok (.iconst 4, 1) := by decide +kernel
theorem dX12_numbers_7 : decode cX12_numbers 7 = .ok (.goto 36, 3) := by decide +kernel
theorem dX12_numbers_10 : decode cX12_numbers 10 = .ok (.iload_n 0, 1) := by decide +kernel
theorem dX12_numbers_11 : decode cX12_numbers 11 = .ok (.bipush 104, 2) := by decide +kernel
theorem dX12_numbers_13 : decode cX12_numbers 13 = .ok (.if_icmp .ne 7, 3) := by decide +kernel
theorem dX12_numbers_16 : decode cX12_numbers 16 = .ok (.iconst 3, 1) := by decide +kernel
theorem dX12_numbers_17 : decode cX12_numbers 17 = .ok (.goto 26, 3) := by decide +kernel
theorem dX12_numbers_20 : decode cX12_numbers 20 = .ok (.iload_n 0, 1) := by decide +kernel
theorem dX12_numbers_21 : decode cX12_numbers 21 = .ok (.bipush 98, 2) := by decide +kernel
theorem dX12_numbers_23 : decode cX12_numbers 23 = .ok (.if_icmp .eq 15, 3) := by decide +kernel
theorem dX12_numbers_26 : decode cX12_numbers 26 = .ok (.iload_n 0, 1) := by decide +kernel
theorem dX12_numbers_27 : decode cX12_numbers 27 = .ok (.bipush 103, 2) := by decide +kernel
theorem dX12_numbers_29 : decode cX12_numbers 29 = .ok (.if_icmp .eq 9, 3) := by decide +kernel
theorem dX12_numbers_32 : decode cX12_numbers 32 = .ok (.iload_n 0, 1) := by decide +kernel
theorem dX12_numbers_33 : decode cX12_numbers 33 = .ok (.bipush 116, 2) := by decide +kernel
theorem dX12_numbers_35 : decode cX12_numbers 35 = .ok (.if_icmp .ne 7, 3) := by decide +kernel
theorem dX12_numbers_38 : decode cX12_numbers 38 = .ok (.iconst 1, 1) := by decide +kernel
theorem dX12_numbers_39 : decode cX12_numbers 39 = .ok (.goto 4, 3) := by decide +kernel
theorem dX12_numbers_42 : decode cX12_numbers 42 = .ok (.iconst 0, 1) := by decide +kernel
theorem dX12_numbers_43 : decode cX12_numbers 43 = .ok (.ireturn, 1) := by decide +kernel
theorem dX12_reads_0 : decode cX12_reads 0 = .ok (.aload_n 0, 1) := by decide +kernel
theorem dX12_reads_1 : decode cX12_reads 1 = .ok (.getfield 212, 3) := by decide +kernel
theorem dX12_reads_4 : decode cX12_reads 4 = .ok (.aload_n 0, 1) := by decide +kernel
theorem dX12_reads_5 : decode cX12_reads 5 = .ok (.getfield 77, 3) := by decide +kernel
theorem dX12_reads_8 : decode cX12_reads 8 = .ok (.if_icmp .ge 18, 3) := by decide +kernel
theorem dX12_reads_11 : decode cX12_reads 11 = .ok (.aload_n 0, 1) := by decide +kernel
theorem dX12_reads_12 : decode cX12_reads 12 = .ok (.getfield 21, 3) := by decide +kernel
theorem dX12_reads_15 : decode cX12_reads 15 = .ok (.aload_n 0, 1) := by decide +kernel
theorem dX12_reads_16 : decode cX12_reads 16 = .ok (.getfield 212, 3) := by decide +kernel
theorem dX12_reads_19 : decode cX12_reads 19 = .ok (.iaload, 1) := by decide +kernel
theorem dX12_reads_20 : decode cX12_reads 20 = .ok (.invokestatic 221, 3) := by decide +kernel
theorem dX12_reads_23 : decode cX12_reads 23 = .ok (.goto 4, 3) := by decide +kernel
theorem dX12_reads_26 : decode cX12_reads 26 = .ok (.iconst 0, 1) := by decide +kernel
theorem dX12_reads_27 : decode cX12_reads 27 = .ok (.istore_n 1, 1) := by decide +kernel
theorem dX12_reads_28 : decode cX12_reads 28 = .ok (.iload_n 1, 1) := by decide +kernel
theorem dX12_reads_29 : decode cX12_reads 29 = .ok (.ifCond .ne 8, 3) := by decide +kernel
theorem dX12_reads_32 : decode cX12_reads 32 = .ok (.aload_n 0, 1) := by decide +kernel
theorem dX12_reads_33 : decode cX12_reads 33 = .ok (.invokevirtual 218, 3) := by decide +kernel
theorem dX12_reads_36 : decode cX12_reads 36 = .ok (.return_, 1) := by decide +kernel
theorem dX12_reads_37 : decode cX12_reads 37 = .ok (.aload_n 0, 1) := by decide +kernel
theorem dX12_reads_38 : decode cX12_reads 38 = .ok (.getfield 24, 3) := by decide +kernel
theorem dX12_reads_41 : decode cX12_reads 41 = .ok (.iconst 5, 1) := by decide +kernel
theorem dX12_reads_42 : decode cX12_reads 42 = .ok (.aload_n 0, 1) := by decide +kernel
theorem dX12_reads_43 : decode cX12_reads 43 = .ok (.getfield 224, 3) := by decide +kernel
theorem dX12_reads_46 : decode cX12_reads 46 = .ok (.imul, 1) := by decide +kernel
theorem dX12_reads_47 : decode cX12_reads 47 = .ok (.aload_n 0, 1) := by decide +kernel
theorem dX12_reads_48 : decode cX12_reads 48 = .ok (.getfield 212, 3) := by decide +kernel
theorem dX12_reads_51 : decode cX12_reads 51 = .ok (.iastore, 1) := by decide +kernel
theorem dX12_reads_52 : decode cX12_reads 52 = .ok (.aload_n 0, 1) := by decide +kernel
theorem dX12_reads_53 : decode cX12_reads 53 = .ok (.dup, 1) := by decide +kernel
theorem dX12_reads_54 : decode cX12_reads 54 = .ok (.getfield 212, 3) := by decide +kernel
theorem dX12_reads_57 : decode cX12_reads 57 = .ok (.iconst 1, 1) := by decide +kernel
theorem dX12_reads_58 : decode cX12_reads 58 = .ok (.iadd, 1) := by decide +kernel
theorem dX12_reads_59 : decode cX12_reads 59 = .ok (.putfield 212, 3) := by decide +kernel
theorem dX12_reads_62 : decode cX12_reads 62 = .ok (.iconst 0, 1) := by decide +kernel
theorem dX12_reads_63 : decode cX12_reads 63 = .ok (.istore_n 2, 1) := by decide +kernel
theorem dX12_reads_64 : decode cX12_reads 64 = .ok (.iload_n 2, 1) := by decide +kernel
theorem dX12_reads_65 : decode cX12_reads 65 = .ok (.iload_n 1, 1) := by decide +kernel
theorem dX12_reads_66 : decode cX12_reads 66 = .ok (.if_icmp .ge 67, 3) := by decide +kernel
theorem dX12_reads_69 : decode cX12_reads 69 = .ok (.aload_n 0, 1) := by decide +kernel
theorem dX12_reads_70 : decode cX12_reads 70 = .ok (.getfield 209, 3) := by decide +kernel
theorem dX12_reads_73 : decode cX12_reads 73 = .ok (.ifCond .ge 60, 3) := by decide +kernel
theorem dX12_reads_76 : decode cX12_reads 76 = .ok (.iload_n 2, 1) := by decide +kernel
theorem dX12_reads_77 : decode cX12_reads 77 = .ok (.ifCond .le 31, 3) := by decide +kernel
theorem dX12_reads_80 : decode cX12_reads 80 = .ok (.aload_n 0, 1) := by decide +kernel
theorem dX12_reads_81 : decode cX12_reads 81 = .ok (.bipush 44, 2) := by decide +kernel
theorem dX12_reads_83 : decode cX12_reads 83 = .ok (.bipush 44, 2) := by decide +kernel
theorem dX12_reads_85 : decode cX12_reads 85 = .ok (.invokevirtual 215, 3) := by decide +kernel
theorem dX12_reads_88 : decode cX12_reads 88 = .ok (.ifCond .ne 10, 3) := by decide +kernel
theorem dX12_reads_91 : decode cX12_reads 91 = .ok (.aload_n 0, 1) := by decide +kernel
theorem dX12_reads_92 : decode cX12_reads 92 = .ok (.invokevirtual 218, 3) := by decide +kernel
theorem dX12_reads_95 : decode cX12_reads 95 = .ok (.goto 13, 3) := by decide +kernel
theorem dX12_reads_98 : decode cX12_reads 98 = .ok (.aload_n 0, 1) := by decide +kernel
theorem dX12_reads_99 : decode cX12_reads 99 = .ok (.dup, 1) := by decide +kernel
theorem dX12_reads_100 : decode cX12_reads 100 = .ok (.getfield 212, 3) := by decide +kernel
theorem dX12_reads_103 : decode cX12_reads 103 = .ok (.iconst 1, 1) := by decide +kernel
theorem dX12_reads_104 : decode cX12_reads 104 = .ok (.iadd, 1) := by decide +kernel
theorem dX12_reads_105 : decode cX12_reads 105 = .ok (.putfield 212, 3) := by decide +kernel
theorem dX12_reads_108 : decode cX12_reads 108 = .ok (.aload_n 0, 1) := by decide +kernel
theorem dX12_reads_109 : decode cX12_reads 109 = .ok (.getfield 24, 3) := by decide +kernel
theorem dX12_reads_112 : decode cX12_reads 112 = .ok (.iconst 5, 1) := by decide +kernel
theorem dX12_reads_113 : decode cX12_reads 113 = .ok (.aload_n 0, 1) := by decide +kernel
theorem dX12_reads_114 : decode cX12_reads 114 = .ok (.getfield 224, 3) := by decide +kernel
theorem dX12_reads_117 : decode cX12_reads 117 = .ok (.imul, 1) := by decide +kernel
theorem dX12_reads_118 : decode cX12_reads 118 = .ok (.iconst 1, 1) := by decide +kernel
theorem dX12_reads_119 : decode cX12_reads 119 = .ok (.iadd, 1) := by decide +kernel
theorem dX12_reads_120 : decode cX12_reads 120 = .ok (.iload_n 2, 1) := by decide +kernel
theorem dX12_reads_121 : decode cX12_reads 121 = .ok (.iadd, 1) := by decide +kernel
theorem dX12_reads_122 : decode cX12_reads 122 = .ok (.aload_n 0, 1) := by decide +kernel
theorem dX12_reads_123 : decode cX12_reads 123 = .ok (.invokevirtual 227, 3) := by decide +kernel
theorem dX12_reads_126 : decode cX12_reads 126 = .ok (.iastore, 1) := by decide +kernel
theorem dX12_reads_127 : decode cX12_reads 127 = .ok (.iinc 2 1, 3) := by decide +kernel
theorem dX12_reads_130 : decode cX12_reads 130 = .ok (.goto (-66), 3) := by decide +kernel
theorem dX12_reads_133 : decode cX12_reads 133 = .ok (.aload_n 0, 1) := by decide +kernel
theorem dX12_reads_134 : decode cX12_reads 134 = .ok (.dup, 1) := by decide +kernel
theorem dX12_reads_135 : decode cX12_reads 135 = .ok (.getfield 224, 3) := by decide +kernel
theorem dX12_reads_138 : decode cX12_reads 138 = .ok (.iconst 1, 1) := by decide +kernel
theorem dX12_reads_139 : decode cX12_reads 139 = .ok (.iadd, 1) := by decide +kernel
theorem dX12_reads_140 : decode cX12_reads 140 = .ok (.putfield 224, 3) := by decide +kernel
theorem dX12_reads_143 : decode cX12_reads 143 = .ok (.return_, 1) := by decide +kernel
theorem dX12_does_0 : decode cX12_does 0 = .ok (.iconst 5, 1) := by decide +kernel
theorem dX12_does_1 : decode cX12_does 1 = .ok (.iload_n 1, 1) := by decide +kernel
theorem dX12_does_2 : decode cX12_does 2 = .ok (.imul, 1) := by decide +kernel
theorem dX12_does_3 : decode cX12_does 3 = .ok (.istore_n 2, 1) := by decide +kernel
theorem dX12_does_4 : decode cX12_does 4 = .ok (.aload_n 0, 1) := by decide +kernel
theorem dX12_does_5 : decode cX12_does 5 = .ok (.getfield 21, 3) := by decide +kernel
theorem dX12_does_8 : decode cX12_does 8 = .ok (.aload_n 0, 1) := by decide +kernel
theorem dX12_does_9 : decode cX12_does 9 = .ok (.getfield 24, 3) := by decide +kernel
theorem dX12_does_12 : decode cX12_does 12 = .ok (.iload_n 2, 1) := by decide +kernel
theorem dX12_does_13 : decode cX12_does 13 = .ok (.iaload, 1) := by decide +kernel
theorem dX12_does_14 : decode cX12_does 14 = .ok (.iaload, 1) := by decide +kernel
theorem dX12_does_15 : decode cX12_does 15 = .ok (.lookupswitch 166 #[(98, 123), (103, 144), (104, 86), (115, 41)], 41) := by decide +kernel
theorem dX12_does_56 : decode cX12_does 56 = .ok (.aload_n 0, 1) := by decide +kernel
theorem dX12_does_57 : decode cX12_does 57 = .ok (.aload_n 0, 1) := by decide +kernel
theorem dX12_does_58 : decode cX12_does 58 = .ok (.getfield 24, 3) := by decide +kernel
theorem dX12_does_61 : decode cX12_does 61 = .ok (.iload_n 2, 1) := by decide +kernel
theorem dX12_does_62 : decode cX12_does 62 = .ok (.iconst 1, 1) := by decide +kernel
theorem dX12_does_63 : decode cX12_does 63 = .ok (.iadd, 1) := by decide +kernel
theorem dX12_does_64 : decode cX12_does 64 = .ok (.iaload, 1) := by decide +kernel
theorem dX12_does_65 : decode cX12_does 65 = .ok (.aload_n 0, 1) := by decide +kernel
theorem dX12_does_66 : decode cX12_does 66 = .ok (.getfield 24, 3) := by decide +kernel
theorem dX12_does_69 : decode cX12_does 69 = .ok (.iload_n 2, 1) := by decide +kernel
theorem dX12_does_70 : decode cX12_does 70 = .ok (.iconst 2, 1) := by decide +kernel
theorem dX12_does_71 : decode cX12_does 71 = .ok (.iadd, 1) := by decide +kernel
theorem dX12_does_72 : decode cX12_does 72 = .ok (.iaload, 1) := by decide +kernel
theorem dX12_does_73 : decode cX12_does 73 = .ok (.aload_n 0, 1) := by decide +kernel
theorem dX12_does_74 : decode cX12_does 74 = .ok (.getfield 24, 3) := by decide +kernel
theorem dX12_does_77 : decode cX12_does 77 = .ok (.iload_n 2, 1) := by decide +kernel
theorem dX12_does_78 : decode cX12_does 78 = .ok (.iconst 3, 1) := by decide +kernel
theorem dX12_does_79 : decode cX12_does 79 = .ok (.iadd, 1) := by decide +kernel
theorem dX12_does_80 : decode cX12_does 80 = .ok (.iaload, 1) := by decide +kernel
theorem dX12_does_81 : decode cX12_does 81 = .ok (.aload_n 0, 1) := by decide +kernel
theorem dX12_does_82 : decode cX12_does 82 = .ok (.getfield 24, 3) := by decide +kernel
theorem dX12_does_85 : decode cX12_does 85 = .ok (.iload_n 2, 1) := by decide +kernel
theorem dX12_does_86 : decode cX12_does 86 = .ok (.iconst 4, 1) := by decide +kernel
theorem dX12_does_87 : decode cX12_does 87 = .ok (.iadd, 1) := by decide +kernel
theorem dX12_does_88 : decode cX12_does 88 = .ok (.iaload, 1) := by decide +kernel
theorem dX12_does_89 : decode cX12_does 89 = .ok (.invokevirtual 230, 3) := by decide +kernel
theorem dX12_does_92 : decode cX12_does 92 = .ok (.ifCond .lt 7, 3) := by decide +kernel
theorem dX12_does_95 : decode cX12_does 95 = .ok (.iconst 1, 1) := by decide +kernel
theorem dX12_does_96 : decode cX12_does 96 = .ok (.goto 4, 3) := by decide +kernel
theorem dX12_does_99 : decode cX12_does 99 = .ok (.iconst 0, 1) := by decide +kernel
theorem dX12_does_100 : decode cX12_does 100 = .ok (.ireturn, 1) := by decide +kernel
theorem dX12_does_101 : decode cX12_does 101 = .ok (.aload_n 0, 1) := by decide +kernel
theorem dX12_does_102 : decode cX12_does 102 = .ok (.aload_n 0, 1) := by decide +kernel
theorem dX12_does_103 : decode cX12_does 103 = .ok (.getfield 24, 3) := by decide +kernel
theorem dX12_does_106 : decode cX12_does 106 = .ok (.iload_n 2, 1) := by decide +kernel
theorem dX12_does_107 : decode cX12_does 107 = .ok (.iconst 1, 1) := by decide +kernel
theorem dX12_does_108 : decode cX12_does 108 = .ok (.iadd, 1) := by decide +kernel
theorem dX12_does_109 : decode cX12_does 109 = .ok (.iaload, 1) := by decide +kernel
theorem dX12_does_110 : decode cX12_does 110 = .ok (.aload_n 0, 1) := by decide +kernel
theorem dX12_does_111 : decode cX12_does 111 = .ok (.getfield 24, 3) := by decide +kernel
theorem dX12_does_114 : decode cX12_does 114 = .ok (.iload_n 2, 1) := by decide +kernel
theorem dX12_does_115 : decode cX12_does 115 = .ok (.iconst 2, 1) := by decide +kernel
theorem dX12_does_116 : decode cX12_does 116 = .ok (.iadd, 1) := by decide +kernel
theorem dX12_does_117 : decode cX12_does 117 = .ok (.iaload, 1) := by decide +kernel
theorem dX12_does_118 : decode cX12_does 118 = .ok (.aload_n 0, 1) := by decide +kernel
theorem dX12_does_119 : decode cX12_does 119 = .ok (.getfield 24, 3) := by decide +kernel
theorem dX12_does_122 : decode cX12_does 122 = .ok (.iload_n 2, 1) := by decide +kernel
theorem dX12_does_123 : decode cX12_does 123 = .ok (.iconst 3, 1) := by decide +kernel
theorem dX12_does_124 : decode cX12_does 124 = .ok (.iadd, 1) := by decide +kernel
theorem dX12_does_125 : decode cX12_does 125 = .ok (.iaload, 1) := by decide +kernel
theorem dX12_does_126 : decode cX12_does 126 = .ok (.invokevirtual 234, 3) := by decide +kernel
theorem dX12_does_129 : decode cX12_does 129 = .ok (.ifCond .lt 7, 3) := by decide +kernel
theorem dX12_does_132 : decode cX12_does 132 = .ok (.iconst 1, 1) := by decide +kernel
theorem dX12_does_133 : decode cX12_does 133 = .ok (.goto 4, 3) := by decide +kernel
theorem dX12_does_136 : decode cX12_does 136 = .ok (.iconst 0, 1) := by decide +kernel
theorem dX12_does_137 : decode cX12_does 137 = .ok (.ireturn, 1) := by decide +kernel
theorem dX12_does_138 : decode cX12_does 138 = .ok (.aload_n 0, 1) := by decide +kernel
theorem dX12_does_139 : decode cX12_does 139 = .ok (.aload_n 0, 1) := by decide +kernel
theorem dX12_does_140 : decode cX12_does 140 = .ok (.getfield 24, 3) := by decide +kernel
theorem dX12_does_143 : decode cX12_does 143 = .ok (.iload_n 2, 1) := by decide +kernel
theorem dX12_does_144 : decode cX12_does 144 = .ok (.iconst 1, 1) := by decide +kernel
theorem dX12_does_145 : decode cX12_does 145 = .ok (.iadd, 1) := by decide +kernel
theorem dX12_does_146 : decode cX12_does 146 = .ok (.iaload, 1) := by decide +kernel
theorem dX12_does_147 : decode cX12_does 147 = .ok (.invokevirtual 237, 3) := by decide +kernel
theorem dX12_does_150 : decode cX12_does 150 = .ok (.ifCond .lt 7, 3) := by decide +kernel
theorem dX12_does_153 : decode cX12_does 153 = .ok (.iconst 1, 1) := by decide +kernel
theorem dX12_does_154 : decode cX12_does 154 = .ok (.goto 4, 3) := by decide +kernel
theorem dX12_does_157 : decode cX12_does 157 = .ok (.iconst 0, 1) := by decide +kernel
theorem dX12_does_158 : decode cX12_does 158 = .ok (.ireturn, 1) := by decide +kernel
theorem dX12_does_159 : decode cX12_does 159 = .ok (.aload_n 0, 1) := by decide +kernel
theorem dX12_does_160 : decode cX12_does 160 = .ok (.iconst 0, 1) := by decide +kernel
theorem dX12_does_161 : decode cX12_does 161 = .ok (.aload_n 0, 1) := by decide +kernel
theorem dX12_does_162 : decode cX12_does 162 = .ok (.getfield 24, 3) := by decide +kernel
theorem dX12_does_165 : decode cX12_does 165 = .ok (.iload_n 2, 1) := by decide +kernel
theorem dX12_does_166 : decode cX12_does 166 = .ok (.iconst 1, 1) := by decide +kernel
theorem dX12_does_167 : decode cX12_does 167 = .ok (.iadd, 1) := by decide +kernel
theorem dX12_does_168 : decode cX12_does 168 = .ok (.iaload, 1) := by decide +kernel
theorem dX12_does_169 : decode cX12_does 169 = .ok (.invokevirtual 240, 3) := by decide +kernel
theorem dX12_does_172 : decode cX12_does 172 = .ok (.ifCond .lt 7, 3) := by decide +kernel
theorem dX12_does_175 : decode cX12_does 175 = .ok (.iconst 1, 1) := by decide +kernel
theorem dX12_does_176 : decode cX12_does 176 = .ok (.goto 4, 3) := by decide +kernel
theorem dX12_does_179 : decode cX12_does 179 = .ok (.iconst 0, 1) := by decide +kernel
theorem dX12_does_180 : decode cX12_does 180 = .ok (.ireturn, 1) := by decide +kernel
theorem dX12_does_181 : decode cX12_does 181 = .ok (.aload_n 0, 1) := by decide +kernel
theorem dX12_does_182 : decode cX12_does 182 = .ok (.iconst 2, 1) := by decide +kernel
theorem dX12_does_183 : decode cX12_does 183 = .ok (.aload_n 0, 1) := by decide +kernel
theorem dX12_does_184 : decode cX12_does 184 = .ok (.getfield 24, 3) := by decide +kernel
theorem dX12_does_187 : decode cX12_does 187 = .ok (.iload_n 2, 1) := by decide +kernel
theorem dX12_does_188 : decode cX12_does 188 = .ok (.iconst 1, 1) := by decide +kernel
theorem dX12_does_189 : decode cX12_does 189 = .ok (.iadd, 1) := by decide +kernel
theorem dX12_does_190 : decode cX12_does 190 = .ok (.iaload, 1) := by decide +kernel
theorem dX12_does_191 : decode cX12_does 191 = .ok (.invokevirtual 240, 3) := by decide +kernel
theorem dX12_does_194 : decode cX12_does 194 = .ok (.ifCond .lt 7, 3) := by decide +kernel
theorem dX12_does_197 : decode cX12_does 197 = .ok (.iconst 1, 1) := by decide +kernel
theorem dX12_does_198 : decode cX12_does 198 = .ok (.goto 4, 3) := by decide +kernel
theorem dX12_does_201 : decode cX12_does 201 = .ok (.iconst 0, 1) := by decide +kernel
theorem dX12_does_202 : decode cX12_does 202 = .ok (.ireturn, 1) := by decide +kernel
theorem dX12_read_0 : decode cX12_read 0 = .ok (.aload_n 0, 1) := by decide +kernel
theorem dX12_read_1 : decode cX12_read 1 = .ok (.iconst 0, 1) := by decide +kernel
theorem dX12_read_2 : decode cX12_read 2 = .ok (.putfield 212, 3) := by decide +kernel
theorem dX12_read_5 : decode cX12_read 5 = .ok (.aload_n 0, 1) := by decide +kernel
theorem dX12_read_6 : decode cX12_read 6 = .ok (.iconst (-1), 1) := by decide +kernel
theorem dX12_read_7 : decode cX12_read 7 = .ok (.putfield 209, 3) := by decide +kernel
theorem dX12_read_10 : decode cX12_read 10 = .ok (.aload_n 0, 1) := by decide +kernel
theorem dX12_read_11 : decode cX12_read 11 = .ok (.iconst 0, 1) := by decide +kernel
theorem dX12_read_12 : decode cX12_read 12 = .ok (.putfield 224, 3) := by decide +kernel
theorem dX12_read_15 : decode cX12_read 15 = .ok (.aload_n 0, 1) := by decide +kernel
theorem dX12_read_16 : decode cX12_read 16 = .ok (.invokevirtual 243, 3) := by decide +kernel
theorem dX12_read_19 : decode cX12_read 19 = .ok (.aload_n 0, 1) := by decide +kernel
theorem dX12_read_20 : decode cX12_read 20 = .ok (.bipush 59, 2) := by decide +kernel
theorem dX12_read_22 : decode cX12_read 22 = .ok (.bipush 59, 2) := by decide +kernel
theorem dX12_read_24 : decode cX12_read 24 = .ok (.invokevirtual 215, 3) := by decide +kernel
theorem dX12_read_27 : decode cX12_read 27 = .ok (.ifCond .eq 20, 3) := by decide +kernel
theorem dX12_read_30 : decode cX12_read 30 = .ok (.aload_n 0, 1) := by decide +kernel
theorem dX12_read_31 : decode cX12_read 31 = .ok (.dup, 1) := by decide +kernel
theorem dX12_read_32 : decode cX12_read 32 = .ok (.getfield 212, 3) := by decide +kernel
theorem dX12_read_35 : decode cX12_read 35 = .ok (.iconst 1, 1) := by decide +kernel
theorem dX12_read_36 : decode cX12_read 36 = .ok (.iadd, 1) := by decide +kernel
theorem dX12_read_37 : decode cX12_read 37 = .ok (.putfield 212, 3) := by decide +kernel
theorem dX12_read_40 : decode cX12_read 40 = .ok (.aload_n 0, 1) := by decide +kernel
theorem dX12_read_41 : decode cX12_read 41 = .ok (.invokevirtual 243, 3) := by decide +kernel
theorem dX12_read_44 : decode cX12_read 44 = .ok (.goto (-25), 3) := by decide +kernel
theorem dX12_read_47 : decode cX12_read 47 = .ok (.aload_n 0, 1) := by decide +kernel
theorem dX12_read_48 : decode cX12_read 48 = .ok (.getfield 209, 3) := by decide +kernel
theorem dX12_read_51 : decode cX12_read 51 = .ok (.ifCond .ge 18, 3) := by decide +kernel
theorem dX12_read_54 : decode cX12_read 54 = .ok (.aload_n 0, 1) := by decide +kernel
theorem dX12_read_55 : decode cX12_read 55 = .ok (.getfield 212, 3) := by decide +kernel
theorem dX12_read_58 : decode cX12_read 58 = .ok (.aload_n 0, 1) := by decide +kernel
theorem dX12_read_59 : decode cX12_read 59 = .ok (.getfield 77, 3) := by decide +kernel
theorem dX12_read_62 : decode cX12_read 62 = .ok (.if_icmp .ge 7, 3) := by decide +kernel
theorem dX12_read_65 : decode cX12_read 65 = .ok (.aload_n 0, 1) := by decide +kernel
theorem dX12_read_66 : decode cX12_read 66 = .ok (.invokevirtual 218, 3) := by decide +kernel
theorem dX12_read_69 : decode cX12_read 69 = .ok (.aload_n 0, 1) := by decide +kernel
theorem dX12_read_70 : decode cX12_read 70 = .ok (.iconst 0, 1) := by decide +kernel
theorem dX12_read_71 : decode cX12_read 71 = .ok (.putfield 77, 3) := by decide +kernel
theorem dX12_read_74 : decode cX12_read 74 = .ok (.aload_n 0, 1) := by decide +kernel
theorem dX12_read_75 : decode cX12_read 75 = .ok (.getfield 209, 3) := by decide +kernel
theorem dX12_read_78 : decode cX12_read 78 = .ok (.ifCond .lt 11, 3) := by decide +kernel
theorem dX12_read_81 : decode cX12_read 81 = .ok (.bipush (-100), 2) := by decide +kernel
theorem dX12_read_83 : decode cX12_read 83 = .ok (.aload_n 0, 1) := by decide +kernel
theorem dX12_read_84 : decode cX12_read 84 = .ok (.getfield 209, 3) := by decide +kernel
theorem dX12_read_87 : decode cX12_read 87 = .ok (.isub, 1) := by decide +kernel
theorem dX12_read_88 : decode cX12_read 88 = .ok (.ireturn, 1) := by decide +kernel
theorem dX12_read_89 : decode cX12_read 89 = .ok (.aload_n 0, 1) := by decide +kernel
theorem dX12_read_90 : decode cX12_read 90 = .ok (.getfield 9, 3) := by decide +kernel
theorem dX12_read_93 : decode cX12_read 93 = .ok (.aload_n 0, 1) := by decide +kernel
theorem dX12_read_94 : decode cX12_read 94 = .ok (.getfield 18, 3) := by decide +kernel
theorem dX12_read_97 : decode cX12_read 97 = .ok (.invokestatic 246, 3) := by decide +kernel
theorem dX12_read_100 : decode cX12_read 100 = .ok (.iconst 0, 1) := by decide +kernel
theorem dX12_read_101 : decode cX12_read 101 = .ok (.istore_n 1, 1) := by decide +kernel
theorem dX12_read_102 : decode cX12_read 102 = .ok (.iload_n 1, 1) := by decide +kernel
theorem dX12_read_103 : decode cX12_read 103 = .ok (.aload_n 0, 1) := by decide +kernel
theorem dX12_read_104 : decode cX12_read 104 = .ok (.getfield 224, 3) := by decide +kernel
theorem dX12_read_107 : decode cX12_read 107 = .ok (.if_icmp .ge 41, 3) := by decide +kernel
theorem dX12_read_110 : decode cX12_read 110 = .ok (.aload_n 0, 1) := by decide +kernel
theorem dX12_read_111 : decode cX12_read 111 = .ok (.iload_n 1, 1) := by decide +kernel
theorem dX12_read_112 : decode cX12_read 112 = .ok (.invokevirtual 250, 3) := by decide +kernel
theorem dX12_read_115 : decode cX12_read 115 = .ok (.ifCond .ne 27, 3) := by decide +kernel
theorem dX12_read_118 : decode cX12_read 118 = .ok (.aload_n 0, 1) := by decide +kernel
theorem dX12_read_119 : decode cX12_read 119 = .ok (.getfield 18, 3) := by decide +kernel
theorem dX12_read_122 : decode cX12_read 122 = .ok (.aload_n 0, 1) := by decide +kernel
theorem dX12_read_123 : decode cX12_read 123 = .ok (.getfield 9, 3) := by decide +kernel
theorem dX12_read_126 : decode cX12_read 126 = .ok (.invokestatic 246, 3) := by decide +kernel
theorem dX12_read_129 : decode cX12_read 129 = .ok (.sipush (-300), 3) := by decide +kernel
theorem dX12_read_132 : decode cX12_read 132 = .ok (.aload_n 0, 1) := by decide +kernel
theorem dX12_read_133 : decode cX12_read 133 = .ok (.getfield 24, 3) := by decide +kernel
theorem dX12_read_136 : decode cX12_read 136 = .ok (.iconst 5, 1) := by decide +kernel
theorem dX12_read_137 : decode cX12_read 137 = .ok (.iload_n 1, 1) := by decide +kernel
theorem dX12_read_138 : decode cX12_read 138 = .ok (.imul, 1) := by decide +kernel
theorem dX12_read_139 : decode cX12_read 139 = .ok (.iaload, 1) := by decide +kernel
theorem dX12_read_140 : decode cX12_read 140 = .ok (.isub, 1) := by decide +kernel
theorem dX12_read_141 : decode cX12_read 141 = .ok (.ireturn, 1) := by decide +kernel
theorem dX12_read_142 : decode cX12_read 142 = .ok (.iinc 1 1, 3) := by decide +kernel
theorem dX12_read_145 : decode cX12_read 145 = .ok (.goto (-43), 3) := by decide +kernel
theorem dX12_read_148 : decode cX12_read 148 = .ok (.aload_n 0, 1) := by decide +kernel
theorem dX12_read_149 : decode cX12_read 149 = .ok (.dup, 1) := by decide +kernel
theorem dX12_read_150 : decode cX12_read 150 = .ok (.getfield 80, 3) := by decide +kernel
theorem dX12_read_153 : decode cX12_read 153 = .ok (.iconst 1, 1) := by decide +kernel
theorem dX12_read_154 : decode cX12_read 154 = .ok (.iadd, 1) := by decide +kernel
theorem dX12_read_155 : decode cX12_read 155 = .ok (.putfield 80, 3) := by decide +kernel
theorem dX12_read_158 : decode cX12_read 158 = .ok (.aload_n 0, 1) := by decide +kernel
theorem dX12_read_159 : decode cX12_read 159 = .ok (.getfield 224, 3) := by decide +kernel
theorem dX12_read_162 : decode cX12_read 162 = .ok (.ireturn, 1) := by decide +kernel
theorem dX12_isPeg_0 : decode cX12_isPeg 0 = .ok (.iload_n 0, 1) := by decide +kernel
theorem dX12_isPeg_1 : decode cX12_isPeg 1 = .ok (.iconst 0, 1) := by decide +kernel
theorem dX12_isPeg_2 : decode cX12_isPeg 2 = .ok (.iconst 5, 1) := by decide +kernel
theorem dX12_isPeg_3 : decode cX12_isPeg 3 = .ok (.invokestatic 58, 3) := by decide +kernel
theorem dX12_isPeg_6 : decode cX12_isPeg 6 = .ok (.ireturn, 1) := by decide +kernel
theorem dX12_hang_0 : decode cX12_hang 0 = .ok (.iload_n 1, 1) := by decide +kernel
theorem dX12_hang_1 : decode cX12_hang 1 = .ok (.invokestatic 253, 3) := by decide +kernel
theorem dX12_hang_4 : decode cX12_hang 4 = .ok (.ifCond .ne 5, 3) := by decide +kernel
theorem dX12_hang_7 : decode cX12_hang 7 = .ok (.iconst (-1), 1) := by decide +kernel
theorem dX12_hang_8 : decode cX12_hang 8 = .ok (.ireturn, 1) := by decide +kernel
theorem dX12_hang_9 : decode cX12_hang 9 = .ok (.iload_n 2, 1) := by decide +kernel
theorem dX12_hang_10 : decode cX12_hang 10 = .ok (.iconst 0, 1) := by decide +kernel
theorem dX12_hang_11 : decode cX12_hang 11 = .ok (.iconst 3, 1) := by decide +kernel
theorem dX12_hang_12 : decode cX12_hang 12 = .ok (.invokestatic 58, 3) := by decide +kernel
theorem dX12_hang_15 : decode cX12_hang 15 = .ok (.ifCond .ne 6, 3) := by decide +kernel
theorem dX12_hang_18 : decode cX12_hang 18 = .ok (.bipush (-2), 2) := by decide +kernel
theorem dX12_hang_20 : decode cX12_hang 20 = .ok (.ireturn, 1) := by decide +kernel
theorem dX12_hang_21 : decode cX12_hang 21 = .ok (.iload_n 2, 1) := by decide +kernel
theorem dX12_hang_22 : decode cX12_hang 22 = .ok (.iconst 3, 1) := by decide +kernel
theorem dX12_hang_23 : decode cX12_hang 23 = .ok (.if_icmp .ge 23, 3) := by decide +kernel
theorem dX12_hang_26 : decode cX12_hang 26 = .ok (.iload_n 3, 1) := by decide +kernel
theorem dX12_hang_27 : decode cX12_hang 27 = .ok (.iconst 0, 1) := by decide +kernel
theorem dX12_hang_28 : decode cX12_hang 28 = .ok (.aload_n 0, 1) := by decide +kernel
theorem dX12_hang_29 : decode cX12_hang 29 = .ok (.getfield 9, 3) := by decide +kernel
theorem dX12_hang_32 : decode cX12_hang 32 = .ok (.iconst 4, 1) := by decide +kernel
theorem dX12_hang_33 : decode cX12_hang 33 = .ok (.iload_n 2, 1) := by decide +kernel
theorem dX12_hang_34 : decode cX12_hang 34 = .ok (.iadd, 1) := by decide +kernel
theorem dX12_hang_35 : decode cX12_hang 35 = .ok (.iaload, 1) := by decide +kernel
theorem dX12_hang_36 : decode cX12_hang 36 = .ok (.iconst 1, 1) := by decide +kernel
theorem dX12_hang_37 : decode cX12_hang 37 = .ok (.isub, 1) := by decide +kernel
theorem dX12_hang_38 : decode cX12_hang 38 = .ok (.invokestatic 58, 3) := by decide +kernel
theorem dX12_hang_41 : decode cX12_hang 41 = .ok (.ifCond .ne 5, 3) := by decide +kernel
theorem dX12_hang_44 : decode cX12_hang 44 = .ok (.iconst (-1), 1) := by decide +kernel
theorem dX12_hang_45 : decode cX12_hang 45 = .ok (.ireturn, 1) := by decide +kernel
theorem dX12_hang_46 : decode cX12_hang 46 = .ok (.aload_n 0, 1) := by decide +kernel
theorem dX12_hang_47 : decode cX12_hang 47 = .ok (.getfield 39, 3) := by decide +kernel
theorem dX12_hang_50 : decode cX12_hang 50 = .ok (.iload_n 1, 1) := by decide +kernel
theorem dX12_hang_51 : decode cX12_hang 51 = .ok (.iload_n 2, 1) := by decide +kernel
theorem dX12_hang_52 : decode cX12_hang 52 = .ok (.iconst 3, 1) := by decide +kernel
theorem dX12_hang_53 : decode cX12_hang 53 = .ok (.if_icmp .ne 7, 3) := by decide +kernel
theorem dX12_hang_56 : decode cX12_hang 56 = .ok (.iconst 0, 1) := by decide +kernel
theorem dX12_hang_57 : decode cX12_hang 57 = .ok (.goto 6, 3) := by decide +kernel
theorem dX12_hang_60 : decode cX12_hang 60 = .ok (.iload_n 2, 1) := by decide +kernel
theorem dX12_hang_61 : decode cX12_hang 61 = .ok (.iconst 1, 1) := by decide +kernel
theorem dX12_hang_62 : decode cX12_hang 62 = .ok (.iadd, 1) := by decide +kernel
theorem dX12_hang_63 : decode cX12_hang 63 = .ok (.iastore, 1) := by decide +kernel
theorem dX12_hang_64 : decode cX12_hang 64 = .ok (.iload_n 2, 1) := by decide +kernel
theorem dX12_hang_65 : decode cX12_hang 65 = .ok (.iconst 3, 1) := by decide +kernel
theorem dX12_hang_66 : decode cX12_hang 66 = .ok (.if_icmp .ne 5, 3) := by decide +kernel
theorem dX12_hang_69 : decode cX12_hang 69 = .ok (.iconst 1, 1) := by decide +kernel
theorem dX12_hang_70 : decode cX12_hang 70 = .ok (.ireturn, 1) := by decide +kernel
theorem dX12_hang_71 : decode cX12_hang 71 = .ok (.aload_n 0, 1) := by decide +kernel
theorem dX12_hang_72 : decode cX12_hang 72 = .ok (.getfield 42, 3) := by decide +kernel
theorem dX12_hang_75 : decode cX12_hang 75 = .ok (.iload_n 1, 1) := by decide +kernel
theorem dX12_hang_76 : decode cX12_hang 76 = .ok (.iload_n 2, 1) := by decide +kernel
theorem dX12_hang_77 : decode cX12_hang 77 = .ok (.ifCond .ne 15, 3) := by decide +kernel
theorem dX12_hang_80 : decode cX12_hang 80 = .ok (.aload_n 0, 1) := by decide +kernel
theorem dX12_hang_81 : decode cX12_hang 81 = .ok (.getfield 9, 3) := by decide +kernel
theorem dX12_hang_84 : decode cX12_hang 84 = .ok (.bipush 7, 2) := by decide +kernel
theorem dX12_hang_86 : decode cX12_hang 86 = .ok (.iload_n 3, 1) := by decide +kernel
theorem dX12_hang_87 : decode cX12_hang 87 = .ok (.iadd, 1) := by decide +kernel
theorem dX12_hang_88 : decode cX12_hang 88 = .ok (.iaload, 1) := by decide +kernel
theorem dX12_hang_89 : decode cX12_hang 89 = .ok (.goto 21, 3) := by decide +kernel
theorem dX12_hang_92 : decode cX12_hang 92 = .ok (.iload_n 2, 1) := by decide +kernel
theorem dX12_hang_93 : decode cX12_hang 93 = .ok (.iconst 1, 1) := by decide +kernel
theorem dX12_hang_94 : decode cX12_hang 94 = .ok (.if_icmp .ne 15, 3) := by decide +kernel
theorem dX12_hang_97 : decode cX12_hang 97 = .ok (.aload_n 0, 1) := by decide +kernel
theorem dX12_hang_98 : decode cX12_hang 98 = .ok (.getfield 9, 3) := by decide +kernel
theorem dX12_hang_101 : decode cX12_hang 101 = .ok (.bipush 52, 2) := by decide +kernel
theorem dX12_hang_103 : decode cX12_hang 103 = .ok (.iload_n 3, 1) := by decide +kernel
theorem dX12_hang_104 : decode cX12_hang 104 = .ok (.iadd, 1) := by decide +kernel
theorem dX12_hang_105 : decode cX12_hang 105 = .ok (.iaload, 1) := by decide +kernel
theorem dX12_hang_106 : decode cX12_hang 106 = .ok (.goto 4, 3) := by decide +kernel
theorem dX12_hang_109 : decode cX12_hang 109 = .ok (.iconst 0, 1) := by decide +kernel
theorem dX12_hang_110 : decode cX12_hang 110 = .ok (.iastore, 1) := by decide +kernel
theorem dX12_hang_111 : decode cX12_hang 111 = .ok (.aload_n 0, 1) := by decide +kernel
theorem dX12_hang_112 : decode cX12_hang 112 = .ok (.getfield 45, 3) := by decide +kernel
theorem dX12_hang_115 : decode cX12_hang 115 = .ok (.iload_n 1, 1) := by decide +kernel
theorem dX12_hang_116 : decode cX12_hang 116 = .ok (.iload_n 2, 1) := by decide +kernel
theorem dX12_hang_117 : decode cX12_hang 117 = .ok (.ifCond .ne 15, 3) := by decide +kernel
theorem dX12_hang_120 : decode cX12_hang 120 = .ok (.aload_n 0, 1) := by decide +kernel
theorem dX12_hang_121 : decode cX12_hang 121 = .ok (.getfield 9, 3) := by decide +kernel
theorem dX12_hang_124 : decode cX12_hang 124 = .ok (.bipush 16, 2) := by decide +kernel
theorem dX12_hang_126 : decode cX12_hang 126 = .ok (.iload_n 3, 1) := by decide +kernel
theorem dX12_hang_127 : decode cX12_hang 127 = .ok (.iadd, 1) := by decide +kernel
theorem dX12_hang_128 : decode cX12_hang 128 = .ok (.iaload, 1) := by decide +kernel
theorem dX12_hang_129 : decode cX12_hang 129 = .ok (.goto 29, 3) := by decide +kernel
theorem dX12_hang_132 : decode cX12_hang 132 = .ok (.iload_n 2, 1) := by decide +kernel
theorem dX12_hang_133 : decode cX12_hang 133 = .ok (.iconst 1, 1) := by decide +kernel
theorem dX12_hang_134 : decode cX12_hang 134 = .ok (.if_icmp .ne 15, 3) := by decide +kernel
theorem dX12_hang_137 : decode cX12_hang 137 = .ok (.aload_n 0, 1) := by decide +kernel
theorem dX12_hang_138 : decode cX12_hang 138 = .ok (.getfield 9, 3) := by decide +kernel
theorem dX12_hang_141 : decode cX12_hang 141 = .ok (.bipush 58, 2) := by decide +kernel
theorem dX12_hang_143 : decode cX12_hang 143 = .ok (.iload_n 3, 1) := by decide +kernel
theorem dX12_hang_144 : decode cX12_hang 144 = .ok (.iadd, 1) := by decide +kernel
theorem dX12_hang_145 : decode cX12_hang 145 = .ok (.iaload, 1) := by decide +kernel
theorem dX12_hang_146 : decode cX12_hang 146 = .ok (.goto 12, 3) := by decide +kernel
theorem dX12_hang_149 : decode cX12_hang 149 = .ok (.aload_n 0, 1) := by decide +kernel
theorem dX12_hang_150 : decode cX12_hang 150 = .ok (.getfield 9, 3) := by decide +kernel
theorem dX12_hang_153 : decode cX12_hang 153 = .ok (.bipush 70, 2) := by decide +kernel
theorem dX12_hang_155 : decode cX12_hang 155 = .ok (.iload_n 3, 1) := by decide +kernel
theorem dX12_hang_156 : decode cX12_hang 156 = .ok (.iadd, 1) := by decide +kernel
theorem dX12_hang_157 : decode cX12_hang 157 = .ok (.iaload, 1) := by decide +kernel
theorem dX12_hang_158 : decode cX12_hang 158 = .ok (.iastore, 1) := by decide +kernel
theorem dX12_hang_159 : decode cX12_hang 159 = .ok (.aload_n 0, 1) := by decide +kernel
theorem dX12_hang_160 : decode cX12_hang 160 = .ok (.getfield 48, 3) := by decide +kernel
theorem dX12_hang_163 : decode cX12_hang 163 = .ok (.iload_n 1, 1) := by decide +kernel
theorem dX12_hang_164 : decode cX12_hang 164 = .ok (.iload_n 2, 1) := by decide +kernel
theorem dX12_hang_165 : decode cX12_hang 165 = .ok (.ifCond .ne 15, 3) := by decide +kernel
theorem dX12_hang_168 : decode cX12_hang 168 = .ok (.aload_n 0, 1) := by decide +kernel
theorem dX12_hang_169 : decode cX12_hang 169 = .ok (.getfield 9, 3) := by decide +kernel
theorem dX12_hang_172 : decode cX12_hang 172 = .ok (.bipush 43, 2) := by decide +kernel
theorem dX12_hang_174 : decode cX12_hang 174 = .ok (.iload_n 3, 1) := by decide +kernel
theorem dX12_hang_175 : decode cX12_hang 175 = .ok (.iadd, 1) := by decide +kernel
theorem dX12_hang_176 : decode cX12_hang 176 = .ok (.iaload, 1) := by decide +kernel
theorem dX12_hang_177 : decode cX12_hang 177 = .ok (.goto 4, 3) := by decide +kernel
theorem dX12_hang_180 : decode cX12_hang 180 = .ok (.iconst 0, 1) := by decide +kernel
theorem dX12_hang_181 : decode cX12_hang 181 = .ok (.iastore, 1) := by decide +kernel
theorem dX12_hang_182 : decode cX12_hang 182 = .ok (.iconst 1, 1) := by decide +kernel
theorem dX12_hang_183 : decode cX12_hang 183 = .ok (.ireturn, 1) := by decide +kernel
theorem dX12_tray_0 : decode cX12_tray 0 = .ok (.iload_n 1, 1) := by decide +kernel
theorem dX12_tray_1 : decode cX12_tray 1 = .ok (.invokestatic 253, 3) := by decide +kernel
theorem dX12_tray_4 : decode cX12_tray 4 = .ok (.ifCond .ne 5, 3) := by decide +kernel
theorem dX12_tray_7 : decode cX12_tray 7 = .ok (.iconst (-1), 1) := by decide +kernel
theorem dX12_tray_8 : decode cX12_tray 8 = .ok (.ireturn, 1) := by decide +kernel
theorem dX12_tray_9 : decode cX12_tray 9 = .ok (.iload_n 2, 1) := by decide +kernel
theorem dX12_tray_10 : decode cX12_tray 10 = .ok (.iconst 0, 1) := by decide +kernel
theorem dX12_tray_11 : decode cX12_tray 11 = .ok (.iconst 1, 1) := by decide +kernel
theorem dX12_tray_12 : decode cX12_tray 12 = .ok (.invokestatic 58, 3) := by decide +kernel
theorem dX12_tray_15 : decode cX12_tray 15 = .ok (.ifCond .eq 9, 3) := by decide +kernel
theorem dX12_tray_18 : decode cX12_tray 18 = .ok (.iload_n 3, 1) := by decide +kernel
theorem dX12_tray_19 : decode cX12_tray 19 = .ok (.bipush 30, 2) := by decide +kernel
theorem dX12_tray_21 : decode cX12_tray 21 = .ok (.if_icmp .le 6, 3) := by decide +kernel
theorem dX12_tray_24 : decode cX12_tray 24 = .ok (.bipush (-2), 2) := by decide +kernel
theorem dX12_tray_26 : decode cX12_tray 26 = .ok (.ireturn, 1) := by decide +kernel
theorem dX12_tray_27 : decode cX12_tray 27 = .ok (.iload_n 3, 1) := by decide +kernel
theorem dX12_tray_28 : decode cX12_tray 28 = .ok (.ifCond .ge 6, 3) := by decide +kernel
theorem dX12_tray_31 : decode cX12_tray 31 = .ok (.bipush (-14), 2) := by decide +kernel
theorem dX12_tray_33 : decode cX12_tray 33 = .ok (.ireturn, 1) := by decide +kernel
theorem dX12_tray_34 : decode cX12_tray 34 = .ok (.aload_n 0, 1) := by decide +kernel
theorem dX12_tray_35 : decode cX12_tray 35 = .ok (.getfield 39, 3) := by decide +kernel
theorem dX12_tray_38 : decode cX12_tray 38 = .ok (.iload_n 1, 1) := by decide +kernel
theorem dX12_tray_39 : decode cX12_tray 39 = .ok (.iconst 4, 1) := by decide +kernel
theorem dX12_tray_40 : decode cX12_tray 40 = .ok (.iload_n 2, 1) := by decide +kernel
theorem dX12_tray_41 : decode cX12_tray 41 = .ok (.iadd, 1) := by decide +kernel
theorem dX12_tray_42 : decode cX12_tray 42 = .ok (.iastore, 1) := by decide +kernel
theorem dX12_tray_43 : decode cX12_tray 43 = .ok (.aload_n 0, 1) := by decide +kernel
theorem dX12_tray_44 : decode cX12_tray 44 = .ok (.getfield 45, 3) := by decide +kernel
theorem dX12_tray_47 : decode cX12_tray 47 = .ok (.iload_n 1, 1) := by decide +kernel
theorem dX12_tray_48 : decode cX12_tray 48 = .ok (.iload_n 3, 1) := by decide +kernel
theorem dX12_tray_49 : decode cX12_tray 49 = .ok (.iastore, 1) := by decide +kernel
theorem dX12_tray_50 : decode cX12_tray 50 = .ok (.iconst 0, 1) := by decide +kernel
theorem dX12_tray_51 : decode cX12_tray 51 = .ok (.istore 4, 2) := by decide +kernel
theorem dX12_tray_53 : decode cX12_tray 53 = .ok (.iload 4, 2) := by decide +kernel
theorem dX12_tray_55 : decode cX12_tray 55 = .ok (.bipush 30, 2) := by decide +kernel
theorem dX12_tray_57 : decode cX12_tray 57 = .ok (.if_icmp .ge 22, 3) := by decide +kernel
theorem dX12_tray_60 : decode cX12_tray 60 = .ok (.aload_n 0, 1) := by decide +kernel
theorem dX12_tray_61 : decode cX12_tray 61 = .ok (.getfield 51, 3) := by decide +kernel
theorem dX12_tray_64 : decode cX12_tray 64 = .ok (.bipush 30, 2) := by decide +kernel
theorem dX12_tray_66 : decode cX12_tray 66 = .ok (.iload_n 1, 1) := by decide +kernel
theorem dX12_tray_67 : decode cX12_tray 67 = .ok (.imul, 1) := by decide +kernel
theorem dX12_tray_68 : decode cX12_tray 68 = .ok (.iload 4, 2) := by decide +kernel
theorem dX12_tray_70 : decode cX12_tray 70 = .ok (.iadd, 1) := by decide +kernel
theorem dX12_tray_71 : decode cX12_tray 71 = .ok (.lconst 0, 1) := by decide +kernel
theorem dX12_tray_72 : decode cX12_tray 72 = .ok (.lastore, 1) := by decide +kernel
theorem dX12_tray_73 : decode cX12_tray 73 = .ok (.iinc 4 1, 3) := by decide +kernel
theorem dX12_tray_76 : decode cX12_tray 76 = .ok (.goto (-23), 3) := by decide +kernel
theorem dX12_tray_79 : decode cX12_tray 79 = .ok (.iconst 1, 1) := by decide +kernel
theorem dX12_tray_80 : decode cX12_tray 80 = .ok (.ireturn, 1) := by decide +kernel
theorem dX12_held_0 : decode cX12_held 0 = .ok (.iload_n 1, 1) := by decide +kernel
theorem dX12_held_1 : decode cX12_held 1 = .ok (.invokestatic 253, 3) := by decide +kernel
theorem dX12_held_4 : decode cX12_held 4 = .ok (.ifCond .eq 12, 3) := by decide +kernel
theorem dX12_held_7 : decode cX12_held 7 = .ok (.aload_n 0, 1) := by decide +kernel
theorem dX12_held_8 : decode cX12_held 8 = .ok (.getfield 39, 3) := by decide +kernel
theorem dX12_held_11 : decode cX12_held 11 = .ok (.iload_n 1, 1) := by decide +kernel
theorem dX12_held_12 : decode cX12_held 12 = .ok (.iaload, 1) := by decide +kernel
theorem dX12_held_13 : decode cX12_held 13 = .ok (.goto 4, 3) := by decide +kernel
theorem dX12_held_16 : decode cX12_held 16 = .ok (.iconst (-1), 1) := by decide +kernel
theorem dX12_held_17 : decode cX12_held 17 = .ok (.ireturn, 1) := by decide +kernel
theorem dX12_isUnder_0 : decode cX12_isUnder 0 = .ok (.iload_n 2, 1) := by decide +kernel
theorem dX12_isUnder_1 : decode cX12_isUnder 1 = .ok (.ifCond .eq 8, 3) := by decide +kernel
theorem dX12_isUnder_4 : decode cX12_isUnder 4 = .ok (.iload_n 1, 1) := by decide +kernel
theorem dX12_isUnder_5 : decode cX12_isUnder 5 = .ok (.iload_n 2, 1) := by decide +kernel
theorem dX12_isUnder_6 : decode cX12_isUnder 6 = .ok (.if_icmp .ne 5, 3) := by decide +kernel
theorem dX12_isUnder_9 : decode cX12_isUnder 9 = .ok (.iconst 1, 1) := by decide +kernel
theorem dX12_isUnder_10 : decode cX12_isUnder 10 = .ok (.ireturn, 1) := by decide +kernel
theorem dX12_isUnder_11 : decode cX12_isUnder 11 = .ok (.iload_n 0, 1) := by decide +kernel
theorem dX12_isUnder_12 : decode cX12_isUnder 12 = .ok (.ifCond .ne 31, 3) := by decide +kernel
theorem dX12_isUnder_15 : decode cX12_isUnder 15 = .ok (.iload_n 2, 1) := by decide +kernel
theorem dX12_isUnder_16 : decode cX12_isUnder 16 = .ok (.iconst 1, 1) := by decide +kernel
theorem dX12_isUnder_17 : decode cX12_isUnder 17 = .ok (.if_icmp .ne 8, 3) := by decide +kernel
theorem dX12_isUnder_20 : decode cX12_isUnder 20 = .ok (.iload_n 1, 1) := by decide +kernel
theorem dX12_isUnder_21 : decode cX12_isUnder 21 = .ok (.iconst 4, 1) := by decide +kernel
theorem dX12_isUnder_22 : decode cX12_isUnder 22 = .ok (.if_icmp .eq 13, 3) := by decide +kernel
theorem dX12_isUnder_25 : decode cX12_isUnder 25 = .ok (.iload_n 2, 1) := by decide +kernel
theorem dX12_isUnder_26 : decode cX12_isUnder 26 = .ok (.iconst 2, 1) := by decide +kernel
theorem dX12_isUnder_27 : decode cX12_isUnder 27 = .ok (.if_icmp .ne 12, 3) := by decide +kernel
theorem dX12_isUnder_30 : decode cX12_isUnder 30 = .ok (.iload_n 1, 1) := by decide +kernel
theorem dX12_isUnder_31 : decode cX12_isUnder 31 = .ok (.iconst 3, 1) := by decide +kernel
theorem dX12_isUnder_32 : decode cX12_isUnder 32 = .ok (.if_icmp .ne 7, 3) := by decide +kernel
theorem dX12_isUnder_35 : decode cX12_isUnder 35 = .ok (.iconst 1, 1) := by decide +kernel
theorem dX12_isUnder_36 : decode cX12_isUnder 36 = .ok (.goto 22, 3) := by decide +kernel
theorem dX12_isUnder_39 : decode cX12_isUnder 39 = .ok (.iconst 0, 1) := by decide +kernel
theorem dX12_isUnder_40 : decode cX12_isUnder 40 = .ok (.goto 18, 3) := by decide +kernel
theorem dX12_isUnder_43 : decode cX12_isUnder 43 = .ok (.iload_n 2, 1) := by decide +kernel
theorem dX12_isUnder_44 : decode cX12_isUnder 44 = .ok (.iconst 1, 1) := by decide +kernel
theorem dX12_isUnder_45 : decode cX12_isUnder 45 = .ok (.if_icmp .ne 12, 3) := by decide +kernel
theorem dX12_isUnder_48 : decode cX12_isUnder 48 = .ok (.iload_n 1, 1) := by decide +kernel
theorem dX12_isUnder_49 : decode cX12_isUnder 49 = .ok (.iconst 3, 1) := by decide +kernel
theorem dX12_isUnder_50 : decode cX12_isUnder 50 = .ok (.if_icmp .ne 7, 3) := by decide +kernel
theorem dX12_isUnder_53 : decode cX12_isUnder 53 = .ok (.iconst 1, 1) := by decide +kernel
theorem dX12_isUnder_54 : decode cX12_isUnder 54 = .ok (.goto 4, 3) := by decide +kernel
theorem dX12_isUnder_57 : decode cX12_isUnder 57 = .ok (.iconst 0, 1) := by decide +kernel
theorem dX12_isUnder_58 : decode cX12_isUnder 58 = .ok (.ireturn, 1) := by decide +kernel
theorem dX12_as_0 : decode cX12_as 0 = .ok (.iload_n 1, 1) := by decide +kernel
theorem dX12_as_1 : decode cX12_as 1 = .ok (.invokestatic 253, 3) := by decide +kernel
theorem dX12_as_4 : decode cX12_as 4 = .ok (.ifCond .ne 5, 3) := by decide +kernel
theorem dX12_as_7 : decode cX12_as 7 = .ok (.iconst (-1), 1) := by decide +kernel
theorem dX12_as_8 : decode cX12_as 8 = .ok (.ireturn, 1) := by decide +kernel
theorem dX12_as_9 : decode cX12_as 9 = .ok (.iload_n 2, 1) := by decide +kernel
theorem dX12_as_10 : decode cX12_as 10 = .ok (.iconst 0, 1) := by decide +kernel
theorem dX12_as_11 : decode cX12_as 11 = .ok (.iconst 2, 1) := by decide +kernel
theorem dX12_as_12 : decode cX12_as 12 = .ok (.invokestatic 58, 3) := by decide +kernel
theorem dX12_as_15 : decode cX12_as 15 = .ok (.ifCond .eq 29, 3) := by decide +kernel
theorem dX12_as_18 : decode cX12_as 18 = .ok (.iload_n 3, 1) := by decide +kernel
theorem dX12_as_19 : decode cX12_as 19 = .ok (.iconst 0, 1) := by decide +kernel
theorem dX12_as_20 : decode cX12_as 20 = .ok (.iload_n 2, 1) := by decide +kernel
theorem dX12_as_21 : decode cX12_as 21 = .ok (.ifCond .ne 7, 3) := by decide +kernel
theorem dX12_as_24 : decode cX12_as 24 = .ok (.iconst 4, 1) := by decide +kernel
theorem dX12_as_25 : decode cX12_as 25 = .ok (.goto 13, 3) := by decide +kernel
theorem dX12_as_28 : decode cX12_as 28 = .ok (.iload_n 2, 1) := by decide +kernel
theorem dX12_as_29 : decode cX12_as 29 = .ok (.iconst 1, 1) := by decide +kernel
theorem dX12_as_30 : decode cX12_as 30 = .ok (.if_icmp .ne 7, 3) := by decide +kernel
theorem dX12_as_33 : decode cX12_as 33 = .ok (.iconst 3, 1) := by decide +kernel
theorem dX12_as_34 : decode cX12_as 34 = .ok (.goto 4, 3) := by decide +kernel
theorem dX12_as_37 : decode cX12_as 37 = .ok (.iconst 0, 1) := by decide +kernel
theorem dX12_as_38 : decode cX12_as 38 = .ok (.invokestatic 58, 3) := by decide +kernel
theorem dX12_as_41 : decode cX12_as 41 = .ok (.ifCond .ne 6, 3) := by decide +kernel
theorem dX12_as_44 : decode cX12_as 44 = .ok (.bipush (-2), 2) := by decide +kernel
theorem dX12_as_46 : decode cX12_as 46 = .ok (.ireturn, 1) := by decide +kernel
theorem dX12_as_47 : decode cX12_as 47 = .ok (.aload_n 0, 1) := by decide +kernel
theorem dX12_as_48 : decode cX12_as 48 = .ok (.getfield 39, 3) := by decide +kernel
theorem dX12_as_51 : decode cX12_as 51 = .ok (.iload_n 1, 1) := by decide +kernel
theorem dX12_as_52 : decode cX12_as 52 = .ok (.iaload, 1) := by decide +kernel
theorem dX12_as_53 : decode cX12_as 53 = .ok (.ifCond .ne 6, 3) := by decide +kernel
theorem dX12_as_56 : decode cX12_as 56 = .ok (.bipush (-11), 2) := by decide +kernel
theorem dX12_as_58 : decode cX12_as 58 = .ok (.ireturn, 1) := by decide +kernel
theorem dX12_as_59 : decode cX12_as 59 = .ok (.aload_n 0, 1) := by decide +kernel
theorem dX12_as_60 : decode cX12_as 60 = .ok (.getfield 39, 3) := by decide +kernel
theorem dX12_as_63 : decode cX12_as 63 = .ok (.iload_n 1, 1) := by decide +kernel
theorem dX12_as_64 : decode cX12_as 64 = .ok (.iaload, 1) := by decide +kernel
theorem dX12_as_65 : decode cX12_as 65 = .ok (.iload_n 2, 1) := by decide +kernel
theorem dX12_as_66 : decode cX12_as 66 = .ok (.iconst 1, 1) := by decide +kernel
theorem dX12_as_67 : decode cX12_as 67 = .ok (.iadd, 1) := by decide +kernel
theorem dX12_as_68 : decode cX12_as 68 = .ok (.if_icmp .ne 26, 3) := by decide +kernel
theorem dX12_as_71 : decode cX12_as 71 = .ok (.iload_n 2, 1) := by decide +kernel
theorem dX12_as_72 : decode cX12_as 72 = .ok (.aload_n 0, 1) := by decide +kernel
theorem dX12_as_73 : decode cX12_as 73 = .ok (.getfield 42, 3) := by decide +kernel
theorem dX12_as_76 : decode cX12_as 76 = .ok (.iload_n 1, 1) := by decide +kernel
theorem dX12_as_77 : decode cX12_as 77 = .ok (.iaload, 1) := by decide +kernel
theorem dX12_as_78 : decode cX12_as 78 = .ok (.iload_n 3, 1) := by decide +kernel
theorem dX12_as_79 : decode cX12_as 79 = .ok (.invokestatic 256, 3) := by decide +kernel
theorem dX12_as_82 : decode cX12_as 82 = .ok (.ifCond .eq 12, 3) := by decide +kernel
theorem dX12_as_85 : decode cX12_as 85 = .ok (.aload_n 0, 1) := by decide +kernel
theorem dX12_as_86 : decode cX12_as 86 = .ok (.getfield 45, 3) := by decide +kernel
theorem dX12_as_89 : decode cX12_as 89 = .ok (.iload_n 1, 1) := by decide +kernel
theorem dX12_as_90 : decode cX12_as 90 = .ok (.iaload, 1) := by decide +kernel
theorem dX12_as_91 : decode cX12_as 91 = .ok (.goto 5, 3) := by decide +kernel
theorem dX12_as_94 : decode cX12_as 94 = .ok (.bipush (-13), 2) := by decide +kernel
theorem dX12_as_96 : decode cX12_as 96 = .ok (.ireturn, 1) := by decide +kernel
theorem dX12_isNoTray_0 : decode cX12_isNoTray 0 = .ok (.aload_n 0, 1) := by decide +kernel
theorem dX12_isNoTray_1 : decode cX12_isNoTray 1 = .ok (.getfield 39, 3) := by decide +kernel
theorem dX12_isNoTray_4 : decode cX12_isNoTray 4 = .ok (.iload_n 1, 1) := by decide +kernel
theorem dX12_isNoTray_5 : decode cX12_isNoTray 5 = .ok (.iaload, 1) := by decide +kernel
theorem dX12_isNoTray_6 : decode cX12_isNoTray 6 = .ok (.ifCond .ne 8, 3) := by decide +kernel
theorem dX12_isNoTray_9 : decode cX12_isNoTray 9 = .ok (.bipush (-11), 2) := by decide +kernel
theorem dX12_isNoTray_11 : decode cX12_isNoTray 11 = .ok (.goto 19, 3) := by decide +kernel
theorem dX12_isNoTray_14 : decode cX12_isNoTray 14 = .ok (.aload_n 0, 1) := by decide +kernel
theorem dX12_isNoTray_15 : decode cX12_isNoTray 15 = .ok (.getfield 39, 3) := by decide +kernel
theorem dX12_isNoTray_18 : decode cX12_isNoTray 18 = .ok (.iload_n 1, 1) := by decide +kernel
theorem dX12_isNoTray_19 : decode cX12_isNoTray 19 = .ok (.iaload, 1) := by decide +kernel
theorem dX12_isNoTray_20 : decode cX12_isNoTray 20 = .ok (.iconst 4, 1) := by decide +kernel
theorem dX12_isNoTray_21 : decode cX12_isNoTray 21 = .ok (.if_icmp .ge 8, 3) := by decide +kernel
theorem dX12_isNoTray_24 : decode cX12_isNoTray 24 = .ok (.bipush (-13), 2) := by decide +kernel
theorem dX12_isNoTray_26 : decode cX12_isNoTray 26 = .ok (.goto 4, 3) := by decide +kernel
theorem dX12_isNoTray_29 : decode cX12_isNoTray 29 = .ok (.iconst 0, 1) := by decide +kernel
theorem dX12_isNoTray_30 : decode cX12_isNoTray 30 = .ok (.ireturn, 1) := by decide +kernel
theorem dX12_lays_0 : decode cX12_lays 0 = .ok (.aload_n 0, 1) := by decide +kernel
theorem dX12_lays_1 : decode cX12_lays 1 = .ok (.getfield 51, 3) := by decide +kernel
theorem dX12_lays_4 : decode cX12_lays 4 = .ok (.bipush 30, 2) := by decide +kernel
theorem dX12_lays_6 : decode cX12_lays 6 = .ok (.iload_n 1, 1) := by decide +kernel
theorem dX12_lays_7 : decode cX12_lays 7 = .ok (.imul, 1) := by decide +kernel
theorem dX12_lays_8 : decode cX12_lays 8 = .ok (.iload_n 2, 1) := by decide +kernel
theorem dX12_lays_9 : decode cX12_lays 9 = .ok (.iadd, 1) := by decide +kernel
theorem dX12_lays_10 : decode cX12_lays 10 = .ok (.aload_n 0, 1) := by decide +kernel
theorem dX12_lays_11 : decode cX12_lays 11 = .ok (.getfield 39, 3) := by decide +kernel
theorem dX12_lays_14 : decode cX12_lays 14 = .ok (.iload_n 1, 1) := by decide +kernel
theorem dX12_lays_15 : decode cX12_lays 15 = .ok (.iaload, 1) := by decide +kernel
theorem dX12_lays_16 : decode cX12_lays 16 = .ok (.iconst 4, 1) := by decide +kernel
theorem dX12_lays_17 : decode cX12_lays 17 = .ok (.if_icmp .ne 10, 3) := by decide +kernel
theorem dX12_lays_20 : decode cX12_lays 20 = .ok (.lload_n 3, 1) := by decide +kernel
theorem dX12_lays_21 : decode cX12_lays 21 = .ok (.l2i, 1) := by decide +kernel
theorem dX12_lays_22 : decode cX12_lays 22 = .ok (.i2b, 1) := by decide +kernel
theorem dX12_lays_23 : decode cX12_lays 23 = .ok (.i2l, 1) := by decide +kernel
theorem dX12_lays_24 : decode cX12_lays 24 = .ok (.goto 4, 3) := by decide +kernel
theorem dX12_lays_27 : decode cX12_lays 27 = .ok (.lload_n 3, 1) := by decide +kernel
theorem dX12_lays_28 : decode cX12_lays 28 = .ok (.lastore, 1) := by decide +kernel
theorem dX12_lays_29 : decode cX12_lays 29 = .ok (.return_, 1) := by decide +kernel
theorem dX12_put_0 : decode cX12_put 0 = .ok (.iload_n 1, 1) := by decide +kernel
theorem dX12_put_1 : decode cX12_put 1 = .ok (.invokestatic 253, 3) := by decide +kernel
theorem dX12_put_4 : decode cX12_put 4 = .ok (.ifCond .ne 5, 3) := by decide +kernel
theorem dX12_put_7 : decode cX12_put 7 = .ok (.iconst (-1), 1) := by decide +kernel
theorem dX12_put_8 : decode cX12_put 8 = .ok (.ireturn, 1) := by decide +kernel
theorem dX12_put_9 : decode cX12_put 9 = .ok (.aload_n 0, 1) := by decide +kernel
theorem dX12_put_10 : decode cX12_put 10 = .ok (.iload_n 1, 1) := by decide +kernel
theorem dX12_put_11 : decode cX12_put 11 = .ok (.invokevirtual 259, 3) := by decide +kernel
theorem dX12_put_14 : decode cX12_put 14 = .ok (.ifCond .eq 9, 3) := by decide +kernel
theorem dX12_put_17 : decode cX12_put 17 = .ok (.aload_n 0, 1) := by decide +kernel
theorem dX12_put_18 : decode cX12_put 18 = .ok (.iload_n 1, 1) := by decide +kernel
theorem dX12_put_19 : decode cX12_put 19 = .ok (.invokevirtual 259, 3) := by decide +kernel
theorem dX12_put_22 : decode cX12_put 22 = .ok (.ireturn, 1) := by decide +kernel
theorem dX12_put_23 : decode cX12_put 23 = .ok (.iload_n 2, 1) := by decide +kernel
theorem dX12_put_24 : decode cX12_put 24 = .ok (.iconst 0, 1) := by decide +kernel
theorem dX12_put_25 : decode cX12_put 25 = .ok (.aload_n 0, 1) := by decide +kernel
theorem dX12_put_26 : decode cX12_put 26 = .ok (.getfield 45, 3) := by decide +kernel
theorem dX12_put_29 : decode cX12_put 29 = .ok (.iload_n 1, 1) := by decide +kernel
theorem dX12_put_30 : decode cX12_put 30 = .ok (.iaload, 1) := by decide +kernel
theorem dX12_put_31 : decode cX12_put 31 = .ok (.iconst 1, 1) := by decide +kernel
theorem dX12_put_32 : decode cX12_put 32 = .ok (.isub, 1) := by decide +kernel
theorem dX12_put_33 : decode cX12_put 33 = .ok (.invokestatic 58, 3) := by decide +kernel
theorem dX12_put_36 : decode cX12_put 36 = .ok (.ifCond .ne 6, 3) := by decide +kernel
theorem dX12_put_39 : decode cX12_put 39 = .ok (.bipush (-12), 2) := by decide +kernel
theorem dX12_put_41 : decode cX12_put 41 = .ok (.ireturn, 1) := by decide +kernel
theorem dX12_put_42 : decode cX12_put 42 = .ok (.aload_n 0, 1) := by decide +kernel
theorem dX12_put_43 : decode cX12_put 43 = .ok (.iload_n 1, 1) := by decide +kernel
theorem dX12_put_44 : decode cX12_put 44 = .ok (.iload_n 2, 1) := by decide +kernel
theorem dX12_put_45 : decode cX12_put 45 = .ok (.lload_n 3, 1) := by decide +kernel
theorem dX12_put_46 : decode cX12_put 46 = .ok (.invokevirtual 262, 3) := by decide +kernel
theorem dX12_put_49 : decode cX12_put 49 = .ok (.iconst 1, 1) := by decide +kernel
theorem dX12_put_50 : decode cX12_put 50 = .ok (.ireturn, 1) := by decide +kernel
theorem dX12_get_0 : decode cX12_get 0 = .ok (.iload_n 1, 1) := by decide +kernel
theorem dX12_get_1 : decode cX12_get 1 = .ok (.invokestatic 253, 3) := by decide +kernel
theorem dX12_get_4 : decode cX12_get 4 = .ok (.ifCond .eq 43, 3) := by decide +kernel
theorem dX12_get_7 : decode cX12_get 7 = .ok (.aload_n 0, 1) := by decide +kernel
theorem dX12_get_8 : decode cX12_get 8 = .ok (.getfield 39, 3) := by decide +kernel
theorem dX12_get_11 : decode cX12_get 11 = .ok (.iload_n 1, 1) := by decide +kernel
theorem dX12_get_12 : decode cX12_get 12 = .ok (.iaload, 1) := by decide +kernel
theorem dX12_get_13 : decode cX12_get 13 = .ok (.iconst 3, 1) := by decide +kernel
theorem dX12_get_14 : decode cX12_get 14 = .ok (.if_icmp .le 33, 3) := by decide +kernel
theorem dX12_get_17 : decode cX12_get 17 = .ok (.iload_n 2, 1) := by decide +kernel
theorem dX12_get_18 : decode cX12_get 18 = .ok (.iconst 0, 1) := by decide +kernel
theorem dX12_get_19 : decode cX12_get 19 = .ok (.aload_n 0, 1) := by decide +kernel
theorem dX12_get_20 : decode cX12_get 20 = .ok (.getfield 45, 3) := by decide +kernel
theorem dX12_get_23 : decode cX12_get 23 = .ok (.iload_n 1, 1) := by decide +kernel
theorem dX12_get_24 : decode cX12_get 24 = .ok (.iaload, 1) := by decide +kernel
theorem dX12_get_25 : decode cX12_get 25 = .ok (.iconst 1, 1) := by decide +kernel
theorem dX12_get_26 : decode cX12_get 26 = .ok (.isub, 1) := by decide +kernel
theorem dX12_get_27 : decode cX12_get 27 = .ok (.invokestatic 58, 3) := by decide +kernel
theorem dX12_get_30 : decode cX12_get 30 = .ok (.ifCond .eq 17, 3) := by decide +kernel
theorem dX12_get_33 : decode cX12_get 33 = .ok (.aload_n 0, 1) := by decide +kernel
theorem dX12_get_34 : decode cX12_get 34 = .ok (.getfield 51, 3) := by decide +kernel
theorem dX12_get_37 : decode cX12_get 37 = .ok (.bipush 30, 2) := by decide +kernel
theorem dX12_get_39 : decode cX12_get 39 = .ok (.iload_n 1, 1) := by decide +kernel
theorem dX12_get_40 : decode cX12_get 40 = .ok (.imul, 1) := by decide +kernel
theorem dX12_get_41 : decode cX12_get 41 = .ok (.iload_n 2, 1) := by decide +kernel
theorem dX12_get_42 : decode cX12_get 42 = .ok (.iadd, 1) := by decide +kernel
theorem dX12_get_43 : decode cX12_get 43 = .ok (.laload, 1) := by decide +kernel
theorem dX12_get_44 : decode cX12_get 44 = .ok (.goto 6, 3) := by decide +kernel
theorem dX12_get_47 : decode cX12_get 47 = .ok (.ldc2_w 266, 3) := by decide +kernel
theorem dX12_get_50 : decode cX12_get 50 = .ok (.lreturn, 1) := by decide +kernel
theorem dX12_fill_0 : decode cX12_fill 0 = .ok (.iload_n 1, 1) := by decide +kernel
theorem dX12_fill_1 : decode cX12_fill 1 = .ok (.invokestatic 253, 3) := by decide +kernel
theorem dX12_fill_4 : decode cX12_fill 4 = .ok (.ifCond .ne 5, 3) := by decide +kernel
theorem dX12_fill_7 : decode cX12_fill 7 = .ok (.iconst (-1), 1) := by decide +kernel
theorem dX12_fill_8 : decode cX12_fill 8 = .ok (.ireturn, 1) := by decide +kernel
theorem dX12_fill_9 : decode cX12_fill 9 = .ok (.aload_n 0, 1) := by decide +kernel
theorem dX12_fill_10 : decode cX12_fill 10 = .ok (.iload_n 2, 1) := by decide +kernel
theorem dX12_fill_11 : decode cX12_fill 11 = .ok (.invokevirtual 150, 3) := by decide +kernel
theorem dX12_fill_14 : decode cX12_fill 14 = .ok (.ifCond .eq 10, 3) := by decide +kernel
theorem dX12_fill_17 : decode cX12_fill 17 = .ok (.iload_n 3, 1) := by decide +kernel
theorem dX12_fill_18 : decode cX12_fill 18 = .ok (.invokestatic 153, 3) := by decide +kernel
theorem dX12_fill_21 : decode cX12_fill 21 = .ok (.ifCond .ne 6, 3) := by decide +kernel
theorem dX12_fill_24 : decode cX12_fill 24 = .ok (.bipush (-2), 2) := by decide +kernel
theorem dX12_fill_26 : decode cX12_fill 26 = .ok (.ireturn, 1) := by decide +kernel
theorem dX12_fill_27 : decode cX12_fill 27 = .ok (.aload_n 0, 1) := by decide +kernel
theorem dX12_fill_28 : decode cX12_fill 28 = .ok (.iload_n 1, 1) := by decide +kernel
theorem dX12_fill_29 : decode cX12_fill 29 = .ok (.invokevirtual 259, 3) := by decide +kernel
theorem dX12_fill_32 : decode cX12_fill 32 = .ok (.ifCond .eq 9, 3) := by decide +kernel
theorem dX12_fill_35 : decode cX12_fill 35 = .ok (.aload_n 0, 1) := by decide +kernel
theorem dX12_fill_36 : decode cX12_fill 36 = .ok (.iload_n 1, 1) := by decide +kernel
theorem dX12_fill_37 : decode cX12_fill 37 = .ok (.invokevirtual 259, 3) := by decide +kernel
theorem dX12_fill_40 : decode cX12_fill 40 = .ok (.ireturn, 1) := by decide +kernel
theorem dX12_fill_41 : decode cX12_fill 41 = .ok (.aload_n 0, 1) := by decide +kernel
theorem dX12_fill_42 : decode cX12_fill 42 = .ok (.iload_n 2, 1) := by decide +kernel
theorem dX12_fill_43 : decode cX12_fill 43 = .ok (.iload_n 3, 1) := by decide +kernel
theorem dX12_fill_44 : decode cX12_fill 44 = .ok (.iconst 0, 1) := by decide +kernel
theorem dX12_fill_45 : decode cX12_fill 45 = .ok (.invokevirtual 156, 3) := by decide +kernel
theorem dX12_fill_48 : decode cX12_fill 48 = .ok (.aload_n 0, 1) := by decide +kernel
theorem dX12_fill_49 : decode cX12_fill 49 = .ok (.getfield 124, 3) := by decide +kernel
theorem dX12_fill_52 : decode cX12_fill 52 = .ok (.aload_n 0, 1) := by decide +kernel
theorem dX12_fill_53 : decode cX12_fill 53 = .ok (.getfield 45, 3) := by decide +kernel
theorem dX12_fill_56 : decode cX12_fill 56 = .ok (.iload_n 1, 1) := by decide +kernel
theorem dX12_fill_57 : decode cX12_fill 57 = .ok (.iaload, 1) := by decide +kernel
theorem dX12_fill_58 : decode cX12_fill 58 = .ok (.invokestatic 140, 3) := by decide +kernel
theorem dX12_fill_61 : decode cX12_fill 61 = .ok (.istore 4, 2) := by decide +kernel
theorem dX12_fill_63 : decode cX12_fill 63 = .ok (.iconst 0, 1) := by decide +kernel
theorem dX12_fill_64 : decode cX12_fill 64 = .ok (.istore 5, 2) := by decide +kernel
theorem dX12_fill_66 : decode cX12_fill 66 = .ok (.iload 5, 2) := by decide +kernel
theorem dX12_fill_68 : decode cX12_fill 68 = .ok (.iload 4, 2) := by decide +kernel
theorem dX12_fill_70 : decode cX12_fill 70 = .ok (.if_icmp .ge 27, 3) := by decide +kernel
theorem dX12_fill_73 : decode cX12_fill 73 = .ok (.aload_n 0, 1) := by decide +kernel
theorem dX12_fill_74 : decode cX12_fill 74 = .ok (.iload_n 1, 1) := by decide +kernel
theorem dX12_fill_75 : decode cX12_fill 75 = .ok (.iload 5, 2) := by decide +kernel
theorem dX12_fill_77 : decode cX12_fill 77 = .ok (.aload_n 0, 1) := by decide +kernel
theorem dX12_fill_78 : decode cX12_fill 78 = .ok (.aload_n 0, 1) := by decide +kernel
theorem dX12_fill_79 : decode cX12_fill 79 = .ok (.getfield 30, 3) := by decide +kernel
theorem dX12_fill_82 : decode cX12_fill 82 = .ok (.iload 5, 2) := by decide +kernel
theorem dX12_fill_84 : decode cX12_fill 84 = .ok (.invokevirtual 127, 3) := by decide +kernel
theorem dX12_fill_87 : decode cX12_fill 87 = .ok (.i2l, 1) := by decide +kernel
theorem dX12_fill_88 : decode cX12_fill 88 = .ok (.invokevirtual 262, 3) := by decide +kernel
theorem dX12_fill_91 : decode cX12_fill 91 = .ok (.iinc 5 1, 3) := by decide +kernel
theorem dX12_fill_94 : decode cX12_fill 94 = .ok (.goto (-28), 3) := by decide +kernel
theorem dX12_fill_97 : decode cX12_fill 97 = .ok (.iload 4, 2) := by decide +kernel
theorem dX12_fill_99 : decode cX12_fill 99 = .ok (.ireturn, 1) := by decide +kernel
theorem dX12_judge_0 : decode cX12_judge 0 = .ok (.iload_n 1, 1) := by decide +kernel
theorem dX12_judge_1 : decode cX12_judge 1 = .ok (.invokestatic 253, 3) := by decide +kernel
theorem dX12_judge_4 : decode cX12_judge 4 = .ok (.ifCond .ne 5, 3) := by decide +kernel
theorem dX12_judge_7 : decode cX12_judge 7 = .ok (.iconst (-1), 1) := by decide +kernel
theorem dX12_judge_8 : decode cX12_judge 8 = .ok (.ireturn, 1) := by decide +kernel
theorem dX12_judge_9 : decode cX12_judge 9 = .ok (.aload_n 0, 1) := by decide +kernel
theorem dX12_judge_10 : decode cX12_judge 10 = .ok (.iload_n 2, 1) := by decide +kernel
theorem dX12_judge_11 : decode cX12_judge 11 = .ok (.invokevirtual 150, 3) := by decide +kernel
theorem dX12_judge_14 : decode cX12_judge 14 = .ok (.ifCond .eq 10, 3) := by decide +kernel
theorem dX12_judge_17 : decode cX12_judge 17 = .ok (.iload_n 3, 1) := by decide +kernel
theorem dX12_judge_18 : decode cX12_judge 18 = .ok (.invokestatic 153, 3) := by decide +kernel
theorem dX12_judge_21 : decode cX12_judge 21 = .ok (.ifCond .ne 6, 3) := by decide +kernel
theorem dX12_judge_24 : decode cX12_judge 24 = .ok (.bipush (-2), 2) := by decide +kernel
theorem dX12_judge_26 : decode cX12_judge 26 = .ok (.ireturn, 1) := by decide +kernel
theorem dX12_judge_27 : decode cX12_judge 27 = .ok (.aload_n 0, 1) := by decide +kernel
theorem dX12_judge_28 : decode cX12_judge 28 = .ok (.iload_n 1, 1) := by decide +kernel
theorem dX12_judge_29 : decode cX12_judge 29 = .ok (.invokevirtual 259, 3) := by decide +kernel
theorem dX12_judge_32 : decode cX12_judge 32 = .ok (.ifCond .eq 9, 3) := by decide +kernel
theorem dX12_judge_35 : decode cX12_judge 35 = .ok (.aload_n 0, 1) := by decide +kernel
theorem dX12_judge_36 : decode cX12_judge 36 = .ok (.iload_n 1, 1) := by decide +kernel
theorem dX12_judge_37 : decode cX12_judge 37 = .ok (.invokevirtual 259, 3) := by decide +kernel
theorem dX12_judge_40 : decode cX12_judge 40 = .ok (.ireturn, 1) := by decide +kernel
theorem dX12_judge_41 : decode cX12_judge 41 = .ok (.aload_n 0, 1) := by decide +kernel
theorem dX12_judge_42 : decode cX12_judge 42 = .ok (.iload_n 2, 1) := by decide +kernel
theorem dX12_judge_43 : decode cX12_judge 43 = .ok (.iload_n 3, 1) := by decide +kernel
theorem dX12_judge_44 : decode cX12_judge 44 = .ok (.iconst 0, 1) := by decide +kernel
theorem dX12_judge_45 : decode cX12_judge 45 = .ok (.invokevirtual 156, 3) := by decide +kernel
theorem dX12_judge_48 : decode cX12_judge 48 = .ok (.iconst 0, 1) := by decide +kernel
theorem dX12_judge_49 : decode cX12_judge 49 = .ok (.istore 4, 2) := by decide +kernel
theorem dX12_judge_51 : decode cX12_judge 51 = .ok (.iload 4, 2) := by decide +kernel
theorem dX12_judge_53 : decode cX12_judge 53 = .ok (.aload_n 0, 1) := by decide +kernel
theorem dX12_judge_54 : decode cX12_judge 54 = .ok (.getfield 45, 3) := by decide +kernel
theorem dX12_judge_57 : decode cX12_judge 57 = .ok (.iload_n 1, 1) := by decide +kernel
theorem dX12_judge_58 : decode cX12_judge 58 = .ok (.iaload, 1) := by decide +kernel
theorem dX12_judge_59 : decode cX12_judge 59 = .ok (.if_icmp .ge 48, 3) := by decide +kernel
theorem dX12_judge_62 : decode cX12_judge 62 = .ok (.iload 4, 2) := by decide +kernel
theorem dX12_judge_64 : decode cX12_judge 64 = .ok (.aload_n 0, 1) := by decide +kernel
theorem dX12_judge_65 : decode cX12_judge 65 = .ok (.getfield 124, 3) := by decide +kernel
theorem dX12_judge_68 : decode cX12_judge 68 = .ok (.if_icmp .ge 30, 3) := by decide +kernel
theorem dX12_judge_71 : decode cX12_judge 71 = .ok (.aload_n 0, 1) := by decide +kernel
theorem dX12_judge_72 : decode cX12_judge 72 = .ok (.getfield 51, 3) := by decide +kernel
theorem dX12_judge_75 : decode cX12_judge 75 = .ok (.bipush 30, 2) := by decide +kernel
theorem dX12_judge_77 : decode cX12_judge 77 = .ok (.iload_n 1, 1) := by decide +kernel
theorem dX12_judge_78 : decode cX12_judge 78 = .ok (.imul, 1) := by decide +kernel
theorem dX12_judge_79 : decode cX12_judge 79 = .ok (.iload 4, 2) := by decide +kernel
theorem dX12_judge_81 : decode cX12_judge 81 = .ok (.iadd, 1) := by decide +kernel
theorem dX12_judge_82 : decode cX12_judge 82 = .ok (.laload, 1) := by decide +kernel
theorem dX12_judge_83 : decode cX12_judge 83 = .ok (.aload_n 0, 1) := by decide +kernel
theorem dX12_judge_84 : decode cX12_judge 84 = .ok (.aload_n 0, 1) := by decide +kernel
theorem dX12_judge_85 : decode cX12_judge 85 = .ok (.getfield 30, 3) := by decide +kernel
theorem dX12_judge_88 : decode cX12_judge 88 = .ok (.iload 4, 2) := by decide +kernel
theorem dX12_judge_90 : decode cX12_judge 90 = .ok (.invokevirtual 127, 3) := by decide +kernel
theorem dX12_judge_93 : decode cX12_judge 93 = .ok (.i2l, 1) := by decide +kernel
theorem dX12_judge_94 : decode cX12_judge 94 = .ok (.lcmp, 1) := by decide +kernel
theorem dX12_judge_95 : decode cX12_judge 95 = .ok (.ifCond .eq 6, 3) := by decide +kernel
theorem dX12_judge_98 : decode cX12_judge 98 = .ok (.iload 4, 2) := by decide +kernel
theorem dX12_judge_100 : decode cX12_judge 100 = .ok (.ireturn, 1) := by decide +kernel
theorem dX12_judge_101 : decode cX12_judge 101 = .ok (.iinc 4 1, 3) := by decide +kernel
theorem dX12_judge_104 : decode cX12_judge 104 = .ok (.goto (-53), 3) := by decide +kernel
theorem dX12_judge_107 : decode cX12_judge 107 = .ok (.bipush (-5), 2) := by decide +kernel
theorem dX12_judge_109 : decode cX12_judge 109 = .ok (.ireturn, 1) := by decide +kernel
theorem dX12_move_0 : decode cX12_move 0 = .ok (.iload_n 1, 1) := by decide +kernel
theorem dX12_move_1 : decode cX12_move 1 = .ok (.invokestatic 253, 3) := by decide +kernel
theorem dX12_move_4 : decode cX12_move 4 = .ok (.ifCond .eq 10, 3) := by decide +kernel
theorem dX12_move_7 : decode cX12_move 7 = .ok (.iload_n 3, 1) := by decide +kernel
theorem dX12_move_8 : decode cX12_move 8 = .ok (.invokestatic 253, 3) := by decide +kernel
theorem dX12_move_11 : decode cX12_move 11 = .ok (.ifCond .ne 5, 3) := by decide +kernel
theorem dX12_move_14 : decode cX12_move 14 = .ok (.iconst (-1), 1) := by decide +kernel
theorem dX12_move_15 : decode cX12_move 15 = .ok (.ireturn, 1) := by decide +kernel
theorem dX12_move_16 : decode cX12_move 16 = .ok (.aload_n 0, 1) := by decide +kernel
theorem dX12_move_17 : decode cX12_move 17 = .ok (.getfield 39, 3) := by decide +kernel
theorem dX12_move_20 : decode cX12_move 20 = .ok (.iload_n 1, 1) := by decide +kernel
theorem dX12_move_21 : decode cX12_move 21 = .ok (.iaload, 1) := by decide +kernel
theorem dX12_move_22 : decode cX12_move 22 = .ok (.ifCond .eq 12, 3) := by decide +kernel
theorem dX12_move_25 : decode cX12_move 25 = .ok (.aload_n 0, 1) := by decide +kernel
theorem dX12_move_26 : decode cX12_move 26 = .ok (.getfield 39, 3) := by decide +kernel
theorem dX12_move_29 : decode cX12_move 29 = .ok (.iload_n 3, 1) := by decide +kernel
theorem dX12_move_30 : decode cX12_move 30 = .ok (.iaload, 1) := by decide +kernel
theorem dX12_move_31 : decode cX12_move 31 = .ok (.ifCond .ne 6, 3) := by decide +kernel
theorem dX12_move_34 : decode cX12_move 34 = .ok (.bipush (-11), 2) := by decide +kernel
theorem dX12_move_36 : decode cX12_move 36 = .ok (.ireturn, 1) := by decide +kernel
theorem dX12_move_37 : decode cX12_move 37 = .ok (.aload_n 0, 1) := by decide +kernel
theorem dX12_move_38 : decode cX12_move 38 = .ok (.getfield 39, 3) := by decide +kernel
theorem dX12_move_41 : decode cX12_move 41 = .ok (.iload_n 1, 1) := by decide +kernel
theorem dX12_move_42 : decode cX12_move 42 = .ok (.iaload, 1) := by decide +kernel
theorem dX12_move_43 : decode cX12_move 43 = .ok (.iconst 4, 1) := by decide +kernel
theorem dX12_move_44 : decode cX12_move 44 = .ok (.if_icmp .lt 18, 3) := by decide +kernel
theorem dX12_move_47 : decode cX12_move 47 = .ok (.aload_n 0, 1) := by decide +kernel
theorem dX12_move_48 : decode cX12_move 48 = .ok (.getfield 39, 3) := by decide +kernel
theorem dX12_move_51 : decode cX12_move 51 = .ok (.iload_n 3, 1) := by decide +kernel
theorem dX12_move_52 : decode cX12_move 52 = .ok (.iaload, 1) := by decide +kernel
theorem dX12_move_53 : decode cX12_move 53 = .ok (.aload_n 0, 1) := by decide +kernel
theorem dX12_move_54 : decode cX12_move 54 = .ok (.getfield 39, 3) := by decide +kernel
theorem dX12_move_57 : decode cX12_move 57 = .ok (.iload_n 1, 1) := by decide +kernel
theorem dX12_move_58 : decode cX12_move 58 = .ok (.iaload, 1) := by decide +kernel
theorem dX12_move_59 : decode cX12_move 59 = .ok (.if_icmp .eq 6, 3) := by decide +kernel
theorem dX12_move_62 : decode cX12_move 62 = .ok (.bipush (-13), 2) := by decide +kernel
theorem dX12_move_64 : decode cX12_move 64 = .ok (.ireturn, 1) := by decide +kernel
theorem dX12_move_65 : decode cX12_move 65 = .ok (.iload 5, 2) := by decide +kernel
theorem dX12_move_67 : decode cX12_move 67 = .ok (.ifCond .lt 47, 3) := by decide +kernel
theorem dX12_move_70 : decode cX12_move 70 = .ok (.iload_n 2, 1) := by decide +kernel
theorem dX12_move_71 : decode cX12_move 71 = .ok (.ifCond .lt 43, 3) := by decide +kernel
theorem dX12_move_74 : decode cX12_move 74 = .ok (.iload 4, 2) := by decide +kernel
theorem dX12_move_76 : decode cX12_move 76 = .ok (.ifCond .lt 38, 3) := by decide +kernel
theorem dX12_move_79 : decode cX12_move 79 = .ok (.iload_n 2, 1) := by decide +kernel
theorem dX12_move_80 : decode cX12_move 80 = .ok (.i2l, 1) := by decide +kernel
theorem dX12_move_81 : decode cX12_move 81 = .ok (.iload 5, 2) := by decide +kernel
theorem dX12_move_83 : decode cX12_move 83 = .ok (.i2l, 1) := by decide +kernel
theorem dX12_move_84 : decode cX12_move 84 = .ok (.ladd, 1) := by decide +kernel
theorem dX12_move_85 : decode cX12_move 85 = .ok (.aload_n 0, 1) := by decide +kernel
theorem dX12_move_86 : decode cX12_move 86 = .ok (.getfield 45, 3) := by decide +kernel
theorem dX12_move_89 : decode cX12_move 89 = .ok (.iload_n 1, 1) := by decide +kernel
theorem dX12_move_90 : decode cX12_move 90 = .ok (.iaload, 1) := by decide +kernel
theorem dX12_move_91 : decode cX12_move 91 = .ok (.i2l, 1) := by decide +kernel
theorem dX12_move_92 : decode cX12_move 92 = .ok (.lcmp, 1) := by decide +kernel
theorem dX12_move_93 : decode cX12_move 93 = .ok (.ifCond .gt 21, 3) := by decide +kernel
theorem dX12_move_96 : decode cX12_move 96 = .ok (.iload 4, 2) := by decide +kernel
theorem dX12_move_98 : decode cX12_move 98 = .ok (.i2l, 1) := by decide +kernel
theorem dX12_move_99 : decode cX12_move 99 = .ok (.iload 5, 2) := by decide +kernel
theorem dX12_move_101 : decode cX12_move 101 = .ok (.i2l, 1) := by decide +kernel
theorem dX12_move_102 : decode cX12_move 102 = .ok (.ladd, 1) := by decide +kernel
theorem dX12_move_103 : decode cX12_move 103 = .ok (.aload_n 0, 1) := by decide +kernel
theorem dX12_move_104 : decode cX12_move 104 = .ok (.getfield 45, 3) := by decide +kernel
theorem dX12_move_107 : decode cX12_move 107 = .ok (.iload_n 3, 1) := by decide +kernel
theorem dX12_move_108 : decode cX12_move 108 = .ok (.iaload, 1) := by decide +kernel
theorem dX12_move_109 : decode cX12_move 109 = .ok (.i2l, 1) := by decide +kernel
theorem dX12_move_110 : decode cX12_move 110 = .ok (.lcmp, 1) := by decide +kernel
theorem dX12_move_111 : decode cX12_move 111 = .ok (.ifCond .le 6, 3) := by decide +kernel
theorem dX12_move_114 : decode cX12_move 114 = .ok (.bipush (-12), 2) := by decide +kernel
theorem dX12_move_116 : decode cX12_move 116 = .ok (.ireturn, 1) := by decide +kernel
theorem dX12_move_117 : decode cX12_move 117 = .ok (.iconst 0, 1) := by decide +kernel
theorem dX12_move_118 : decode cX12_move 118 = .ok (.istore 6, 2) := by decide +kernel
theorem dX12_move_120 : decode cX12_move 120 = .ok (.iload 6, 2) := by decide +kernel
theorem dX12_move_122 : decode cX12_move 122 = .ok (.iload 5, 2) := by decide +kernel
theorem dX12_move_124 : decode cX12_move 124 = .ok (.if_icmp .ge 30, 3) := by decide +kernel
theorem dX12_move_127 : decode cX12_move 127 = .ok (.aload_n 0, 1) := by decide +kernel
theorem dX12_move_128 : decode cX12_move 128 = .ok (.getfield 55, 3) := by decide +kernel
theorem dX12_move_131 : decode cX12_move 131 = .ok (.iload 6, 2) := by decide +kernel
theorem dX12_move_133 : decode cX12_move 133 = .ok (.aload_n 0, 1) := by decide +kernel
theorem dX12_move_134 : decode cX12_move 134 = .ok (.getfield 51, 3) := by decide +kernel
theorem dX12_move_137 : decode cX12_move 137 = .ok (.bipush 30, 2) := by decide +kernel
theorem dX12_move_139 : decode cX12_move 139 = .ok (.iload_n 1, 1) := by decide +kernel
theorem dX12_move_140 : decode cX12_move 140 = .ok (.imul, 1) := by decide +kernel
theorem dX12_move_141 : decode cX12_move 141 = .ok (.iload_n 2, 1) := by decide +kernel
theorem dX12_move_142 : decode cX12_move 142 = .ok (.iadd, 1) := by decide +kernel
theorem dX12_move_143 : decode cX12_move 143 = .ok (.iload 6, 2) := by decide +kernel
theorem dX12_move_145 : decode cX12_move 145 = .ok (.iadd, 1) := by decide +kernel
theorem dX12_move_146 : decode cX12_move 146 = .ok (.laload, 1) := by decide +kernel
theorem dX12_move_147 : decode cX12_move 147 = .ok (.lastore, 1) := by decide +kernel
theorem dX12_move_148 : decode cX12_move 148 = .ok (.iinc 6 1, 3) := by decide +kernel
theorem dX12_move_151 : decode cX12_move 151 = .ok (.goto (-31), 3) := by decide +kernel
theorem dX12_move_154 : decode cX12_move 154 = .ok (.iconst 0, 1) := by decide +kernel
theorem dX12_move_155 : decode cX12_move 155 = .ok (.istore 6, 2) := by decide +kernel
theorem dX12_move_157 : decode cX12_move 157 = .ok (.iload 6, 2) := by decide +kernel
theorem dX12_move_159 : decode cX12_move 159 = .ok (.iload 5, 2) := by decide +kernel
theorem dX12_move_161 : decode cX12_move 161 = .ok (.if_icmp .ge 31, 3) := by decide +kernel
theorem dX12_move_164 : decode cX12_move 164 = .ok (.aload_n 0, 1) := by decide +kernel
theorem dX12_move_165 : decode cX12_move 165 = .ok (.getfield 51, 3) := by decide +kernel
theorem dX12_move_168 : decode cX12_move 168 = .ok (.bipush 30, 2) := by decide +kernel
theorem dX12_move_170 : decode cX12_move 170 = .ok (.iload_n 3, 1) := by decide +kernel
theorem dX12_move_171 : decode cX12_move 171 = .ok (.imul, 1) := by decide +kernel
theorem dX12_move_172 : decode cX12_move 172 = .ok (.iload 4, 2) := by decide +kernel
theorem dX12_move_174 : decode cX12_move 174 = .ok (.iadd, 1) := by decide +kernel
theorem dX12_move_175 : decode cX12_move 175 = .ok (.iload 6, 2) := by decide +kernel
theorem dX12_move_177 : decode cX12_move 177 = .ok (.iadd, 1) := by decide +kernel
theorem dX12_move_178 : decode cX12_move 178 = .ok (.aload_n 0, 1) := by decide +kernel
theorem dX12_move_179 : decode cX12_move 179 = .ok (.getfield 55, 3) := by decide +kernel
theorem dX12_move_182 : decode cX12_move 182 = .ok (.iload 6, 2) := by decide +kernel
theorem dX12_move_184 : decode cX12_move 184 = .ok (.laload, 1) := by decide +kernel
theorem dX12_move_185 : decode cX12_move 185 = .ok (.lastore, 1) := by decide +kernel
theorem dX12_move_186 : decode cX12_move 186 = .ok (.iinc 6 1, 3) := by decide +kernel
theorem dX12_move_189 : decode cX12_move 189 = .ok (.goto (-32), 3) := by decide +kernel
theorem dX12_move_192 : decode cX12_move 192 = .ok (.iload 5, 2) := by decide +kernel
theorem dX12_move_194 : decode cX12_move 194 = .ok (.ireturn, 1) := by decide +kernel
theorem dX12_image_0 : decode cX12_image 0 = .ok (.aload_n 0, 1) := by decide +kernel
theorem dX12_image_1 : decode cX12_image 1 = .ok (.iconst 1, 1) := by decide +kernel
theorem dX12_image_2 : decode cX12_image 2 = .ok (.putfield 268, 3) := by decide +kernel
theorem dX12_image_5 : decode cX12_image 5 = .ok (.aload_n 0, 1) := by decide +kernel
theorem dX12_image_6 : decode cX12_image 6 = .ok (.getfield 9, 3) := by decide +kernel
theorem dX12_image_9 : decode cX12_image 9 = .ok (.aload_n 0, 1) := by decide +kernel
theorem dX12_image_10 : decode cX12_image 10 = .ok (.getfield 15, 3) := by decide +kernel
theorem dX12_image_13 : decode cX12_image 13 = .ok (.invokestatic 246, 3) := by decide +kernel
theorem dX12_image_16 : decode cX12_image 16 = .ok (.aload_n 0, 1) := by decide +kernel
theorem dX12_image_17 : decode cX12_image 17 = .ok (.getfield 9, 3) := by decide +kernel
theorem dX12_image_20 : decode cX12_image 20 = .ok (.iconst 4, 1) := by decide +kernel
theorem dX12_image_21 : decode cX12_image 21 = .ok (.iaload, 1) := by decide +kernel
theorem dX12_image_22 : decode cX12_image 22 = .ok (.ireturn, 1) := by decide +kernel
theorem dX12_undo_0 : decode cX12_undo 0 = .ok (.aload_n 0, 1) := by decide +kernel
theorem dX12_undo_1 : decode cX12_undo 1 = .ok (.getfield 268, 3) := by decide +kernel
theorem dX12_undo_4 : decode cX12_undo 4 = .ok (.ifCond .ne 6, 3) := by decide +kernel
theorem dX12_undo_7 : decode cX12_undo 7 = .ok (.bipush (-3), 2) := by decide +kernel
theorem dX12_undo_9 : decode cX12_undo 9 = .ok (.ireturn, 1) := by decide +kernel
theorem dX12_undo_10 : decode cX12_undo 10 = .ok (.aload_n 0, 1) := by decide +kernel
theorem dX12_undo_11 : decode cX12_undo 11 = .ok (.getfield 15, 3) := by decide +kernel
theorem dX12_undo_14 : decode cX12_undo 14 = .ok (.aload_n 0, 1) := by decide +kernel
theorem dX12_undo_15 : decode cX12_undo 15 = .ok (.getfield 9, 3) := by decide +kernel
theorem dX12_undo_18 : decode cX12_undo 18 = .ok (.invokestatic 246, 3) := by decide +kernel
theorem dX12_undo_21 : decode cX12_undo 21 = .ok (.iconst 0, 1) := by decide +kernel
theorem dX12_undo_22 : decode cX12_undo 22 = .ok (.istore_n 1, 1) := by decide +kernel
theorem dX12_undo_23 : decode cX12_undo 23 = .ok (.iload_n 1, 1) := by decide +kernel
theorem dX12_undo_24 : decode cX12_undo 24 = .ok (.aload_n 0, 1) := by decide +kernel
theorem dX12_undo_25 : decode cX12_undo 25 = .ok (.getfield 9, 3) := by decide +kernel
theorem dX12_undo_28 : decode cX12_undo 28 = .ok (.iconst 4, 1) := by decide +kernel
theorem dX12_undo_29 : decode cX12_undo 29 = .ok (.iaload, 1) := by decide +kernel
theorem dX12_undo_30 : decode cX12_undo 30 = .ok (.if_icmp .ge 29, 3) := by decide +kernel
theorem dX12_undo_33 : decode cX12_undo 33 = .ok (.aload_n 0, 1) := by decide +kernel
theorem dX12_undo_34 : decode cX12_undo 34 = .ok (.getfield 9, 3) := by decide +kernel
theorem dX12_undo_37 : decode cX12_undo 37 = .ok (.bipush 43, 2) := by decide +kernel
theorem dX12_undo_39 : decode cX12_undo 39 = .ok (.iload_n 1, 1) := by decide +kernel
theorem dX12_undo_40 : decode cX12_undo 40 = .ok (.iadd, 1) := by decide +kernel
theorem dX12_undo_41 : decode cX12_undo 41 = .ok (.aload_n 0, 1) := by decide +kernel
theorem dX12_undo_42 : decode cX12_undo 42 = .ok (.dup, 1) := by decide +kernel
theorem dX12_undo_43 : decode cX12_undo 43 = .ok (.getfield 66, 3) := by decide +kernel
theorem dX12_undo_46 : decode cX12_undo 46 = .ok (.iconst 1, 1) := by decide +kernel
theorem dX12_undo_47 : decode cX12_undo 47 = .ok (.iadd, 1) := by decide +kernel
theorem dX12_undo_48 : decode cX12_undo 48 = .ok (.dup_x1, 1) := by decide +kernel
theorem dX12_undo_49 : decode cX12_undo 49 = .ok (.putfield 66, 3) := by decide +kernel
theorem dX12_undo_52 : decode cX12_undo 52 = .ok (.iastore, 1) := by decide +kernel
theorem dX12_undo_53 : decode cX12_undo 53 = .ok (.iinc 1 1, 3) := by decide +kernel
theorem dX12_undo_56 : decode cX12_undo 56 = .ok (.goto (-33), 3) := by decide +kernel
theorem dX12_undo_59 : decode cX12_undo 59 = .ok (.aload_n 0, 1) := by decide +kernel
theorem dX12_undo_60 : decode cX12_undo 60 = .ok (.getfield 9, 3) := by decide +kernel
theorem dX12_undo_63 : decode cX12_undo 63 = .ok (.iconst 4, 1) := by decide +kernel
theorem dX12_undo_64 : decode cX12_undo 64 = .ok (.iaload, 1) := by decide +kernel
theorem dX12_undo_65 : decode cX12_undo 65 = .ok (.ireturn, 1) := by decide +kernel
theorem dJ6_bitCount_0f7a4_0 : decode cJ6_bitCount_0f7a4 0 = .ok (.iload_n 0, 1) := by decide +kernel
theorem dJ6_bitCount_0f7a4_1 : decode cJ6_bitCount_0f7a4 1 = .ok (.iload_n 0, 1) := by decide +kernel
theorem dJ6_bitCount_0f7a4_2 : decode cJ6_bitCount_0f7a4 2 = .ok (.iconst 1, 1) := by decide +kernel
theorem dJ6_bitCount_0f7a4_3 : decode cJ6_bitCount_0f7a4 3 = .ok (.iushr, 1) := by decide +kernel
theorem dJ6_bitCount_0f7a4_4 : decode cJ6_bitCount_0f7a4 4 = .ok (.ldc_w 265, 3) := by decide +kernel
theorem dJ6_bitCount_0f7a4_7 : decode cJ6_bitCount_0f7a4 7 = .ok (.iand, 1) := by decide +kernel
theorem dJ6_bitCount_0f7a4_8 : decode cJ6_bitCount_0f7a4 8 = .ok (.isub, 1) := by decide +kernel
theorem dJ6_bitCount_0f7a4_9 : decode cJ6_bitCount_0f7a4 9 = .ok (.istore_n 0, 1) := by decide +kernel
theorem dJ6_bitCount_0f7a4_10 : decode cJ6_bitCount_0f7a4 10 = .ok (.iload_n 0, 1) := by decide +kernel
theorem dJ6_bitCount_0f7a4_11 : decode cJ6_bitCount_0f7a4 11 = .ok (.ldc_w 266, 3) := by decide +kernel
theorem dJ6_bitCount_0f7a4_14 : decode cJ6_bitCount_0f7a4 14 = .ok (.iand, 1) := by decide +kernel
theorem dJ6_bitCount_0f7a4_15 : decode cJ6_bitCount_0f7a4 15 = .ok (.iload_n 0, 1) := by decide +kernel
theorem dJ6_bitCount_0f7a4_16 : decode cJ6_bitCount_0f7a4 16 = .ok (.iconst 2, 1) := by decide +kernel
theorem dJ6_bitCount_0f7a4_17 : decode cJ6_bitCount_0f7a4 17 = .ok (.iushr, 1) := by decide +kernel
theorem dJ6_bitCount_0f7a4_18 : decode cJ6_bitCount_0f7a4 18 = .ok (.ldc_w 266, 3) := by decide +kernel
theorem dJ6_bitCount_0f7a4_21 : decode cJ6_bitCount_0f7a4 21 = .ok (.iand, 1) := by decide +kernel
theorem dJ6_bitCount_0f7a4_22 : decode cJ6_bitCount_0f7a4 22 = .ok (.iadd, 1) := by decide +kernel
theorem dJ6_bitCount_0f7a4_23 : decode cJ6_bitCount_0f7a4 23 = .ok (.istore_n 0, 1) := by decide +kernel
theorem dJ6_bitCount_0f7a4_24 : decode cJ6_bitCount_0f7a4 24 = .ok (.iload_n 0, 1) := by decide +kernel
theorem dJ6_bitCount_0f7a4_25 : decode cJ6_bitCount_0f7a4 25 = .ok (.iload_n 0, 1) := by decide +kernel
theorem dJ6_bitCount_0f7a4_26 : decode cJ6_bitCount_0f7a4 26 = .ok (.iconst 4, 1) := by decide +kernel
theorem dJ6_bitCount_0f7a4_27 : decode cJ6_bitCount_0f7a4 27 = .ok (.iushr, 1) := by decide +kernel
theorem dJ6_bitCount_0f7a4_28 : decode cJ6_bitCount_0f7a4 28 = .ok (.iadd, 1) := by decide +kernel
theorem dJ6_bitCount_0f7a4_29 : decode cJ6_bitCount_0f7a4 29 = .ok (.ldc_w 267, 3) := by decide +kernel
theorem dJ6_bitCount_0f7a4_32 : decode cJ6_bitCount_0f7a4 32 = .ok (.iand, 1) := by decide +kernel
theorem dJ6_bitCount_0f7a4_33 : decode cJ6_bitCount_0f7a4 33 = .ok (.istore_n 0, 1) := by decide +kernel
theorem dJ6_bitCount_0f7a4_34 : decode cJ6_bitCount_0f7a4 34 = .ok (.iload_n 0, 1) := by decide +kernel
theorem dJ6_bitCount_0f7a4_35 : decode cJ6_bitCount_0f7a4 35 = .ok (.iload_n 0, 1) := by decide +kernel
theorem dJ6_bitCount_0f7a4_36 : decode cJ6_bitCount_0f7a4 36 = .ok (.bipush 8, 2) := by decide +kernel
theorem dJ6_bitCount_0f7a4_38 : decode cJ6_bitCount_0f7a4 38 = .ok (.iushr, 1) := by decide +kernel
theorem dJ6_bitCount_0f7a4_39 : decode cJ6_bitCount_0f7a4 39 = .ok (.iadd, 1) := by decide +kernel
theorem dJ6_bitCount_0f7a4_40 : decode cJ6_bitCount_0f7a4 40 = .ok (.istore_n 0, 1) := by decide +kernel
theorem dJ6_bitCount_0f7a4_41 : decode cJ6_bitCount_0f7a4 41 = .ok (.iload_n 0, 1) := by decide +kernel
theorem dJ6_bitCount_0f7a4_42 : decode cJ6_bitCount_0f7a4 42 = .ok (.iload_n 0, 1) := by decide +kernel
theorem dJ6_bitCount_0f7a4_43 : decode cJ6_bitCount_0f7a4 43 = .ok (.bipush 16, 2) := by decide +kernel
theorem dJ6_bitCount_0f7a4_45 : decode cJ6_bitCount_0f7a4 45 = .ok (.iushr, 1) := by decide +kernel
theorem dJ6_bitCount_0f7a4_46 : decode cJ6_bitCount_0f7a4 46 = .ok (.iadd, 1) := by decide +kernel
theorem dJ6_bitCount_0f7a4_47 : decode cJ6_bitCount_0f7a4 47 = .ok (.istore_n 0, 1) := by decide +kernel
theorem dJ6_bitCount_0f7a4_48 : decode cJ6_bitCount_0f7a4 48 = .ok (.iload_n 0, 1) := by decide +kernel
theorem dJ6_bitCount_0f7a4_49 : decode cJ6_bitCount_0f7a4 49 = .ok (.bipush 63, 2) := by decide +kernel
theorem dJ6_bitCount_0f7a4_51 : decode cJ6_bitCount_0f7a4 51 = .ok (.iand, 1) := by decide +kernel
theorem dJ6_bitCount_0f7a4_52 : decode cJ6_bitCount_0f7a4 52 = .ok (.ireturn, 1) := by decide +kernel
theorem dJ9_abs_0f7a4_0 : decode cJ9_abs_0f7a4 0 = .ok (.iload_n 0, 1) := by decide +kernel
theorem dJ9_abs_0f7a4_1 : decode cJ9_abs_0f7a4 1 = .ok (.ifCond .ge 8, 3) := by decide +kernel
theorem dJ9_abs_0f7a4_4 : decode cJ9_abs_0f7a4 4 = .ok (.iload_n 0, 1) := by decide +kernel
theorem dJ9_abs_0f7a4_5 : decode cJ9_abs_0f7a4 5 = .ok (.ineg, 1) := by decide +kernel
theorem dJ9_abs_0f7a4_6 : decode cJ9_abs_0f7a4 6 = .ok (.goto 4, 3) := by decide +kernel
theorem dJ9_abs_0f7a4_9 : decode cJ9_abs_0f7a4 9 = .ok (.iload_n 0, 1) := by decide +kernel
theorem dJ9_abs_0f7a4_10 : decode cJ9_abs_0f7a4 10 = .ok (.ireturn, 1) := by decide +kernel
theorem dJ9_max_7cf53_0 : decode cJ9_max_7cf53 0 = .ok (.iload_n 0, 1) := by decide +kernel
theorem dJ9_max_7cf53_1 : decode cJ9_max_7cf53 1 = .ok (.iload_n 1, 1) := by decide +kernel
theorem dJ9_max_7cf53_2 : decode cJ9_max_7cf53 2 = .ok (.if_icmp .lt 7, 3) := by decide +kernel
theorem dJ9_max_7cf53_5 : decode cJ9_max_7cf53 5 = .ok (.iload_n 0, 1) := by decide +kernel
theorem dJ9_max_7cf53_6 : decode cJ9_max_7cf53 6 = .ok (.goto 4, 3) := by decide +kernel
theorem dJ9_max_7cf53_9 : decode cJ9_max_7cf53 9 = .ok (.iload_n 1, 1) := by decide +kernel
theorem dJ9_max_7cf53_10 : decode cJ9_max_7cf53 10 = .ok (.ireturn, 1) := by decide +kernel
theorem dJ9_min_7cf53_0 : decode cJ9_min_7cf53 0 = .ok (.iload_n 0, 1) := by decide +kernel
theorem dJ9_min_7cf53_1 : decode cJ9_min_7cf53 1 = .ok (.iload_n 1, 1) := by decide +kernel
theorem dJ9_min_7cf53_2 : decode cJ9_min_7cf53 2 = .ok (.if_icmp .gt 7, 3) := by decide +kernel
theorem dJ9_min_7cf53_5 : decode cJ9_min_7cf53 5 = .ok (.iload_n 0, 1) := by decide +kernel
theorem dJ9_min_7cf53_6 : decode cJ9_min_7cf53 6 = .ok (.goto 4, 3) := by decide +kernel
theorem dJ9_min_7cf53_9 : decode cJ9_min_7cf53 9 = .ok (.iload_n 1, 1) := by decide +kernel
theorem dJ9_min_7cf53_10 : decode cJ9_min_7cf53 10 = .ok (.ireturn, 1) := by decide +kernel
theorem dJ7_fill_53178_0 : decode cJ7_fill_53178 0 = .ok (.iconst 0, 1) := by decide +kernel
theorem dJ7_fill_53178_1 : decode cJ7_fill_53178 1 = .ok (.istore_n 2, 1) := by decide +kernel
theorem dJ7_fill_53178_2 : decode cJ7_fill_53178 2 = .ok (.aload_n 0, 1) := by decide +kernel
theorem dJ7_fill_53178_3 : decode cJ7_fill_53178 3 = .ok (.arraylength, 1) := by decide +kernel
theorem dJ7_fill_53178_4 : decode cJ7_fill_53178 4 = .ok (.istore_n 3, 1) := by decide +kernel
theorem dJ7_fill_53178_5 : decode cJ7_fill_53178 5 = .ok (.iload_n 2, 1) := by decide +kernel
theorem dJ7_fill_53178_6 : decode cJ7_fill_53178 6 = .ok (.iload_n 3, 1) := by decide +kernel
theorem dJ7_fill_53178_7 : decode cJ7_fill_53178 7 = .ok (.if_icmp .ge 13, 3) := by decide +kernel
theorem dJ7_fill_53178_10 : decode cJ7_fill_53178 10 = .ok (.aload_n 0, 1) := by decide +kernel
theorem dJ7_fill_53178_11 : decode cJ7_fill_53178 11 = .ok (.iload_n 2, 1) := by decide +kernel
theorem dJ7_fill_53178_12 : decode cJ7_fill_53178 12 = .ok (.iload_n 1, 1) := by decide +kernel
theorem dJ7_fill_53178_13 : decode cJ7_fill_53178 13 = .ok (.iastore, 1) := by decide +kernel
theorem dJ7_fill_53178_14 : decode cJ7_fill_53178 14 = .ok (.iinc 2 1, 3) := by decide +kernel
theorem dJ7_fill_53178_17 : decode cJ7_fill_53178 17 = .ok (.goto (-12), 3) := by decide +kernel
theorem dJ7_fill_53178_20 : decode cJ7_fill_53178 20 = .ok (.return_, 1) := by decide +kernel
theorem dL_law_0 : decode cL_law 0 = .ok (.new 7, 3) := by decide +kernel
theorem dL_law_3 : decode cL_law 3 = .ok (.dup, 1) := by decide +kernel
theorem dL_law_4 : decode cL_law 4 = .ok (.invokespecial 9, 3) := by decide +kernel
theorem dL_law_7 : decode cL_law 7 = .ok (.astore_n 1, 1) := by decide +kernel
theorem dL_law_8 : decode cL_law 8 = .ok (.new 10, 3) := by decide +kernel
theorem dL_law_11 : decode cL_law 11 = .ok (.dup, 1) := by decide +kernel
theorem dL_law_12 : decode cL_law 12 = .ok (.invokespecial 12, 3) := by decide +kernel
theorem dL_law_15 : decode cL_law 15 = .ok (.astore_n 2, 1) := by decide +kernel
theorem dL_law_16 : decode cL_law 16 = .ok (.iconst 0, 1) := by decide +kernel
theorem dL_law_17 : decode cL_law 17 = .ok (.istore_n 3, 1) := by decide +kernel
theorem dL_law_18 : decode cL_law 18 = .ok (.iload_n 3, 1) := by decide +kernel
theorem dL_law_19 : decode cL_law 19 = .ok (.aload_n 0, 1) := by decide +kernel
theorem dL_law_20 : decode cL_law 20 = .ok (.arraylength, 1) := by decide +kernel
theorem dL_law_21 : decode cL_law 21 = .ok (.bipush 6, 2) := by decide +kernel
theorem dL_law_23 : decode cL_law 23 = .ok (.isub, 1) := by decide +kernel
theorem dL_law_24 : decode cL_law 24 = .ok (.if_icmp .gt 1363, 3) := by decide +kernel
theorem dL_law_27 : decode cL_law 27 = .ok (.aload_n 0, 1) := by decide +kernel
theorem dL_law_28 : decode cL_law 28 = .ok (.iload_n 3, 1) := by decide +kernel
theorem dL_law_29 : decode cL_law 29 = .ok (.iaload, 1) := by decide +kernel
theorem dL_law_30 : decode cL_law 30 = .ok (.bipush 63, 2) := by decide +kernel
theorem dL_law_32 : decode cL_law 32 = .ok (.iand, 1) := by decide +kernel
theorem dL_law_33 : decode cL_law 33 = .ok (.tableswitch 1348 0 35 #[159, 212, 255, 278, 311, 334, 367, 390, 423, 446, 469, 492, 535, 568, 611, 654, 677, 710, 733, 756, 789, 822, 855, 878, 901, 914, 957, 1000, 1023, 1066, 1139, 1173, 1216, 1259, 1322, 1335], 159) := by decide +kernel
theorem dL_law_192 : decode cL_law 192 = .ok (.aload_n 1, 1) := by decide +kernel
theorem dL_law_193 : decode cL_law 193 = .ok (.aload_n 0, 1) := by decide +kernel
theorem dL_law_194 : decode cL_law 194 = .ok (.iload_n 3, 1) := by decide +kernel
theorem dL_law_195 : decode cL_law 195 = .ok (.iconst 1, 1) := by decide +kernel
theorem dL_law_196 : decode cL_law 196 = .ok (.iadd, 1) := by decide +kernel
theorem dL_law_197 : decode cL_law 197 = .ok (.iaload, 1) := by decide +kernel
theorem dL_law_198 : decode cL_law 198 = .ok (.aload_n 0, 1) := by decide +kernel
theorem dL_law_199 : decode cL_law 199 = .ok (.iload_n 3, 1) := by decide +kernel
theorem dL_law_200 : decode cL_law 200 = .ok (.iconst 2, 1) := by decide +kernel
theorem dL_law_201 : decode cL_law 201 = .ok (.iadd, 1) := by decide +kernel
theorem dL_law_202 : decode cL_law 202 = .ok (.iaload, 1) := by decide +kernel
theorem dL_law_203 : decode cL_law 203 = .ok (.aload_n 0, 1) := by decide +kernel
theorem dL_law_204 : decode cL_law 204 = .ok (.iload_n 3, 1) := by decide +kernel
theorem dL_law_205 : decode cL_law 205 = .ok (.iconst 3, 1) := by decide +kernel
theorem dL_law_206 : decode cL_law 206 = .ok (.iadd, 1) := by decide +kernel
theorem dL_law_207 : decode cL_law 207 = .ok (.iaload, 1) := by decide +kernel
theorem dL_law_208 : decode cL_law 208 = .ok (.aload_n 0, 1) := by decide +kernel
theorem dL_law_209 : decode cL_law 209 = .ok (.iload_n 3, 1) := by decide +kernel
theorem dL_law_210 : decode cL_law 210 = .ok (.iconst 4, 1) := by decide +kernel
theorem dL_law_211 : decode cL_law 211 = .ok (.iadd, 1) := by decide +kernel
theorem dL_law_212 : decode cL_law 212 = .ok (.iaload, 1) := by decide +kernel
theorem dL_law_213 : decode cL_law 213 = .ok (.invokevirtual 13, 3) := by decide +kernel
theorem dL_law_216 : decode cL_law 216 = .ok (.aload_n 2, 1) := by decide +kernel
theorem dL_law_217 : decode cL_law 217 = .ok (.aload_n 0, 1) := by decide +kernel
theorem dL_law_218 : decode cL_law 218 = .ok (.iload_n 3, 1) := by decide +kernel
theorem dL_law_219 : decode cL_law 219 = .ok (.iconst 1, 1) := by decide +kernel
theorem dL_law_220 : decode cL_law 220 = .ok (.iadd, 1) := by decide +kernel
theorem dL_law_221 : decode cL_law 221 = .ok (.iaload, 1) := by decide +kernel
theorem dL_law_222 : decode cL_law 222 = .ok (.aload_n 0, 1) := by decide +kernel
theorem dL_law_223 : decode cL_law 223 = .ok (.iload_n 3, 1) := by decide +kernel
theorem dL_law_224 : decode cL_law 224 = .ok (.iconst 2, 1) := by decide +kernel
theorem dL_law_225 : decode cL_law 225 = .ok (.iadd, 1) := by decide +kernel
theorem dL_law_226 : decode cL_law 226 = .ok (.iaload, 1) := by decide +kernel
theorem dL_law_227 : decode cL_law 227 = .ok (.aload_n 0, 1) := by decide +kernel
theorem dL_law_228 : decode cL_law 228 = .ok (.iload_n 3, 1) := by decide +kernel
theorem dL_law_229 : decode cL_law 229 = .ok (.iconst 3, 1) := by decide +kernel
theorem dL_law_230 : decode cL_law 230 = .ok (.iadd, 1) := by decide +kernel
theorem dL_law_231 : decode cL_law 231 = .ok (.iaload, 1) := by decide +kernel
theorem dL_law_232 : decode cL_law 232 = .ok (.aload_n 0, 1) := by decide +kernel
theorem dL_law_233 : decode cL_law 233 = .ok (.iload_n 3, 1) := by decide +kernel
theorem dL_law_234 : decode cL_law 234 = .ok (.iconst 4, 1) := by decide +kernel
theorem dL_law_235 : decode cL_law 235 = .ok (.iadd, 1) := by decide +kernel
theorem dL_law_236 : decode cL_law 236 = .ok (.iaload, 1) := by decide +kernel
theorem dL_law_237 : decode cL_law 237 = .ok (.invokevirtual 17, 3) := by decide +kernel
theorem dL_law_240 : decode cL_law 240 = .ok (.if_icmp .eq 1141, 3) := by decide +kernel
theorem dL_law_243 : decode cL_law 243 = .ok (.iconst 0, 1) := by decide +kernel
theorem dL_law_244 : decode cL_law 244 = .ok (.ireturn, 1) := by decide +kernel
theorem dL_law_245 : decode cL_law 245 = .ok (.aload_n 1, 1) := by decide +kernel
theorem dL_law_246 : decode cL_law 246 = .ok (.aload_n 0, 1) := by decide +kernel
theorem dL_law_247 : decode cL_law 247 = .ok (.iload_n 3, 1) := by decide +kernel
theorem dL_law_248 : decode cL_law 248 = .ok (.iconst 1, 1) := by decide +kernel
theorem dL_law_249 : decode cL_law 249 = .ok (.iadd, 1) := by decide +kernel
theorem dL_law_250 : decode cL_law 250 = .ok (.iaload, 1) := by decide +kernel
theorem dL_law_251 : decode cL_law 251 = .ok (.aload_n 0, 1) := by decide +kernel
theorem dL_law_252 : decode cL_law 252 = .ok (.iload_n 3, 1) := by decide +kernel
theorem dL_law_253 : decode cL_law 253 = .ok (.iconst 2, 1) := by decide +kernel
theorem dL_law_254 : decode cL_law 254 = .ok (.iadd, 1) := by decide +kernel
theorem dL_law_255 : decode cL_law 255 = .ok (.iaload, 1) := by decide +kernel
theorem dL_law_256 : decode cL_law 256 = .ok (.aload_n 0, 1) := by decide +kernel
theorem dL_law_257 : decode cL_law 257 = .ok (.iload_n 3, 1) := by decide +kernel
theorem dL_law_258 : decode cL_law 258 = .ok (.iconst 3, 1) := by decide +kernel
theorem dL_law_259 : decode cL_law 259 = .ok (.iadd, 1) := by decide +kernel
theorem dL_law_260 : decode cL_law 260 = .ok (.iaload, 1) := by decide +kernel
theorem dL_law_261 : decode cL_law 261 = .ok (.invokevirtual 18, 3) := by decide +kernel
theorem dL_law_264 : decode cL_law 264 = .ok (.aload_n 2, 1) := by decide +kernel
theorem dL_law_265 : decode cL_law 265 = .ok (.aload_n 0, 1) := by decide +kernel
theorem dL_law_266 : decode cL_law 266 = .ok (.iload_n 3, 1) := by decide +kernel
theorem dL_law_267 : decode cL_law 267 = .ok (.iconst 1, 1) := by decide +kernel
theorem dL_law_268 : decode cL_law 268 = .ok (.iadd, 1) := by decide +kernel
theorem dL_law_269 : decode cL_law 269 = .ok (.iaload, 1) := by decide +kernel
theorem dL_law_270 : decode cL_law 270 = .ok (.aload_n 0, 1) := by decide +kernel
theorem dL_law_271 : decode cL_law 271 = .ok (.iload_n 3, 1) := by decide +kernel
theorem dL_law_272 : decode cL_law 272 = .ok (.iconst 2, 1) := by decide +kernel
theorem dL_law_273 : decode cL_law 273 = .ok (.iadd, 1) := by decide +kernel
theorem dL_law_274 : decode cL_law 274 = .ok (.iaload, 1) := by decide +kernel
theorem dL_law_275 : decode cL_law 275 = .ok (.aload_n 0, 1) := by decide +kernel
theorem dL_law_276 : decode cL_law 276 = .ok (.iload_n 3, 1) := by decide +kernel
theorem dL_law_277 : decode cL_law 277 = .ok (.iconst 3, 1) := by decide +kernel
theorem dL_law_278 : decode cL_law 278 = .ok (.iadd, 1) := by decide +kernel
theorem dL_law_279 : decode cL_law 279 = .ok (.iaload, 1) := by decide +kernel
theorem dL_law_280 : decode cL_law 280 = .ok (.invokevirtual 22, 3) := by decide +kernel
theorem dL_law_283 : decode cL_law 283 = .ok (.if_icmp .eq 1098, 3) := by decide +kernel
theorem dL_law_286 : decode cL_law 286 = .ok (.iconst 0, 1) := by decide +kernel
theorem dL_law_287 : decode cL_law 287 = .ok (.ireturn, 1) := by decide +kernel
theorem dL_law_288 : decode cL_law 288 = .ok (.aload_n 1, 1) := by decide +kernel
theorem dL_law_289 : decode cL_law 289 = .ok (.aload_n 0, 1) := by decide +kernel
theorem dL_law_290 : decode cL_law 290 = .ok (.iload_n 3, 1) := by decide +kernel
theorem dL_law_291 : decode cL_law 291 = .ok (.iconst 1, 1) := by decide +kernel
theorem dL_law_292 : decode cL_law 292 = .ok (.iadd, 1) := by decide +kernel
theorem dL_law_293 : decode cL_law 293 = .ok (.iaload, 1) := by decide +kernel
theorem dL_law_294 : decode cL_law 294 = .ok (.invokevirtual 23, 3) := by decide +kernel
theorem dL_law_297 : decode cL_law 297 = .ok (.aload_n 2, 1) := by decide +kernel
theorem dL_law_298 : decode cL_law 298 = .ok (.aload_n 0, 1) := by decide +kernel
theorem dL_law_299 : decode cL_law 299 = .ok (.iload_n 3, 1) := by decide +kernel
theorem dL_law_300 : decode cL_law 300 = .ok (.iconst 1, 1) := by decide +kernel
theorem dL_law_301 : decode cL_law 301 = .ok (.iadd, 1) := by decide +kernel
theorem dL_law_302 : decode cL_law 302 = .ok (.iaload, 1) := by decide +kernel
theorem dL_law_303 : decode cL_law 303 = .ok (.invokevirtual 27, 3) := by decide +kernel
theorem dL_law_306 : decode cL_law 306 = .ok (.if_icmp .eq 1075, 3) := by decide +kernel
theorem dL_law_309 : decode cL_law 309 = .ok (.iconst 0, 1) := by decide +kernel
theorem dL_law_310 : decode cL_law 310 = .ok (.ireturn, 1) := by decide +kernel
theorem dL_law_311 : decode cL_law 311 = .ok (.aload_n 1, 1) := by decide +kernel
theorem dL_law_312 : decode cL_law 312 = .ok (.aload_n 0, 1) := by decide +kernel
theorem dL_law_313 : decode cL_law 313 = .ok (.iload_n 3, 1) := by decide +kernel
theorem dL_law_314 : decode cL_law 314 = .ok (.iconst 1, 1) := by decide +kernel
theorem dL_law_315 : decode cL_law 315 = .ok (.iadd, 1) := by decide +kernel
theorem dL_law_316 : decode cL_law 316 = .ok (.iaload, 1) := by decide +kernel
theorem dL_law_317 : decode cL_law 317 = .ok (.aload_n 0, 1) := by decide +kernel
theorem dL_law_318 : decode cL_law 318 = .ok (.iload_n 3, 1) := by decide +kernel
theorem dL_law_319 : decode cL_law 319 = .ok (.iconst 2, 1) := by decide +kernel
theorem dL_law_320 : decode cL_law 320 = .ok (.iadd, 1) := by decide +kernel
theorem dL_law_321 : decode cL_law 321 = .ok (.iaload, 1) := by decide +kernel
theorem dL_law_322 : decode cL_law 322 = .ok (.invokevirtual 28, 3) := by decide +kernel
theorem dL_law_325 : decode cL_law 325 = .ok (.aload_n 2, 1) := by decide +kernel
theorem dL_law_326 : decode cL_law 326 = .ok (.aload_n 0, 1) := by decide +kernel
theorem dL_law_327 : decode cL_law 327 = .ok (.iload_n 3, 1) := by decide +kernel
theorem dL_law_328 : decode cL_law 328 = .ok (.iconst 1, 1) := by decide +kernel
theorem dL_law_329 : decode cL_law 329 = .ok (.iadd, 1) := by decide +kernel
theorem dL_law_330 : decode cL_law 330 = .ok (.iaload, 1) := by decide +kernel
theorem dL_law_331 : decode cL_law 331 = .ok (.aload_n 0, 1) := by decide +kernel
theorem dL_law_332 : decode cL_law 332 = .ok (.iload_n 3, 1) := by decide +kernel
theorem dL_law_333 : decode cL_law 333 = .ok (.iconst 2, 1) := by decide +kernel
theorem dL_law_334 : decode cL_law 334 = .ok (.iadd, 1) := by decide +kernel
theorem dL_law_335 : decode cL_law 335 = .ok (.iaload, 1) := by decide +kernel
theorem dL_law_336 : decode cL_law 336 = .ok (.invokevirtual 32, 3) := by decide +kernel
theorem dL_law_339 : decode cL_law 339 = .ok (.if_icmp .eq 1042, 3) := by decide +kernel
theorem dL_law_342 : decode cL_law 342 = .ok (.iconst 0, 1) := by decide +kernel
theorem dL_law_343 : decode cL_law 343 = .ok (.ireturn, 1) := by decide +kernel
theorem dL_law_344 : decode cL_law 344 = .ok (.aload_n 1, 1) := by decide +kernel
theorem dL_law_345 : decode cL_law 345 = .ok (.aload_n 0, 1) := by decide +kernel
theorem dL_law_346 : decode cL_law 346 = .ok (.iload_n 3, 1) := by decide +kernel
theorem dL_law_347 : decode cL_law 347 = .ok (.iconst 1, 1) := by decide +kernel
theorem dL_law_348 : decode cL_law 348 = .ok (.iadd, 1) := by decide +kernel
theorem dL_law_349 : decode cL_law 349 = .ok (.iaload, 1) := by decide +kernel
theorem dL_law_350 : decode cL_law 350 = .ok (.invokevirtual 33, 3) := by decide +kernel
theorem dL_law_353 : decode cL_law 353 = .ok (.aload_n 2, 1) := by decide +kernel
theorem dL_law_354 : decode cL_law 354 = .ok (.aload_n 0, 1) := by decide +kernel
theorem dL_law_355 : decode cL_law 355 = .ok (.iload_n 3, 1) := by decide +kernel
theorem dL_law_356 : decode cL_law 356 = .ok (.iconst 1, 1) := by decide +kernel
theorem dL_law_357 : decode cL_law 357 = .ok (.iadd, 1) := by decide +kernel
theorem dL_law_358 : decode cL_law 358 = .ok (.iaload, 1) := by decide +kernel
theorem dL_law_359 : decode cL_law 359 = .ok (.invokevirtual 36, 3) := by decide +kernel
theorem dL_law_362 : decode cL_law 362 = .ok (.if_icmp .eq 1019, 3) := by decide +kernel
theorem dL_law_365 : decode cL_law 365 = .ok (.iconst 0, 1) := by decide +kernel
theorem dL_law_366 : decode cL_law 366 = .ok (.ireturn, 1) := by decide +kernel
theorem dL_law_367 : decode cL_law 367 = .ok (.aload_n 1, 1) := by decide +kernel
theorem dL_law_368 : decode cL_law 368 = .ok (.aload_n 0, 1) := by decide +kernel
theorem dL_law_369 : decode cL_law 369 = .ok (.iload_n 3, 1) := by decide +kernel
theorem dL_law_370 : decode cL_law 370 = .ok (.iconst 1, 1) := by decide +kernel
theorem dL_law_371 : decode cL_law 371 = .ok (.iadd, 1) := by decide +kernel
theorem dL_law_372 : decode cL_law 372 = .ok (.iaload, 1) := by decide +kernel
theorem dL_law_373 : decode cL_law 373 = .ok (.aload_n 0, 1) := by decide +kernel
theorem dL_law_374 : decode cL_law 374 = .ok (.iload_n 3, 1) := by decide +kernel
theorem dL_law_375 : decode cL_law 375 = .ok (.iconst 2, 1) := by decide +kernel
theorem dL_law_376 : decode cL_law 376 = .ok (.iadd, 1) := by decide +kernel
theorem dL_law_377 : decode cL_law 377 = .ok (.iaload, 1) := by decide +kernel
theorem dL_law_378 : decode cL_law 378 = .ok (.invokevirtual 37, 3) := by decide +kernel
theorem dL_law_381 : decode cL_law 381 = .ok (.aload_n 2, 1) := by decide +kernel
theorem dL_law_382 : decode cL_law 382 = .ok (.aload_n 0, 1) := by decide +kernel
theorem dL_law_383 : decode cL_law 383 = .ok (.iload_n 3, 1) := by decide +kernel
theorem dL_law_384 : decode cL_law 384 = .ok (.iconst 1, 1) := by decide +kernel
theorem dL_law_385 : decode cL_law 385 = .ok (.iadd, 1) := by decide +kernel
theorem dL_law_386 : decode cL_law 386 = .ok (.iaload, 1) := by decide +kernel
theorem dL_law_387 : decode cL_law 387 = .ok (.aload_n 0, 1) := by decide +kernel
theorem dL_law_388 : decode cL_law 388 = .ok (.iload_n 3, 1) := by decide +kernel
theorem dL_law_389 : decode cL_law 389 = .ok (.iconst 2, 1) := by decide +kernel
theorem dL_law_390 : decode cL_law 390 = .ok (.iadd, 1) := by decide +kernel
theorem dL_law_391 : decode cL_law 391 = .ok (.iaload, 1) := by decide +kernel
theorem dL_law_392 : decode cL_law 392 = .ok (.invokevirtual 40, 3) := by decide +kernel
theorem dL_law_395 : decode cL_law 395 = .ok (.if_icmp .eq 986, 3) := by decide +kernel
theorem dL_law_398 : decode cL_law 398 = .ok (.iconst 0, 1) := by decide +kernel
theorem dL_law_399 : decode cL_law 399 = .ok (.ireturn, 1) := by decide +kernel
theorem dL_law_400 : decode cL_law 400 = .ok (.aload_n 1, 1) := by decide +kernel
theorem dL_law_401 : decode cL_law 401 = .ok (.aload_n 0, 1) := by decide +kernel
theorem dL_law_402 : decode cL_law 402 = .ok (.iload_n 3, 1) := by decide +kernel
theorem dL_law_403 : decode cL_law 403 = .ok (.iconst 1, 1) := by decide +kernel
theorem dL_law_404 : decode cL_law 404 = .ok (.iadd, 1) := by decide +kernel
theorem dL_law_405 : decode cL_law 405 = .ok (.iaload, 1) := by decide +kernel
theorem dL_law_406 : decode cL_law 406 = .ok (.invokevirtual 41, 3) := by decide +kernel
theorem dL_law_409 : decode cL_law 409 = .ok (.aload_n 2, 1) := by decide +kernel
theorem dL_law_410 : decode cL_law 410 = .ok (.aload_n 0, 1) := by decide +kernel
theorem dL_law_411 : decode cL_law 411 = .ok (.iload_n 3, 1) := by decide +kernel
theorem dL_law_412 : decode cL_law 412 = .ok (.iconst 1, 1) := by decide +kernel
theorem dL_law_413 : decode cL_law 413 = .ok (.iadd, 1) := by decide +kernel
theorem dL_law_414 : decode cL_law 414 = .ok (.iaload, 1) := by decide +kernel
theorem dL_law_415 : decode cL_law 415 = .ok (.invokevirtual 44, 3) := by decide +kernel
theorem dL_law_418 : decode cL_law 418 = .ok (.if_icmp .eq 963, 3) := by decide +kernel
theorem dL_law_421 : decode cL_law 421 = .ok (.iconst 0, 1) := by decide +kernel
theorem dL_law_422 : decode cL_law 422 = .ok (.ireturn, 1) := by decide +kernel
theorem dL_law_423 : decode cL_law 423 = .ok (.aload_n 1, 1) := by decide +kernel
theorem dL_law_424 : decode cL_law 424 = .ok (.aload_n 0, 1) := by decide +kernel
theorem dL_law_425 : decode cL_law 425 = .ok (.iload_n 3, 1) := by decide +kernel
theorem dL_law_426 : decode cL_law 426 = .ok (.iconst 1, 1) := by decide +kernel
theorem dL_law_427 : decode cL_law 427 = .ok (.iadd, 1) := by decide +kernel
theorem dL_law_428 : decode cL_law 428 = .ok (.iaload, 1) := by decide +kernel
theorem dL_law_429 : decode cL_law 429 = .ok (.aload_n 0, 1) := by decide +kernel
theorem dL_law_430 : decode cL_law 430 = .ok (.iload_n 3, 1) := by decide +kernel
theorem dL_law_431 : decode cL_law 431 = .ok (.iconst 2, 1) := by decide +kernel
theorem dL_law_432 : decode cL_law 432 = .ok (.iadd, 1) := by decide +kernel
theorem dL_law_433 : decode cL_law 433 = .ok (.iaload, 1) := by decide +kernel
theorem dL_law_434 : decode cL_law 434 = .ok (.invokevirtual 45, 3) := by decide +kernel
theorem dL_law_437 : decode cL_law 437 = .ok (.aload_n 2, 1) := by decide +kernel
theorem dL_law_438 : decode cL_law 438 = .ok (.aload_n 0, 1) := by decide +kernel
theorem dL_law_439 : decode cL_law 439 = .ok (.iload_n 3, 1) := by decide +kernel
theorem dL_law_440 : decode cL_law 440 = .ok (.iconst 1, 1) := by decide +kernel
theorem dL_law_441 : decode cL_law 441 = .ok (.iadd, 1) := by decide +kernel
theorem dL_law_442 : decode cL_law 442 = .ok (.iaload, 1) := by decide +kernel
theorem dL_law_443 : decode cL_law 443 = .ok (.aload_n 0, 1) := by decide +kernel
theorem dL_law_444 : decode cL_law 444 = .ok (.iload_n 3, 1) := by decide +kernel
theorem dL_law_445 : decode cL_law 445 = .ok (.iconst 2, 1) := by decide +kernel
theorem dL_law_446 : decode cL_law 446 = .ok (.iadd, 1) := by decide +kernel
theorem dL_law_447 : decode cL_law 447 = .ok (.iaload, 1) := by decide +kernel
theorem dL_law_448 : decode cL_law 448 = .ok (.invokevirtual 48, 3) := by decide +kernel
theorem dL_law_451 : decode cL_law 451 = .ok (.if_icmp .eq 930, 3) := by decide +kernel
theorem dL_law_454 : decode cL_law 454 = .ok (.iconst 0, 1) := by decide +kernel
theorem dL_law_455 : decode cL_law 455 = .ok (.ireturn, 1) := by decide +kernel
theorem dL_law_456 : decode cL_law 456 = .ok (.aload_n 1, 1) := by decide +kernel
theorem dL_law_457 : decode cL_law 457 = .ok (.aload_n 0, 1) := by decide +kernel
theorem dL_law_458 : decode cL_law 458 = .ok (.iload_n 3, 1) := by decide +kernel
theorem dL_law_459 : decode cL_law 459 = .ok (.iconst 1, 1) := by decide +kernel
theorem dL_law_460 : decode cL_law 460 = .ok (.iadd, 1) := by decide +kernel
theorem dL_law_461 : decode cL_law 461 = .ok (.iaload, 1) := by decide +kernel
theorem dL_law_462 : decode cL_law 462 = .ok (.invokevirtual 49, 3) := by decide +kernel
theorem dL_law_465 : decode cL_law 465 = .ok (.aload_n 2, 1) := by decide +kernel
theorem dL_law_466 : decode cL_law 466 = .ok (.aload_n 0, 1) := by decide +kernel
theorem dL_law_467 : decode cL_law 467 = .ok (.iload_n 3, 1) := by decide +kernel
theorem dL_law_468 : decode cL_law 468 = .ok (.iconst 1, 1) := by decide +kernel
theorem dL_law_469 : decode cL_law 469 = .ok (.iadd, 1) := by decide +kernel
theorem dL_law_470 : decode cL_law 470 = .ok (.iaload, 1) := by decide +kernel
theorem dL_law_471 : decode cL_law 471 = .ok (.invokevirtual 52, 3) := by decide +kernel
theorem dL_law_474 : decode cL_law 474 = .ok (.if_icmp .eq 907, 3) := by decide +kernel
theorem dL_law_477 : decode cL_law 477 = .ok (.iconst 0, 1) := by decide +kernel
theorem dL_law_478 : decode cL_law 478 = .ok (.ireturn, 1) := by decide +kernel
theorem dL_law_479 : decode cL_law 479 = .ok (.aload_n 1, 1) := by decide +kernel
theorem dL_law_480 : decode cL_law 480 = .ok (.aload_n 0, 1) := by decide +kernel
theorem dL_law_481 : decode cL_law 481 = .ok (.iload_n 3, 1) := by decide +kernel
theorem dL_law_482 : decode cL_law 482 = .ok (.iconst 1, 1) := by decide +kernel
theorem dL_law_483 : decode cL_law 483 = .ok (.iadd, 1) := by decide +kernel
theorem dL_law_484 : decode cL_law 484 = .ok (.iaload, 1) := by decide +kernel
theorem dL_law_485 : decode cL_law 485 = .ok (.invokevirtual 53, 3) := by decide +kernel
theorem dL_law_488 : decode cL_law 488 = .ok (.aload_n 2, 1) := by decide +kernel
theorem dL_law_489 : decode cL_law 489 = .ok (.aload_n 0, 1) := by decide +kernel
theorem dL_law_490 : decode cL_law 490 = .ok (.iload_n 3, 1) := by decide +kernel
theorem dL_law_491 : decode cL_law 491 = .ok (.iconst 1, 1) := by decide +kernel
theorem dL_law_492 : decode cL_law 492 = .ok (.iadd, 1) := by decide +kernel
theorem dL_law_493 : decode cL_law 493 = .ok (.iaload, 1) := by decide +kernel
theorem dL_law_494 : decode cL_law 494 = .ok (.invokevirtual 56, 3) := by decide +kernel
theorem dL_law_497 : decode cL_law 497 = .ok (.if_icmp .eq 884, 3) := by decide +kernel
theorem dL_law_500 : decode cL_law 500 = .ok (.iconst 0, 1) := by decide +kernel
theorem dL_law_501 : decode cL_law 501 = .ok (.ireturn, 1) := by decide +kernel
theorem dL_law_502 : decode cL_law 502 = .ok (.aload_n 1, 1) := by decide +kernel
theorem dL_law_503 : decode cL_law 503 = .ok (.aload_n 0, 1) := by decide +kernel
theorem dL_law_504 : decode cL_law 504 = .ok (.iload_n 3, 1) := by decide +kernel
theorem dL_law_505 : decode cL_law 505 = .ok (.iconst 1, 1) := by decide +kernel
theorem dL_law_506 : decode cL_law 506 = .ok (.iadd, 1) := by decide +kernel
theorem dL_law_507 : decode cL_law 507 = .ok (.iaload, 1) := by decide +kernel
theorem dL_law_508 : decode cL_law 508 = .ok (.invokevirtual 57, 3) := by decide +kernel
theorem dL_law_511 : decode cL_law 511 = .ok (.aload_n 2, 1) := by decide +kernel
theorem dL_law_512 : decode cL_law 512 = .ok (.aload_n 0, 1) := by decide +kernel
theorem dL_law_513 : decode cL_law 513 = .ok (.iload_n 3, 1) := by decide +kernel
theorem dL_law_514 : decode cL_law 514 = .ok (.iconst 1, 1) := by decide +kernel
theorem dL_law_515 : decode cL_law 515 = .ok (.iadd, 1) := by decide +kernel
theorem dL_law_516 : decode cL_law 516 = .ok (.iaload, 1) := by decide +kernel
theorem dL_law_517 : decode cL_law 517 = .ok (.invokevirtual 60, 3) := by decide +kernel
theorem dL_law_520 : decode cL_law 520 = .ok (.if_icmp .eq 861, 3) := by decide +kernel
theorem dL_law_523 : decode cL_law 523 = .ok (.iconst 0, 1) := by decide +kernel
theorem dL_law_524 : decode cL_law 524 = .ok (.ireturn, 1) := by decide +kernel
theorem dL_law_525 : decode cL_law 525 = .ok (.aload_n 1, 1) := by decide +kernel
theorem dL_law_526 : decode cL_law 526 = .ok (.aload_n 0, 1) := by decide +kernel
theorem dL_law_527 : decode cL_law 527 = .ok (.iload_n 3, 1) := by decide +kernel
theorem dL_law_528 : decode cL_law 528 = .ok (.iconst 1, 1) := by decide +kernel
theorem dL_law_529 : decode cL_law 529 = .ok (.iadd, 1) := by decide +kernel
theorem dL_law_530 : decode cL_law 530 = .ok (.iaload, 1) := by decide +kernel
theorem dL_law_531 : decode cL_law 531 = .ok (.aload_n 0, 1) := by decide +kernel
theorem dL_law_532 : decode cL_law 532 = .ok (.iload_n 3, 1) := by decide +kernel
theorem dL_law_533 : decode cL_law 533 = .ok (.iconst 2, 1) := by decide +kernel
theorem dL_law_534 : decode cL_law 534 = .ok (.iadd, 1) := by decide +kernel
theorem dL_law_535 : decode cL_law 535 = .ok (.iaload, 1) := by decide +kernel
theorem dL_law_536 : decode cL_law 536 = .ok (.aload_n 0, 1) := by decide +kernel
theorem dL_law_537 : decode cL_law 537 = .ok (.iload_n 3, 1) := by decide +kernel
theorem dL_law_538 : decode cL_law 538 = .ok (.iconst 3, 1) := by decide +kernel
theorem dL_law_539 : decode cL_law 539 = .ok (.iadd, 1) := by decide +kernel
theorem dL_law_540 : decode cL_law 540 = .ok (.iaload, 1) := by decide +kernel
theorem dL_law_541 : decode cL_law 541 = .ok (.invokevirtual 61, 3) := by decide +kernel
theorem dL_law_544 : decode cL_law 544 = .ok (.aload_n 2, 1) := by decide +kernel
theorem dL_law_545 : decode cL_law 545 = .ok (.aload_n 0, 1) := by decide +kernel
theorem dL_law_546 : decode cL_law 546 = .ok (.iload_n 3, 1) := by decide +kernel
theorem dL_law_547 : decode cL_law 547 = .ok (.iconst 1, 1) := by decide +kernel
theorem dL_law_548 : decode cL_law 548 = .ok (.iadd, 1) := by decide +kernel
theorem dL_law_549 : decode cL_law 549 = .ok (.iaload, 1) := by decide +kernel
theorem dL_law_550 : decode cL_law 550 = .ok (.aload_n 0, 1) := by decide +kernel
theorem dL_law_551 : decode cL_law 551 = .ok (.iload_n 3, 1) := by decide +kernel
theorem dL_law_552 : decode cL_law 552 = .ok (.iconst 2, 1) := by decide +kernel
theorem dL_law_553 : decode cL_law 553 = .ok (.iadd, 1) := by decide +kernel
theorem dL_law_554 : decode cL_law 554 = .ok (.iaload, 1) := by decide +kernel
theorem dL_law_555 : decode cL_law 555 = .ok (.aload_n 0, 1) := by decide +kernel
theorem dL_law_556 : decode cL_law 556 = .ok (.iload_n 3, 1) := by decide +kernel
theorem dL_law_557 : decode cL_law 557 = .ok (.iconst 3, 1) := by decide +kernel
theorem dL_law_558 : decode cL_law 558 = .ok (.iadd, 1) := by decide +kernel
theorem dL_law_559 : decode cL_law 559 = .ok (.iaload, 1) := by decide +kernel
theorem dL_law_560 : decode cL_law 560 = .ok (.invokevirtual 64, 3) := by decide +kernel
theorem dL_law_563 : decode cL_law 563 = .ok (.if_icmp .eq 818, 3) := by decide +kernel
theorem dL_law_566 : decode cL_law 566 = .ok (.iconst 0, 1) := by decide +kernel
theorem dL_law_567 : decode cL_law 567 = .ok (.ireturn, 1) := by decide +kernel
theorem dL_law_568 : decode cL_law 568 = .ok (.aload_n 1, 1) := by decide +kernel
theorem dL_law_569 : decode cL_law 569 = .ok (.aload_n 0, 1) := by decide +kernel
theorem dL_law_570 : decode cL_law 570 = .ok (.iload_n 3, 1) := by decide +kernel
theorem dL_law_571 : decode cL_law 571 = .ok (.iconst 1, 1) := by decide +kernel
theorem dL_law_572 : decode cL_law 572 = .ok (.iadd, 1) := by decide +kernel
theorem dL_law_573 : decode cL_law 573 = .ok (.iaload, 1) := by decide +kernel
theorem dL_law_574 : decode cL_law 574 = .ok (.aload_n 0, 1) := by decide +kernel
theorem dL_law_575 : decode cL_law 575 = .ok (.iload_n 3, 1) := by decide +kernel
theorem dL_law_576 : decode cL_law 576 = .ok (.iconst 2, 1) := by decide +kernel
theorem dL_law_577 : decode cL_law 577 = .ok (.iadd, 1) := by decide +kernel
theorem dL_law_578 : decode cL_law 578 = .ok (.iaload, 1) := by decide +kernel
theorem dL_law_579 : decode cL_law 579 = .ok (.invokevirtual 65, 3) := by decide +kernel
theorem dL_law_582 : decode cL_law 582 = .ok (.aload_n 2, 1) := by decide +kernel
theorem dL_law_583 : decode cL_law 583 = .ok (.aload_n 0, 1) := by decide +kernel
theorem dL_law_584 : decode cL_law 584 = .ok (.iload_n 3, 1) := by decide +kernel
