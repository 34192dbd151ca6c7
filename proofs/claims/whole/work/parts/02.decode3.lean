theorem dX12_ofStave_130 : decode cX12_ofStave 130 = .ok (.invokevirtual 106, 3) := by decide +kernel
theorem dX12_ofStave_133 : decode cX12_ofStave 133 = .ok (.ireturn, 1) := by decide +kernel
theorem dX12_takes_0 : decode cX12_takes 0 = .ok (.iload_n 1, 1) := by decide +kernel
theorem dX12_takes_1 : decode cX12_takes 1 = .ok (.iconst 0, 1) := by decide +kernel
theorem dX12_takes_2 : decode cX12_takes 2 = .ok (.iconst 2, 1) := by decide +kernel
theorem dX12_takes_3 : decode cX12_takes 3 = .ok (.invokestatic 58, 3) := by decide +kernel
theorem dX12_takes_6 : decode cX12_takes 6 = .ok (.ifCond .ne 6, 3) := by decide +kernel
theorem dX12_takes_9 : decode cX12_takes 9 = .ok (.bipush (-2), 2) := by decide +kernel
theorem dX12_takes_11 : decode cX12_takes 11 = .ok (.ireturn, 1) := by decide +kernel
theorem dX12_takes_12 : decode cX12_takes 12 = .ok (.aload_n 0, 1) := by decide +kernel
theorem dX12_takes_13 : decode cX12_takes 13 = .ok (.getfield 9, 3) := by decide +kernel
theorem dX12_takes_16 : decode cX12_takes 16 = .ok (.iconst 4, 1) := by decide +kernel
theorem dX12_takes_17 : decode cX12_takes 17 = .ok (.iload_n 1, 1) := by decide +kernel
theorem dX12_takes_18 : decode cX12_takes 18 = .ok (.iadd, 1) := by decide +kernel
theorem dX12_takes_19 : decode cX12_takes 19 = .ok (.iaload, 1) := by decide +kernel
theorem dX12_takes_20 : decode cX12_takes 20 = .ok (.ifCond .ne 6, 3) := by decide +kernel
theorem dX12_takes_23 : decode cX12_takes 23 = .ok (.bipush (-3), 2) := by decide +kernel
theorem dX12_takes_25 : decode cX12_takes 25 = .ok (.ireturn, 1) := by decide +kernel
theorem dX12_takes_26 : decode cX12_takes 26 = .ok (.aload_n 0, 1) := by decide +kernel
theorem dX12_takes_27 : decode cX12_takes 27 = .ok (.getfield 9, 3) := by decide +kernel
theorem dX12_takes_30 : decode cX12_takes 30 = .ok (.iconst 4, 1) := by decide +kernel
theorem dX12_takes_31 : decode cX12_takes 31 = .ok (.iload_n 1, 1) := by decide +kernel
theorem dX12_takes_32 : decode cX12_takes 32 = .ok (.iadd, 1) := by decide +kernel
theorem dX12_takes_33 : decode cX12_takes 33 = .ok (.dup2, 1) := by decide +kernel
theorem dX12_takes_34 : decode cX12_takes 34 = .ok (.iaload, 1) := by decide +kernel
theorem dX12_takes_35 : decode cX12_takes 35 = .ok (.iconst 1, 1) := by decide +kernel
theorem dX12_takes_36 : decode cX12_takes 36 = .ok (.isub, 1) := by decide +kernel
theorem dX12_takes_37 : decode cX12_takes 37 = .ok (.dup_x2, 1) := by decide +kernel
theorem dX12_takes_38 : decode cX12_takes 38 = .ok (.iastore, 1) := by decide +kernel
theorem dX12_takes_39 : decode cX12_takes 39 = .ok (.ireturn, 1) := by decide +kernel
theorem dX12_shave_0 : decode cX12_shave 0 = .ok (.aload_n 0, 1) := by decide +kernel
theorem dX12_shave_1 : decode cX12_shave 1 = .ok (.iload_n 1, 1) := by decide +kernel
theorem dX12_shave_2 : decode cX12_shave 2 = .ok (.invokevirtual 96, 3) := by decide +kernel
theorem dX12_shave_5 : decode cX12_shave 5 = .ok (.ifCond .ne 5, 3) := by decide +kernel
theorem dX12_shave_8 : decode cX12_shave 8 = .ok (.iconst (-1), 1) := by decide +kernel
theorem dX12_shave_9 : decode cX12_shave 9 = .ok (.ireturn, 1) := by decide +kernel
theorem dX12_shave_10 : decode cX12_shave 10 = .ok (.aload_n 0, 1) := by decide +kernel
theorem dX12_shave_11 : decode cX12_shave 11 = .ok (.getfield 9, 3) := by decide +kernel
theorem dX12_shave_14 : decode cX12_shave 14 = .ok (.bipush 16, 2) := by decide +kernel
theorem dX12_shave_16 : decode cX12_shave 16 = .ok (.iload_n 1, 1) := by decide +kernel
theorem dX12_shave_17 : decode cX12_shave 17 = .ok (.iadd, 1) := by decide +kernel
theorem dX12_shave_18 : decode cX12_shave 18 = .ok (.iaload, 1) := by decide +kernel
theorem dX12_shave_19 : decode cX12_shave 19 = .ok (.istore_n 3, 1) := by decide +kernel
theorem dX12_shave_20 : decode cX12_shave 20 = .ok (.iload_n 2, 1) := by decide +kernel
theorem dX12_shave_21 : decode cX12_shave 21 = .ok (.iconst 1, 1) := by decide +kernel
theorem dX12_shave_22 : decode cX12_shave 22 = .ok (.iload_n 3, 1) := by decide +kernel
theorem dX12_shave_23 : decode cX12_shave 23 = .ok (.invokestatic 58, 3) := by decide +kernel
theorem dX12_shave_26 : decode cX12_shave 26 = .ok (.ifCond .ne 6, 3) := by decide +kernel
theorem dX12_shave_29 : decode cX12_shave 29 = .ok (.bipush (-2), 2) := by decide +kernel
theorem dX12_shave_31 : decode cX12_shave 31 = .ok (.ireturn, 1) := by decide +kernel
theorem dX12_shave_32 : decode cX12_shave 32 = .ok (.aload_n 0, 1) := by decide +kernel
theorem dX12_shave_33 : decode cX12_shave 33 = .ok (.getfield 9, 3) := by decide +kernel
theorem dX12_shave_36 : decode cX12_shave 36 = .ok (.bipush 16, 2) := by decide +kernel
theorem dX12_shave_38 : decode cX12_shave 38 = .ok (.iload_n 1, 1) := by decide +kernel
theorem dX12_shave_39 : decode cX12_shave 39 = .ok (.iadd, 1) := by decide +kernel
theorem dX12_shave_40 : decode cX12_shave 40 = .ok (.iload_n 2, 1) := by decide +kernel
theorem dX12_shave_41 : decode cX12_shave 41 = .ok (.iastore, 1) := by decide +kernel
theorem dX12_shave_42 : decode cX12_shave 42 = .ok (.iconst 0, 1) := by decide +kernel
theorem dX12_shave_43 : decode cX12_shave 43 = .ok (.istore 4, 2) := by decide +kernel
theorem dX12_shave_45 : decode cX12_shave 45 = .ok (.iload 4, 2) := by decide +kernel
theorem dX12_shave_47 : decode cX12_shave 47 = .ok (.bipush 6, 2) := by decide +kernel
theorem dX12_shave_49 : decode cX12_shave 49 = .ok (.if_icmp .ge 47, 3) := by decide +kernel
theorem dX12_shave_52 : decode cX12_shave 52 = .ok (.aload_n 0, 1) := by decide +kernel
theorem dX12_shave_53 : decode cX12_shave 53 = .ok (.getfield 39, 3) := by decide +kernel
theorem dX12_shave_56 : decode cX12_shave 56 = .ok (.iload 4, 2) := by decide +kernel
theorem dX12_shave_58 : decode cX12_shave 58 = .ok (.iaload, 1) := by decide +kernel
theorem dX12_shave_59 : decode cX12_shave 59 = .ok (.iconst 1, 1) := by decide +kernel
theorem dX12_shave_60 : decode cX12_shave 60 = .ok (.if_icmp .ne 30, 3) := by decide +kernel
theorem dX12_shave_63 : decode cX12_shave 63 = .ok (.aload_n 0, 1) := by decide +kernel
theorem dX12_shave_64 : decode cX12_shave 64 = .ok (.getfield 48, 3) := by decide +kernel
theorem dX12_shave_67 : decode cX12_shave 67 = .ok (.iload 4, 2) := by decide +kernel
theorem dX12_shave_69 : decode cX12_shave 69 = .ok (.iaload, 1) := by decide +kernel
theorem dX12_shave_70 : decode cX12_shave 70 = .ok (.aload_n 0, 1) := by decide +kernel
theorem dX12_shave_71 : decode cX12_shave 71 = .ok (.getfield 9, 3) := by decide +kernel
theorem dX12_shave_74 : decode cX12_shave 74 = .ok (.bipush 43, 2) := by decide +kernel
theorem dX12_shave_76 : decode cX12_shave 76 = .ok (.iload_n 1, 1) := by decide +kernel
theorem dX12_shave_77 : decode cX12_shave 77 = .ok (.iadd, 1) := by decide +kernel
theorem dX12_shave_78 : decode cX12_shave 78 = .ok (.iaload, 1) := by decide +kernel
theorem dX12_shave_79 : decode cX12_shave 79 = .ok (.if_icmp .ne 11, 3) := by decide +kernel
theorem dX12_shave_82 : decode cX12_shave 82 = .ok (.aload_n 0, 1) := by decide +kernel
theorem dX12_shave_83 : decode cX12_shave 83 = .ok (.getfield 45, 3) := by decide +kernel
theorem dX12_shave_86 : decode cX12_shave 86 = .ok (.iload 4, 2) := by decide +kernel
theorem dX12_shave_88 : decode cX12_shave 88 = .ok (.iload_n 2, 1) := by decide +kernel
theorem dX12_shave_89 : decode cX12_shave 89 = .ok (.iastore, 1) := by decide +kernel
theorem dX12_shave_90 : decode cX12_shave 90 = .ok (.iinc 4 1, 3) := by decide +kernel
theorem dX12_shave_93 : decode cX12_shave 93 = .ok (.goto (-48), 3) := by decide +kernel
theorem dX12_shave_96 : decode cX12_shave 96 = .ok (.iload_n 3, 1) := by decide +kernel
theorem dX12_shave_97 : decode cX12_shave 97 = .ok (.ireturn, 1) := by decide +kernel
theorem dX12_countsOfSet_0 : decode cX12_countsOfSet 0 = .ok (.iconst 0, 1) := by decide +kernel
theorem dX12_countsOfSet_1 : decode cX12_countsOfSet 1 = .ok (.istore_n 2, 1) := by decide +kernel
theorem dX12_countsOfSet_2 : decode cX12_countsOfSet 2 = .ok (.iconst 0, 1) := by decide +kernel
theorem dX12_countsOfSet_3 : decode cX12_countsOfSet 3 = .ok (.istore_n 3, 1) := by decide +kernel
theorem dX12_countsOfSet_4 : decode cX12_countsOfSet 4 = .ok (.iload_n 3, 1) := by decide +kernel
theorem dX12_countsOfSet_5 : decode cX12_countsOfSet 5 = .ok (.aload_n 0, 1) := by decide +kernel
theorem dX12_countsOfSet_6 : decode cX12_countsOfSet 6 = .ok (.getfield 9, 3) := by decide +kernel
theorem dX12_countsOfSet_9 : decode cX12_countsOfSet 9 = .ok (.iconst 4, 1) := by decide +kernel
theorem dX12_countsOfSet_10 : decode cX12_countsOfSet 10 = .ok (.iaload, 1) := by decide +kernel
theorem dX12_countsOfSet_11 : decode cX12_countsOfSet 11 = .ok (.if_icmp .ge 26, 3) := by decide +kernel
theorem dX12_countsOfSet_14 : decode cX12_countsOfSet 14 = .ok (.iload_n 1, 1) := by decide +kernel
theorem dX12_countsOfSet_15 : decode cX12_countsOfSet 15 = .ok (.iload_n 3, 1) := by decide +kernel
theorem dX12_countsOfSet_16 : decode cX12_countsOfSet 16 = .ok (.ishr, 1) := by decide +kernel
theorem dX12_countsOfSet_17 : decode cX12_countsOfSet 17 = .ok (.iconst 1, 1) := by decide +kernel
theorem dX12_countsOfSet_18 : decode cX12_countsOfSet 18 = .ok (.iand, 1) := by decide +kernel
theorem dX12_countsOfSet_19 : decode cX12_countsOfSet 19 = .ok (.iconst 1, 1) := by decide +kernel
theorem dX12_countsOfSet_20 : decode cX12_countsOfSet 20 = .ok (.if_icmp .ne 11, 3) := by decide +kernel
theorem dX12_countsOfSet_23 : decode cX12_countsOfSet 23 = .ok (.iload_n 2, 1) := by decide +kernel
theorem dX12_countsOfSet_24 : decode cX12_countsOfSet 24 = .ok (.aload_n 0, 1) := by decide +kernel
theorem dX12_countsOfSet_25 : decode cX12_countsOfSet 25 = .ok (.iload_n 3, 1) := by decide +kernel
theorem dX12_countsOfSet_26 : decode cX12_countsOfSet 26 = .ok (.invokevirtual 89, 3) := by decide +kernel
theorem dX12_countsOfSet_29 : decode cX12_countsOfSet 29 = .ok (.iadd, 1) := by decide +kernel
theorem dX12_countsOfSet_30 : decode cX12_countsOfSet 30 = .ok (.istore_n 2, 1) := by decide +kernel
theorem dX12_countsOfSet_31 : decode cX12_countsOfSet 31 = .ok (.iinc 3 1, 3) := by decide +kernel
theorem dX12_countsOfSet_34 : decode cX12_countsOfSet 34 = .ok (.goto (-30), 3) := by decide +kernel
theorem dX12_countsOfSet_37 : decode cX12_countsOfSet 37 = .ok (.iload_n 2, 1) := by decide +kernel
theorem dX12_countsOfSet_38 : decode cX12_countsOfSet 38 = .ok (.ireturn, 1) := by decide +kernel
theorem dX12_priceOfSet_0 : decode cX12_priceOfSet 0 = .ok (.iconst 0, 1) := by decide +kernel
theorem dX12_priceOfSet_1 : decode cX12_priceOfSet 1 = .ok (.istore_n 2, 1) := by decide +kernel
theorem dX12_priceOfSet_2 : decode cX12_priceOfSet 2 = .ok (.iconst 0, 1) := by decide +kernel
theorem dX12_priceOfSet_3 : decode cX12_priceOfSet 3 = .ok (.istore_n 3, 1) := by decide +kernel
theorem dX12_priceOfSet_4 : decode cX12_priceOfSet 4 = .ok (.iload_n 3, 1) := by decide +kernel
theorem dX12_priceOfSet_5 : decode cX12_priceOfSet 5 = .ok (.aload_n 0, 1) := by decide +kernel
theorem dX12_priceOfSet_6 : decode cX12_priceOfSet 6 = .ok (.getfield 9, 3) := by decide +kernel
theorem dX12_priceOfSet_9 : decode cX12_priceOfSet 9 = .ok (.iconst 4, 1) := by decide +kernel
theorem dX12_priceOfSet_10 : decode cX12_priceOfSet 10 = .ok (.iaload, 1) := by decide +kernel
theorem dX12_priceOfSet_11 : decode cX12_priceOfSet 11 = .ok (.if_icmp .ge 26, 3) := by decide +kernel
theorem dX12_priceOfSet_14 : decode cX12_priceOfSet 14 = .ok (.iload_n 1, 1) := by decide +kernel
theorem dX12_priceOfSet_15 : decode cX12_priceOfSet 15 = .ok (.iload_n 3, 1) := by decide +kernel
theorem dX12_priceOfSet_16 : decode cX12_priceOfSet 16 = .ok (.ishr, 1) := by decide +kernel
theorem dX12_priceOfSet_17 : decode cX12_priceOfSet 17 = .ok (.iconst 1, 1) := by decide +kernel
theorem dX12_priceOfSet_18 : decode cX12_priceOfSet 18 = .ok (.iand, 1) := by decide +kernel
theorem dX12_priceOfSet_19 : decode cX12_priceOfSet 19 = .ok (.iconst 1, 1) := by decide +kernel
theorem dX12_priceOfSet_20 : decode cX12_priceOfSet 20 = .ok (.if_icmp .ne 11, 3) := by decide +kernel
theorem dX12_priceOfSet_23 : decode cX12_priceOfSet 23 = .ok (.iload_n 2, 1) := by decide +kernel
theorem dX12_priceOfSet_24 : decode cX12_priceOfSet 24 = .ok (.aload_n 0, 1) := by decide +kernel
theorem dX12_priceOfSet_25 : decode cX12_priceOfSet 25 = .ok (.iload_n 3, 1) := by decide +kernel
theorem dX12_priceOfSet_26 : decode cX12_priceOfSet 26 = .ok (.invokevirtual 103, 3) := by decide +kernel
theorem dX12_priceOfSet_29 : decode cX12_priceOfSet 29 = .ok (.iadd, 1) := by decide +kernel
theorem dX12_priceOfSet_30 : decode cX12_priceOfSet 30 = .ok (.istore_n 2, 1) := by decide +kernel
theorem dX12_priceOfSet_31 : decode cX12_priceOfSet 31 = .ok (.iinc 3 1, 3) := by decide +kernel
theorem dX12_priceOfSet_34 : decode cX12_priceOfSet 34 = .ok (.goto (-30), 3) := by decide +kernel
theorem dX12_priceOfSet_37 : decode cX12_priceOfSet 37 = .ok (.iload_n 2, 1) := by decide +kernel
theorem dX12_priceOfSet_38 : decode cX12_priceOfSet 38 = .ok (.ireturn, 1) := by decide +kernel
theorem dX12_fits_0 : decode cX12_fits 0 = .ok (.iload_n 1, 1) := by decide +kernel
theorem dX12_fits_1 : decode cX12_fits 1 = .ok (.iconst 0, 1) := by decide +kernel
theorem dX12_fits_2 : decode cX12_fits 2 = .ok (.iconst 3, 1) := by decide +kernel
theorem dX12_fits_3 : decode cX12_fits 3 = .ok (.invokestatic 58, 3) := by decide +kernel
theorem dX12_fits_6 : decode cX12_fits 6 = .ok (.ifCond .ne 6, 3) := by decide +kernel
theorem dX12_fits_9 : decode cX12_fits 9 = .ok (.bipush (-2), 2) := by decide +kernel
theorem dX12_fits_11 : decode cX12_fits 11 = .ok (.ireturn, 1) := by decide +kernel
theorem dX12_fits_12 : decode cX12_fits 12 = .ok (.iconst 0, 1) := by decide +kernel
theorem dX12_fits_13 : decode cX12_fits 13 = .ok (.istore_n 2, 1) := by decide +kernel
theorem dX12_fits_14 : decode cX12_fits 14 = .ok (.bipush (-5), 2) := by decide +kernel
theorem dX12_fits_16 : decode cX12_fits 16 = .ok (.istore_n 3, 1) := by decide +kernel
theorem dX12_fits_17 : decode cX12_fits 17 = .ok (.iconst 0, 1) := by decide +kernel
theorem dX12_fits_18 : decode cX12_fits 18 = .ok (.istore 4, 2) := by decide +kernel
theorem dX12_fits_20 : decode cX12_fits 20 = .ok (.iconst 0, 1) := by decide +kernel
theorem dX12_fits_21 : decode cX12_fits 21 = .ok (.istore 5, 2) := by decide +kernel
theorem dX12_fits_23 : decode cX12_fits 23 = .ok (.iconst 1, 1) := by decide +kernel
theorem dX12_fits_24 : decode cX12_fits 24 = .ok (.istore 6, 2) := by decide +kernel
theorem dX12_fits_26 : decode cX12_fits 26 = .ok (.iload 6, 2) := by decide +kernel
theorem dX12_fits_28 : decode cX12_fits 28 = .ok (.iconst 1, 1) := by decide +kernel
theorem dX12_fits_29 : decode cX12_fits 29 = .ok (.aload_n 0, 1) := by decide +kernel
theorem dX12_fits_30 : decode cX12_fits 30 = .ok (.getfield 9, 3) := by decide +kernel
theorem dX12_fits_33 : decode cX12_fits 33 = .ok (.iconst 4, 1) := by decide +kernel
theorem dX12_fits_34 : decode cX12_fits 34 = .ok (.iaload, 1) := by decide +kernel
theorem dX12_fits_35 : decode cX12_fits 35 = .ok (.ishl, 1) := by decide +kernel
theorem dX12_fits_36 : decode cX12_fits 36 = .ok (.if_icmp .ge 129, 3) := by decide +kernel
theorem dX12_fits_39 : decode cX12_fits 39 = .ok (.aload_n 0, 1) := by decide +kernel
theorem dX12_fits_40 : decode cX12_fits 40 = .ok (.iload 6, 2) := by decide +kernel
theorem dX12_fits_42 : decode cX12_fits 42 = .ok (.invokevirtual 109, 3) := by decide +kernel
theorem dX12_fits_45 : decode cX12_fits 45 = .ok (.istore 7, 2) := by decide +kernel
theorem dX12_fits_47 : decode cX12_fits 47 = .ok (.iload 7, 2) := by decide +kernel
theorem dX12_fits_49 : decode cX12_fits 49 = .ok (.aload_n 0, 1) := by decide +kernel
theorem dX12_fits_50 : decode cX12_fits 50 = .ok (.getfield 9, 3) := by decide +kernel
theorem dX12_fits_53 : decode cX12_fits 53 = .ok (.iconst 0, 1) := by decide +kernel
theorem dX12_fits_54 : decode cX12_fits 54 = .ok (.iaload, 1) := by decide +kernel
theorem dX12_fits_55 : decode cX12_fits 55 = .ok (.aload_n 0, 1) := by decide +kernel
theorem dX12_fits_56 : decode cX12_fits 56 = .ok (.getfield 9, 3) := by decide +kernel
theorem dX12_fits_59 : decode cX12_fits 59 = .ok (.iconst 0, 1) := by decide +kernel
theorem dX12_fits_60 : decode cX12_fits 60 = .ok (.iaload, 1) := by decide +kernel
theorem dX12_fits_61 : decode cX12_fits 61 = .ok (.aload_n 0, 1) := by decide +kernel
theorem dX12_fits_62 : decode cX12_fits 62 = .ok (.getfield 9, 3) := by decide +kernel
theorem dX12_fits_65 : decode cX12_fits 65 = .ok (.iconst 1, 1) := by decide +kernel
theorem dX12_fits_66 : decode cX12_fits 66 = .ok (.iaload, 1) := by decide +kernel
theorem dX12_fits_67 : decode cX12_fits 67 = .ok (.iadd, 1) := by decide +kernel
theorem dX12_fits_68 : decode cX12_fits 68 = .ok (.invokestatic 58, 3) := by decide +kernel
theorem dX12_fits_71 : decode cX12_fits 71 = .ok (.ifCond .ne 6, 3) := by decide +kernel
theorem dX12_fits_74 : decode cX12_fits 74 = .ok (.goto 85, 3) := by decide +kernel
theorem dX12_fits_77 : decode cX12_fits 77 = .ok (.iinc 2 1, 3) := by decide +kernel
theorem dX12_fits_80 : decode cX12_fits 80 = .ok (.aload_n 0, 1) := by decide +kernel
theorem dX12_fits_81 : decode cX12_fits 81 = .ok (.iload 6, 2) := by decide +kernel
theorem dX12_fits_83 : decode cX12_fits 83 = .ok (.invokevirtual 112, 3) := by decide +kernel
theorem dX12_fits_86 : decode cX12_fits 86 = .ok (.istore 8, 2) := by decide +kernel
theorem dX12_fits_88 : decode cX12_fits 88 = .ok (.iload_n 3, 1) := by decide +kernel
theorem dX12_fits_89 : decode cX12_fits 89 = .ok (.bipush (-5), 2) := by decide +kernel
theorem dX12_fits_91 : decode cX12_fits 91 = .ok (.if_icmp .ne 7, 3) := by decide +kernel
theorem dX12_fits_94 : decode cX12_fits 94 = .ok (.iconst (-1), 1) := by decide +kernel
theorem dX12_fits_95 : decode cX12_fits 95 = .ok (.goto 43, 3) := by decide +kernel
theorem dX12_fits_98 : decode cX12_fits 98 = .ok (.iload 7, 2) := by decide +kernel
theorem dX12_fits_100 : decode cX12_fits 100 = .ok (.iload 4, 2) := by decide +kernel
theorem dX12_fits_102 : decode cX12_fits 102 = .ok (.if_icmp .eq 11, 3) := by decide +kernel
theorem dX12_fits_105 : decode cX12_fits 105 = .ok (.iload 7, 2) := by decide +kernel
theorem dX12_fits_107 : decode cX12_fits 107 = .ok (.iload 4, 2) := by decide +kernel
theorem dX12_fits_109 : decode cX12_fits 109 = .ok (.isub, 1) := by decide +kernel
theorem dX12_fits_110 : decode cX12_fits 110 = .ok (.goto 28, 3) := by decide +kernel
theorem dX12_fits_113 : decode cX12_fits 113 = .ok (.iload 8, 2) := by decide +kernel
theorem dX12_fits_115 : decode cX12_fits 115 = .ok (.iload 5, 2) := by decide +kernel
theorem dX12_fits_117 : decode cX12_fits 117 = .ok (.if_icmp .eq 11, 3) := by decide +kernel
theorem dX12_fits_120 : decode cX12_fits 120 = .ok (.iload 8, 2) := by decide +kernel
theorem dX12_fits_122 : decode cX12_fits 122 = .ok (.iload 5, 2) := by decide +kernel
theorem dX12_fits_124 : decode cX12_fits 124 = .ok (.isub, 1) := by decide +kernel
theorem dX12_fits_125 : decode cX12_fits 125 = .ok (.goto 13, 3) := by decide +kernel
theorem dX12_fits_128 : decode cX12_fits 128 = .ok (.iload 6, 2) := by decide +kernel
theorem dX12_fits_130 : decode cX12_fits 130 = .ok (.invokestatic 115, 3) := by decide +kernel
theorem dX12_fits_133 : decode cX12_fits 133 = .ok (.iload_n 3, 1) := by decide +kernel
theorem dX12_fits_134 : decode cX12_fits 134 = .ok (.invokestatic 115, 3) := by decide +kernel
theorem dX12_fits_137 : decode cX12_fits 137 = .ok (.isub, 1) := by decide +kernel
theorem dX12_fits_138 : decode cX12_fits 138 = .ok (.istore 9, 2) := by decide +kernel
theorem dX12_fits_140 : decode cX12_fits 140 = .ok (.iload 9, 2) := by decide +kernel
theorem dX12_fits_142 : decode cX12_fits 142 = .ok (.ifCond .lt 6, 3) := by decide +kernel
theorem dX12_fits_145 : decode cX12_fits 145 = .ok (.goto 14, 3) := by decide +kernel
theorem dX12_fits_148 : decode cX12_fits 148 = .ok (.iload 6, 2) := by decide +kernel
theorem dX12_fits_150 : decode cX12_fits 150 = .ok (.istore_n 3, 1) := by decide +kernel
theorem dX12_fits_151 : decode cX12_fits 151 = .ok (.iload 7, 2) := by decide +kernel
theorem dX12_fits_153 : decode cX12_fits 153 = .ok (.istore 4, 2) := by decide +kernel
theorem dX12_fits_155 : decode cX12_fits 155 = .ok (.iload 8, 2) := by decide +kernel
theorem dX12_fits_157 : decode cX12_fits 157 = .ok (.istore 5, 2) := by decide +kernel
theorem dX12_fits_159 : decode cX12_fits 159 = .ok (.iinc 6 1, 3) := by decide +kernel
theorem dX12_fits_162 : decode cX12_fits 162 = .ok (.goto (-136), 3) := by decide +kernel
theorem dX12_fits_165 : decode cX12_fits 165 = .ok (.iload_n 1, 1) := by decide +kernel
theorem dX12_fits_166 : decode cX12_fits 166 = .ok (.ifCond .ne 7, 3) := by decide +kernel
theorem dX12_fits_169 : decode cX12_fits 169 = .ok (.iload_n 2, 1) := by decide +kernel
theorem dX12_fits_170 : decode cX12_fits 170 = .ok (.goto 30, 3) := by decide +kernel
theorem dX12_fits_173 : decode cX12_fits 173 = .ok (.iload_n 3, 1) := by decide +kernel
theorem dX12_fits_174 : decode cX12_fits 174 = .ok (.bipush (-5), 2) := by decide +kernel
theorem dX12_fits_176 : decode cX12_fits 176 = .ok (.if_icmp .eq 8, 3) := by decide +kernel
theorem dX12_fits_179 : decode cX12_fits 179 = .ok (.iload_n 1, 1) := by decide +kernel
theorem dX12_fits_180 : decode cX12_fits 180 = .ok (.iconst 1, 1) := by decide +kernel
theorem dX12_fits_181 : decode cX12_fits 181 = .ok (.if_icmp .ne 7, 3) := by decide +kernel
theorem dX12_fits_184 : decode cX12_fits 184 = .ok (.iload_n 3, 1) := by decide +kernel
theorem dX12_fits_185 : decode cX12_fits 185 = .ok (.goto 15, 3) := by decide +kernel
theorem dX12_fits_188 : decode cX12_fits 188 = .ok (.iload_n 1, 1) := by decide +kernel
theorem dX12_fits_189 : decode cX12_fits 189 = .ok (.iconst 2, 1) := by decide +kernel
theorem dX12_fits_190 : decode cX12_fits 190 = .ok (.if_icmp .ne 8, 3) := by decide +kernel
theorem dX12_fits_193 : decode cX12_fits 193 = .ok (.iload 4, 2) := by decide +kernel
theorem dX12_fits_195 : decode cX12_fits 195 = .ok (.goto 5, 3) := by decide +kernel
theorem dX12_fits_198 : decode cX12_fits 198 = .ok (.iload 5, 2) := by decide +kernel
theorem dX12_fits_200 : decode cX12_fits 200 = .ok (.ireturn, 1) := by decide +kernel
theorem dX12_sums_0 : decode cX12_sums 0 = .ok (.iload_n 1, 1) := by decide +kernel
theorem dX12_sums_1 : decode cX12_sums 1 = .ok (.iconst 0, 1) := by decide +kernel
theorem dX12_sums_2 : decode cX12_sums 2 = .ok (.sipush 999, 3) := by decide +kernel
theorem dX12_sums_5 : decode cX12_sums 5 = .ok (.invokestatic 58, 3) := by decide +kernel
theorem dX12_sums_8 : decode cX12_sums 8 = .ok (.ifCond .ne 6, 3) := by decide +kernel
theorem dX12_sums_11 : decode cX12_sums 11 = .ok (.bipush (-2), 2) := by decide +kernel
theorem dX12_sums_13 : decode cX12_sums 13 = .ok (.ireturn, 1) := by decide +kernel
theorem dX12_sums_14 : decode cX12_sums 14 = .ok (.iconst 0, 1) := by decide +kernel
theorem dX12_sums_15 : decode cX12_sums 15 = .ok (.istore_n 2, 1) := by decide +kernel
theorem dX12_sums_16 : decode cX12_sums 16 = .ok (.iconst 0, 1) := by decide +kernel
theorem dX12_sums_17 : decode cX12_sums 17 = .ok (.istore_n 3, 1) := by decide +kernel
theorem dX12_sums_18 : decode cX12_sums 18 = .ok (.iload_n 3, 1) := by decide +kernel
theorem dX12_sums_19 : decode cX12_sums 19 = .ok (.iconst 1, 1) := by decide +kernel
theorem dX12_sums_20 : decode cX12_sums 20 = .ok (.aload_n 0, 1) := by decide +kernel
theorem dX12_sums_21 : decode cX12_sums 21 = .ok (.getfield 9, 3) := by decide +kernel
theorem dX12_sums_24 : decode cX12_sums 24 = .ok (.iconst 4, 1) := by decide +kernel
theorem dX12_sums_25 : decode cX12_sums 25 = .ok (.iaload, 1) := by decide +kernel
theorem dX12_sums_26 : decode cX12_sums 26 = .ok (.ishl, 1) := by decide +kernel
theorem dX12_sums_27 : decode cX12_sums 27 = .ok (.if_icmp .ge 21, 3) := by decide +kernel
theorem dX12_sums_30 : decode cX12_sums 30 = .ok (.aload_n 0, 1) := by decide +kernel
theorem dX12_sums_31 : decode cX12_sums 31 = .ok (.iload_n 3, 1) := by decide +kernel
theorem dX12_sums_32 : decode cX12_sums 32 = .ok (.invokevirtual 109, 3) := by decide +kernel
theorem dX12_sums_35 : decode cX12_sums 35 = .ok (.iload_n 1, 1) := by decide +kernel
theorem dX12_sums_36 : decode cX12_sums 36 = .ok (.if_icmp .ne 6, 3) := by decide +kernel
theorem dX12_sums_39 : decode cX12_sums 39 = .ok (.iinc 2 1, 3) := by decide +kernel
theorem dX12_sums_42 : decode cX12_sums 42 = .ok (.iinc 3 1, 3) := by decide +kernel
theorem dX12_sums_45 : decode cX12_sums 45 = .ok (.goto (-27), 3) := by decide +kernel
theorem dX12_sums_48 : decode cX12_sums 48 = .ok (.iload_n 2, 1) := by decide +kernel
theorem dX12_sums_49 : decode cX12_sums 49 = .ok (.ireturn, 1) := by decide +kernel
theorem dX12_nearest_0 : decode cX12_nearest 0 = .ok (.iload_n 1, 1) := by decide +kernel
theorem dX12_nearest_1 : decode cX12_nearest 1 = .ok (.iconst 0, 1) := by decide +kernel
theorem dX12_nearest_2 : decode cX12_nearest 2 = .ok (.sipush 999, 3) := by decide +kernel
theorem dX12_nearest_5 : decode cX12_nearest 5 = .ok (.invokestatic 58, 3) := by decide +kernel
theorem dX12_nearest_8 : decode cX12_nearest 8 = .ok (.ifCond .ne 6, 3) := by decide +kernel
theorem dX12_nearest_11 : decode cX12_nearest 11 = .ok (.bipush (-2), 2) := by decide +kernel
theorem dX12_nearest_13 : decode cX12_nearest 13 = .ok (.ireturn, 1) := by decide +kernel
theorem dX12_nearest_14 : decode cX12_nearest 14 = .ok (.aload_n 0, 1) := by decide +kernel
theorem dX12_nearest_15 : decode cX12_nearest 15 = .ok (.getfield 9, 3) := by decide +kernel
theorem dX12_nearest_18 : decode cX12_nearest 18 = .ok (.iconst 4, 1) := by decide +kernel
theorem dX12_nearest_19 : decode cX12_nearest 19 = .ok (.iaload, 1) := by decide +kernel
theorem dX12_nearest_20 : decode cX12_nearest 20 = .ok (.ifCond .ne 6, 3) := by decide +kernel
theorem dX12_nearest_23 : decode cX12_nearest 23 = .ok (.bipush (-3), 2) := by decide +kernel
theorem dX12_nearest_25 : decode cX12_nearest 25 = .ok (.ireturn, 1) := by decide +kernel
theorem dX12_nearest_26 : decode cX12_nearest 26 = .ok (.ldc 120, 2) := by decide +kernel
theorem dX12_nearest_28 : decode cX12_nearest 28 = .ok (.istore_n 2, 1) := by decide +kernel
theorem dX12_nearest_29 : decode cX12_nearest 29 = .ok (.iconst 1, 1) := by decide +kernel
theorem dX12_nearest_30 : decode cX12_nearest 30 = .ok (.istore_n 3, 1) := by decide +kernel
theorem dX12_nearest_31 : decode cX12_nearest 31 = .ok (.iload_n 3, 1) := by decide +kernel
theorem dX12_nearest_32 : decode cX12_nearest 32 = .ok (.iconst 1, 1) := by decide +kernel
theorem dX12_nearest_33 : decode cX12_nearest 33 = .ok (.aload_n 0, 1) := by decide +kernel
theorem dX12_nearest_34 : decode cX12_nearest 34 = .ok (.getfield 9, 3) := by decide +kernel
theorem dX12_nearest_37 : decode cX12_nearest 37 = .ok (.iconst 4, 1) := by decide +kernel
theorem dX12_nearest_38 : decode cX12_nearest 38 = .ok (.iaload, 1) := by decide +kernel
theorem dX12_nearest_39 : decode cX12_nearest 39 = .ok (.ishl, 1) := by decide +kernel
theorem dX12_nearest_40 : decode cX12_nearest 40 = .ok (.if_icmp .ge 51, 3) := by decide +kernel
theorem dX12_nearest_43 : decode cX12_nearest 43 = .ok (.aload_n 0, 1) := by decide +kernel
theorem dX12_nearest_44 : decode cX12_nearest 44 = .ok (.iload_n 3, 1) := by decide +kernel
theorem dX12_nearest_45 : decode cX12_nearest 45 = .ok (.invokevirtual 109, 3) := by decide +kernel
theorem dX12_nearest_48 : decode cX12_nearest 48 = .ok (.istore 4, 2) := by decide +kernel
theorem dX12_nearest_50 : decode cX12_nearest 50 = .ok (.iload 4, 2) := by decide +kernel
theorem dX12_nearest_52 : decode cX12_nearest 52 = .ok (.iload_n 1, 1) := by decide +kernel
theorem dX12_nearest_53 : decode cX12_nearest 53 = .ok (.isub, 1) := by decide +kernel
theorem dX12_nearest_54 : decode cX12_nearest 54 = .ok (.invokestatic 121, 3) := by decide +kernel
theorem dX12_nearest_57 : decode cX12_nearest 57 = .ok (.iload_n 2, 1) := by decide +kernel
theorem dX12_nearest_58 : decode cX12_nearest 58 = .ok (.iload_n 1, 1) := by decide +kernel
theorem dX12_nearest_59 : decode cX12_nearest 59 = .ok (.isub, 1) := by decide +kernel
theorem dX12_nearest_60 : decode cX12_nearest 60 = .ok (.invokestatic 121, 3) := by decide +kernel
theorem dX12_nearest_63 : decode cX12_nearest 63 = .ok (.isub, 1) := by decide +kernel
theorem dX12_nearest_64 : decode cX12_nearest 64 = .ok (.istore 5, 2) := by decide +kernel
theorem dX12_nearest_66 : decode cX12_nearest 66 = .ok (.iload 5, 2) := by decide +kernel
theorem dX12_nearest_68 : decode cX12_nearest 68 = .ok (.ifCond .lt 14, 3) := by decide +kernel
theorem dX12_nearest_71 : decode cX12_nearest 71 = .ok (.iload 5, 2) := by decide +kernel
theorem dX12_nearest_73 : decode cX12_nearest 73 = .ok (.ifCond .ne 12, 3) := by decide +kernel
theorem dX12_nearest_76 : decode cX12_nearest 76 = .ok (.iload 4, 2) := by decide +kernel
theorem dX12_nearest_78 : decode cX12_nearest 78 = .ok (.iload_n 2, 1) := by decide +kernel
theorem dX12_nearest_79 : decode cX12_nearest 79 = .ok (.if_icmp .ge 6, 3) := by decide +kernel
theorem dX12_nearest_82 : decode cX12_nearest 82 = .ok (.iload 4, 2) := by decide +kernel
theorem dX12_nearest_84 : decode cX12_nearest 84 = .ok (.istore_n 2, 1) := by decide +kernel
theorem dX12_nearest_85 : decode cX12_nearest 85 = .ok (.iinc 3 1, 3) := by decide +kernel
theorem dX12_nearest_88 : decode cX12_nearest 88 = .ok (.goto (-57), 3) := by decide +kernel
theorem dX12_nearest_91 : decode cX12_nearest 91 = .ok (.iload_n 2, 1) := by decide +kernel
theorem dX12_nearest_92 : decode cX12_nearest 92 = .ok (.ireturn, 1) := by decide +kernel
theorem dX12_isSet_0 : decode cX12_isSet 0 = .ok (.iload_n 1, 1) := by decide +kernel
theorem dX12_isSet_1 : decode cX12_isSet 1 = .ok (.ifCond .le 28, 3) := by decide +kernel
theorem dX12_isSet_4 : decode cX12_isSet 4 = .ok (.iload_n 1, 1) := by decide +kernel
theorem dX12_isSet_5 : decode cX12_isSet 5 = .ok (.iconst 1, 1) := by decide +kernel
theorem dX12_isSet_6 : decode cX12_isSet 6 = .ok (.aload_n 0, 1) := by decide +kernel
theorem dX12_isSet_7 : decode cX12_isSet 7 = .ok (.getfield 9, 3) := by decide +kernel
theorem dX12_isSet_10 : decode cX12_isSet 10 = .ok (.iconst 4, 1) := by decide +kernel
theorem dX12_isSet_11 : decode cX12_isSet 11 = .ok (.iaload, 1) := by decide +kernel
theorem dX12_isSet_12 : decode cX12_isSet 12 = .ok (.ishl, 1) := by decide +kernel
theorem dX12_isSet_13 : decode cX12_isSet 13 = .ok (.if_icmp .ge 16, 3) := by decide +kernel
theorem dX12_isSet_16 : decode cX12_isSet 16 = .ok (.iload_n 1, 1) := by decide +kernel
theorem dX12_isSet_17 : decode cX12_isSet 17 = .ok (.invokestatic 115, 3) := by decide +kernel
theorem dX12_isSet_20 : decode cX12_isSet 20 = .ok (.bipush 9, 2) := by decide +kernel
theorem dX12_isSet_22 : decode cX12_isSet 22 = .ok (.if_icmp .ge 7, 3) := by decide +kernel
theorem dX12_isSet_25 : decode cX12_isSet 25 = .ok (.iconst 1, 1) := by decide +kernel
theorem dX12_isSet_26 : decode cX12_isSet 26 = .ok (.goto 4, 3) := by decide +kernel
theorem dX12_isSet_29 : decode cX12_isSet 29 = .ok (.iconst 0, 1) := by decide +kernel
theorem dX12_isSet_30 : decode cX12_isSet 30 = .ok (.ireturn, 1) := by decide +kernel
theorem dX12_isPress_0 : decode cX12_isPress 0 = .ok (.iload_n 0, 1) := by decide +kernel
theorem dX12_isPress_1 : decode cX12_isPress 1 = .ok (.iconst 0, 1) := by decide +kernel
theorem dX12_isPress_2 : decode cX12_isPress 2 = .ok (.bipush 99, 2) := by decide +kernel
theorem dX12_isPress_4 : decode cX12_isPress 4 = .ok (.invokestatic 58, 3) := by decide +kernel
theorem dX12_isPress_7 : decode cX12_isPress 7 = .ok (.ireturn, 1) := by decide +kernel
theorem dX12_gap_0 : decode cX12_gap 0 = .ok (.aload_n 0, 1) := by decide +kernel
theorem dX12_gap_1 : decode cX12_gap 1 = .ok (.aload_n 1, 1) := by decide +kernel
theorem dX12_gap_2 : decode cX12_gap 2 = .ok (.iload_n 2, 1) := by decide +kernel
theorem dX12_gap_3 : decode cX12_gap 3 = .ok (.iaload, 1) := by decide +kernel
theorem dX12_gap_4 : decode cX12_gap 4 = .ok (.invokevirtual 100, 3) := by decide +kernel
theorem dX12_gap_7 : decode cX12_gap 7 = .ok (.aload_n 0, 1) := by decide +kernel
theorem dX12_gap_8 : decode cX12_gap 8 = .ok (.aload_n 1, 1) := by decide +kernel
theorem dX12_gap_9 : decode cX12_gap 9 = .ok (.iload_n 2, 1) := by decide +kernel
theorem dX12_gap_10 : decode cX12_gap 10 = .ok (.iconst 1, 1) := by decide +kernel
theorem dX12_gap_11 : decode cX12_gap 11 = .ok (.iadd, 1) := by decide +kernel
theorem dX12_gap_12 : decode cX12_gap 12 = .ok (.aload_n 0, 1) := by decide +kernel
theorem dX12_gap_13 : decode cX12_gap 13 = .ok (.getfield 124, 3) := by decide +kernel
theorem dX12_gap_16 : decode cX12_gap 16 = .ok (.irem, 1) := by decide +kernel
theorem dX12_gap_17 : decode cX12_gap 17 = .ok (.iaload, 1) := by decide +kernel
theorem dX12_gap_18 : decode cX12_gap 18 = .ok (.invokevirtual 100, 3) := by decide +kernel
theorem dX12_gap_21 : decode cX12_gap 21 = .ok (.iadd, 1) := by decide +kernel
theorem dX12_gap_22 : decode cX12_gap 22 = .ok (.aload_n 0, 1) := by decide +kernel
theorem dX12_gap_23 : decode cX12_gap 23 = .ok (.getfield 9, 3) := by decide +kernel
theorem dX12_gap_26 : decode cX12_gap 26 = .ok (.iconst 3, 1) := by decide +kernel
theorem dX12_gap_27 : decode cX12_gap 27 = .ok (.iaload, 1) := by decide +kernel
theorem dX12_gap_28 : decode cX12_gap 28 = .ok (.isub, 1) := by decide +kernel
theorem dX12_gap_29 : decode cX12_gap 29 = .ok (.invokestatic 121, 3) := by decide +kernel
theorem dX12_gap_32 : decode cX12_gap 32 = .ok (.ireturn, 1) := by decide +kernel
theorem dX12_leakOf_0 : decode cX12_leakOf 0 = .ok (.iconst 0, 1) := by decide +kernel
theorem dX12_leakOf_1 : decode cX12_leakOf 1 = .ok (.istore_n 3, 1) := by decide +kernel
theorem dX12_leakOf_2 : decode cX12_leakOf 2 = .ok (.iconst 0, 1) := by decide +kernel
theorem dX12_leakOf_3 : decode cX12_leakOf 3 = .ok (.istore 4, 2) := by decide +kernel
theorem dX12_leakOf_5 : decode cX12_leakOf 5 = .ok (.iload 4, 2) := by decide +kernel
theorem dX12_leakOf_7 : decode cX12_leakOf 7 = .ok (.aload_n 0, 1) := by decide +kernel
theorem dX12_leakOf_8 : decode cX12_leakOf 8 = .ok (.getfield 124, 3) := by decide +kernel
theorem dX12_leakOf_11 : decode cX12_leakOf 11 = .ok (.if_icmp .ge 25, 3) := by decide +kernel
theorem dX12_leakOf_14 : decode cX12_leakOf 14 = .ok (.iload_n 3, 1) := by decide +kernel
theorem dX12_leakOf_15 : decode cX12_leakOf 15 = .ok (.iconst 0, 1) := by decide +kernel
theorem dX12_leakOf_16 : decode cX12_leakOf 16 = .ok (.aload_n 0, 1) := by decide +kernel
theorem dX12_leakOf_17 : decode cX12_leakOf 17 = .ok (.aload_n 1, 1) := by decide +kernel
theorem dX12_leakOf_18 : decode cX12_leakOf 18 = .ok (.iload 4, 2) := by decide +kernel
theorem dX12_leakOf_20 : decode cX12_leakOf 20 = .ok (.invokevirtual 127, 3) := by decide +kernel
theorem dX12_leakOf_23 : decode cX12_leakOf 23 = .ok (.iload_n 2, 1) := by decide +kernel
theorem dX12_leakOf_24 : decode cX12_leakOf 24 = .ok (.isub, 1) := by decide +kernel
theorem dX12_leakOf_25 : decode cX12_leakOf 25 = .ok (.invokestatic 83, 3) := by decide +kernel
theorem dX12_leakOf_28 : decode cX12_leakOf 28 = .ok (.iadd, 1) := by decide +kernel
theorem dX12_leakOf_29 : decode cX12_leakOf 29 = .ok (.istore_n 3, 1) := by decide +kernel
theorem dX12_leakOf_30 : decode cX12_leakOf 30 = .ok (.iinc 4 1, 3) := by decide +kernel
theorem dX12_leakOf_33 : decode cX12_leakOf 33 = .ok (.goto (-28), 3) := by decide +kernel
theorem dX12_leakOf_36 : decode cX12_leakOf 36 = .ok (.iload_n 3, 1) := by decide +kernel
theorem dX12_leakOf_37 : decode cX12_leakOf 37 = .ok (.ireturn, 1) := by decide +kernel
theorem dX12_goesRound_0 : decode cX12_goesRound 0 = .ok (.iload_n 1, 1) := by decide +kernel
theorem dX12_goesRound_1 : decode cX12_goesRound 1 = .ok (.ifCond .ne 131, 3) := by decide +kernel
theorem dX12_goesRound_4 : decode cX12_goesRound 4 = .ok (.aload_n 0, 1) := by decide +kernel
theorem dX12_goesRound_5 : decode cX12_goesRound 5 = .ok (.aload_n 0, 1) := by decide +kernel
theorem dX12_goesRound_6 : decode cX12_goesRound 6 = .ok (.getfield 27, 3) := by decide +kernel
theorem dX12_goesRound_9 : decode cX12_goesRound 9 = .ok (.iload_n 3, 1) := by decide +kernel
theorem dX12_goesRound_10 : decode cX12_goesRound 10 = .ok (.invokevirtual 131, 3) := by decide +kernel
theorem dX12_goesRound_13 : decode cX12_goesRound 13 = .ok (.istore 5, 2) := by decide +kernel
theorem dX12_goesRound_15 : decode cX12_goesRound 15 = .ok (.iload 5, 2) := by decide +kernel
theorem dX12_goesRound_17 : decode cX12_goesRound 17 = .ok (.iload 4, 2) := by decide +kernel
theorem dX12_goesRound_19 : decode cX12_goesRound 19 = .ok (.if_icmp .gt 13, 3) := by decide +kernel
theorem dX12_goesRound_22 : decode cX12_goesRound 22 = .ok (.aload_n 0, 1) := by decide +kernel
theorem dX12_goesRound_23 : decode cX12_goesRound 23 = .ok (.dup, 1) := by decide +kernel
theorem dX12_goesRound_24 : decode cX12_goesRound 24 = .ok (.getfield 134, 3) := by decide +kernel
theorem dX12_goesRound_27 : decode cX12_goesRound 27 = .ok (.iconst 1, 1) := by decide +kernel
theorem dX12_goesRound_28 : decode cX12_goesRound 28 = .ok (.iadd, 1) := by decide +kernel
theorem dX12_goesRound_29 : decode cX12_goesRound 29 = .ok (.putfield 134, 3) := by decide +kernel
theorem dX12_goesRound_32 : decode cX12_goesRound 32 = .ok (.iconst 0, 1) := by decide +kernel
theorem dX12_goesRound_33 : decode cX12_goesRound 33 = .ok (.istore 6, 2) := by decide +kernel
theorem dX12_goesRound_35 : decode cX12_goesRound 35 = .ok (.iconst 0, 1) := by decide +kernel
theorem dX12_goesRound_36 : decode cX12_goesRound 36 = .ok (.istore 7, 2) := by decide +kernel
theorem dX12_goesRound_38 : decode cX12_goesRound 38 = .ok (.iload 7, 2) := by decide +kernel
theorem dX12_goesRound_40 : decode cX12_goesRound 40 = .ok (.aload_n 0, 1) := by decide +kernel
theorem dX12_goesRound_41 : decode cX12_goesRound 41 = .ok (.getfield 124, 3) := by decide +kernel
theorem dX12_goesRound_44 : decode cX12_goesRound 44 = .ok (.if_icmp .ge 26, 3) := by decide +kernel
theorem dX12_goesRound_47 : decode cX12_goesRound 47 = .ok (.iload 6, 2) := by decide +kernel
theorem dX12_goesRound_49 : decode cX12_goesRound 49 = .ok (.aload_n 0, 1) := by decide +kernel
theorem dX12_goesRound_50 : decode cX12_goesRound 50 = .ok (.aload_n 0, 1) := by decide +kernel
theorem dX12_goesRound_51 : decode cX12_goesRound 51 = .ok (.getfield 27, 3) := by decide +kernel
theorem dX12_goesRound_54 : decode cX12_goesRound 54 = .ok (.iload 7, 2) := by decide +kernel
theorem dX12_goesRound_56 : decode cX12_goesRound 56 = .ok (.invokevirtual 127, 3) := by decide +kernel
theorem dX12_goesRound_59 : decode cX12_goesRound 59 = .ok (.invokestatic 83, 3) := by decide +kernel
theorem dX12_goesRound_62 : decode cX12_goesRound 62 = .ok (.istore 6, 2) := by decide +kernel
theorem dX12_goesRound_64 : decode cX12_goesRound 64 = .ok (.iinc 7 1, 3) := by decide +kernel
theorem dX12_goesRound_67 : decode cX12_goesRound 67 = .ok (.goto (-29), 3) := by decide +kernel
theorem dX12_goesRound_70 : decode cX12_goesRound 70 = .ok (.aload_n 0, 1) := by decide +kernel
theorem dX12_goesRound_71 : decode cX12_goesRound 71 = .ok (.aload_n 0, 1) := by decide +kernel
theorem dX12_goesRound_72 : decode cX12_goesRound 72 = .ok (.getfield 137, 3) := by decide +kernel
theorem dX12_goesRound_75 : decode cX12_goesRound 75 = .ok (.iload 6, 2) := by decide +kernel
theorem dX12_goesRound_77 : decode cX12_goesRound 77 = .ok (.invokestatic 140, 3) := by decide +kernel
theorem dX12_goesRound_80 : decode cX12_goesRound 80 = .ok (.putfield 137, 3) := by decide +kernel
theorem dX12_goesRound_83 : decode cX12_goesRound 83 = .ok (.iload 5, 2) := by decide +kernel
theorem dX12_goesRound_85 : decode cX12_goesRound 85 = .ok (.aload_n 0, 1) := by decide +kernel
theorem dX12_goesRound_86 : decode cX12_goesRound 86 = .ok (.getfield 143, 3) := by decide +kernel
theorem dX12_goesRound_89 : decode cX12_goesRound 89 = .ok (.if_icmp .lt 4, 3) := by decide +kernel
theorem dX12_goesRound_92 : decode cX12_goesRound 92 = .ok (.return_, 1) := by decide +kernel
theorem dX12_goesRound_93 : decode cX12_goesRound 93 = .ok (.aload_n 0, 1) := by decide +kernel
theorem dX12_goesRound_94 : decode cX12_goesRound 94 = .ok (.iload 5, 2) := by decide +kernel
theorem dX12_goesRound_96 : decode cX12_goesRound 96 = .ok (.putfield 143, 3) := by decide +kernel
theorem dX12_goesRound_99 : decode cX12_goesRound 99 = .ok (.iconst 0, 1) := by decide +kernel
theorem dX12_goesRound_100 : decode cX12_goesRound 100 = .ok (.istore 7, 2) := by decide +kernel
theorem dX12_goesRound_102 : decode cX12_goesRound 102 = .ok (.iload 7, 2) := by decide +kernel
theorem dX12_goesRound_104 : decode cX12_goesRound 104 = .ok (.aload_n 0, 1) := by decide +kernel
theorem dX12_goesRound_105 : decode cX12_goesRound 105 = .ok (.getfield 124, 3) := by decide +kernel
theorem dX12_goesRound_108 : decode cX12_goesRound 108 = .ok (.if_icmp .ge 23, 3) := by decide +kernel
theorem dX12_goesRound_111 : decode cX12_goesRound 111 = .ok (.aload_n 0, 1) := by decide +kernel
theorem dX12_goesRound_112 : decode cX12_goesRound 112 = .ok (.getfield 30, 3) := by decide +kernel
theorem dX12_goesRound_115 : decode cX12_goesRound 115 = .ok (.iload 7, 2) := by decide +kernel
theorem dX12_goesRound_117 : decode cX12_goesRound 117 = .ok (.aload_n 0, 1) := by decide +kernel
theorem dX12_goesRound_118 : decode cX12_goesRound 118 = .ok (.getfield 27, 3) := by decide +kernel
theorem dX12_goesRound_121 : decode cX12_goesRound 121 = .ok (.iload 7, 2) := by decide +kernel
theorem dX12_goesRound_123 : decode cX12_goesRound 123 = .ok (.iaload, 1) := by decide +kernel
theorem dX12_goesRound_124 : decode cX12_goesRound 124 = .ok (.iastore, 1) := by decide +kernel
theorem dX12_goesRound_125 : decode cX12_goesRound 125 = .ok (.iinc 7 1, 3) := by decide +kernel
theorem dX12_goesRound_128 : decode cX12_goesRound 128 = .ok (.goto (-26), 3) := by decide +kernel
theorem dX12_goesRound_131 : decode cX12_goesRound 131 = .ok (.return_, 1) := by decide +kernel
theorem dX12_goesRound_132 : decode cX12_goesRound 132 = .ok (.iconst 0, 1) := by decide +kernel
theorem dX12_goesRound_133 : decode cX12_goesRound 133 = .ok (.istore 5, 2) := by decide +kernel
theorem dX12_goesRound_135 : decode cX12_goesRound 135 = .ok (.iload 5, 2) := by decide +kernel
theorem dX12_goesRound_137 : decode cX12_goesRound 137 = .ok (.aload_n 0, 1) := by decide +kernel
theorem dX12_goesRound_138 : decode cX12_goesRound 138 = .ok (.getfield 9, 3) := by decide +kernel
theorem dX12_goesRound_141 : decode cX12_goesRound 141 = .ok (.iconst 4, 1) := by decide +kernel
theorem dX12_goesRound_142 : decode cX12_goesRound 142 = .ok (.iaload, 1) := by decide +kernel
theorem dX12_goesRound_143 : decode cX12_goesRound 143 = .ok (.if_icmp .ge 47, 3) := by decide +kernel
theorem dX12_goesRound_146 : decode cX12_goesRound 146 = .ok (.iload_n 1, 1) := by decide +kernel
theorem dX12_goesRound_147 : decode cX12_goesRound 147 = .ok (.iload 5, 2) := by decide +kernel
theorem dX12_goesRound_149 : decode cX12_goesRound 149 = .ok (.ishr, 1) := by decide +kernel
theorem dX12_goesRound_150 : decode cX12_goesRound 150 = .ok (.iconst 1, 1) := by decide +kernel
theorem dX12_goesRound_151 : decode cX12_goesRound 151 = .ok (.iand, 1) := by decide +kernel
theorem dX12_goesRound_152 : decode cX12_goesRound 152 = .ok (.ifCond .ne 6, 3) := by decide +kernel
theorem dX12_goesRound_155 : decode cX12_goesRound 155 = .ok (.goto 29, 3) := by decide +kernel
theorem dX12_goesRound_158 : decode cX12_goesRound 158 = .ok (.aload_n 0, 1) := by decide +kernel
theorem dX12_goesRound_159 : decode cX12_goesRound 159 = .ok (.getfield 27, 3) := by decide +kernel
theorem dX12_goesRound_162 : decode cX12_goesRound 162 = .ok (.iload_n 2, 1) := by decide +kernel
theorem dX12_goesRound_163 : decode cX12_goesRound 163 = .ok (.iload 5, 2) := by decide +kernel
theorem dX12_goesRound_165 : decode cX12_goesRound 165 = .ok (.iastore, 1) := by decide +kernel
theorem dX12_goesRound_166 : decode cX12_goesRound 166 = .ok (.aload_n 0, 1) := by decide +kernel
theorem dX12_goesRound_167 : decode cX12_goesRound 167 = .ok (.iload_n 1, 1) := by decide +kernel
theorem dX12_goesRound_168 : decode cX12_goesRound 168 = .ok (.iconst 1, 1) := by decide +kernel
theorem dX12_goesRound_169 : decode cX12_goesRound 169 = .ok (.iload 5, 2) := by decide +kernel
theorem dX12_goesRound_171 : decode cX12_goesRound 171 = .ok (.ishl, 1) := by decide +kernel
theorem dX12_goesRound_172 : decode cX12_goesRound 172 = .ok (.iconst (-1), 1) := by decide +kernel
theorem dX12_goesRound_173 : decode cX12_goesRound 173 = .ok (.ixor, 1) := by decide +kernel
theorem dX12_goesRound_174 : decode cX12_goesRound 174 = .ok (.iand, 1) := by decide +kernel
theorem dX12_goesRound_175 : decode cX12_goesRound 175 = .ok (.iload_n 2, 1) := by decide +kernel
theorem dX12_goesRound_176 : decode cX12_goesRound 176 = .ok (.iconst 1, 1) := by decide +kernel
theorem dX12_goesRound_177 : decode cX12_goesRound 177 = .ok (.iadd, 1) := by decide +kernel
theorem dX12_goesRound_178 : decode cX12_goesRound 178 = .ok (.iload_n 3, 1) := by decide +kernel
theorem dX12_goesRound_179 : decode cX12_goesRound 179 = .ok (.iload 4, 2) := by decide +kernel
theorem dX12_goesRound_181 : decode cX12_goesRound 181 = .ok (.invokevirtual 146, 3) := by decide +kernel
theorem dX12_goesRound_184 : decode cX12_goesRound 184 = .ok (.iinc 5 1, 3) := by decide +kernel
theorem dX12_goesRound_187 : decode cX12_goesRound 187 = .ok (.goto (-52), 3) := by decide +kernel
theorem dX12_goesRound_190 : decode cX12_goesRound 190 = .ok (.return_, 1) := by decide +kernel
theorem dX12_rounds_0 : decode cX12_rounds 0 = .ok (.iconst 0, 1) := by decide +kernel
theorem dX12_rounds_1 : decode cX12_rounds 1 = .ok (.istore 4, 2) := by decide +kernel
theorem dX12_rounds_3 : decode cX12_rounds 3 = .ok (.iload_n 1, 1) := by decide +kernel
theorem dX12_rounds_4 : decode cX12_rounds 4 = .ok (.iload 4, 2) := by decide +kernel
theorem dX12_rounds_6 : decode cX12_rounds 6 = .ok (.ishr, 1) := by decide +kernel
theorem dX12_rounds_7 : decode cX12_rounds 7 = .ok (.iconst 1, 1) := by decide +kernel
theorem dX12_rounds_8 : decode cX12_rounds 8 = .ok (.iand, 1) := by decide +kernel
theorem dX12_rounds_9 : decode cX12_rounds 9 = .ok (.ifCond .ne 9, 3) := by decide +kernel
theorem dX12_rounds_12 : decode cX12_rounds 12 = .ok (.iinc 4 1, 3) := by decide +kernel
theorem dX12_rounds_15 : decode cX12_rounds 15 = .ok (.goto (-12), 3) := by decide +kernel
theorem dX12_rounds_18 : decode cX12_rounds 18 = .ok (.aload_n 0, 1) := by decide +kernel
theorem dX12_rounds_19 : decode cX12_rounds 19 = .ok (.iload_n 1, 1) := by decide +kernel
theorem dX12_rounds_20 : decode cX12_rounds 20 = .ok (.invokestatic 115, 3) := by decide +kernel
theorem dX12_rounds_23 : decode cX12_rounds 23 = .ok (.putfield 124, 3) := by decide +kernel
theorem dX12_rounds_26 : decode cX12_rounds 26 = .ok (.aload_n 0, 1) := by decide +kernel
theorem dX12_rounds_27 : decode cX12_rounds 27 = .ok (.ldc 120, 2) := by decide +kernel
theorem dX12_rounds_29 : decode cX12_rounds 29 = .ok (.putfield 143, 3) := by decide +kernel
theorem dX12_rounds_32 : decode cX12_rounds 32 = .ok (.aload_n 0, 1) := by decide +kernel
theorem dX12_rounds_33 : decode cX12_rounds 33 = .ok (.ldc 120, 2) := by decide +kernel
theorem dX12_rounds_35 : decode cX12_rounds 35 = .ok (.putfield 137, 3) := by decide +kernel
theorem dX12_rounds_38 : decode cX12_rounds 38 = .ok (.aload_n 0, 1) := by decide +kernel
theorem dX12_rounds_39 : decode cX12_rounds 39 = .ok (.iconst 0, 1) := by decide +kernel
theorem dX12_rounds_40 : decode cX12_rounds 40 = .ok (.putfield 134, 3) := by decide +kernel
theorem dX12_rounds_43 : decode cX12_rounds 43 = .ok (.aload_n 0, 1) := by decide +kernel
theorem dX12_rounds_44 : decode cX12_rounds 44 = .ok (.getfield 27, 3) := by decide +kernel
theorem dX12_rounds_47 : decode cX12_rounds 47 = .ok (.iconst 0, 1) := by decide +kernel
theorem dX12_rounds_48 : decode cX12_rounds 48 = .ok (.iload 4, 2) := by decide +kernel
theorem dX12_rounds_50 : decode cX12_rounds 50 = .ok (.iastore, 1) := by decide +kernel
theorem dX12_rounds_51 : decode cX12_rounds 51 = .ok (.aload_n 0, 1) := by decide +kernel
theorem dX12_rounds_52 : decode cX12_rounds 52 = .ok (.iload_n 1, 1) := by decide +kernel
theorem dX12_rounds_53 : decode cX12_rounds 53 = .ok (.iconst 1, 1) := by decide +kernel
theorem dX12_rounds_54 : decode cX12_rounds 54 = .ok (.iload 4, 2) := by decide +kernel
theorem dX12_rounds_56 : decode cX12_rounds 56 = .ok (.ishl, 1) := by decide +kernel
theorem dX12_rounds_57 : decode cX12_rounds 57 = .ok (.iconst (-1), 1) := by decide +kernel
theorem dX12_rounds_58 : decode cX12_rounds 58 = .ok (.ixor, 1) := by decide +kernel
theorem dX12_rounds_59 : decode cX12_rounds 59 = .ok (.iand, 1) := by decide +kernel
theorem dX12_rounds_60 : decode cX12_rounds 60 = .ok (.iconst 1, 1) := by decide +kernel
theorem dX12_rounds_61 : decode cX12_rounds 61 = .ok (.iload_n 2, 1) := by decide +kernel
theorem dX12_rounds_62 : decode cX12_rounds 62 = .ok (.iload_n 3, 1) := by decide +kernel
theorem dX12_rounds_63 : decode cX12_rounds 63 = .ok (.invokevirtual 146, 3) := by decide +kernel
theorem dX12_rounds_66 : decode cX12_rounds 66 = .ok (.return_, 1) := by decide +kernel
theorem dX12_least_0 : decode cX12_least 0 = .ok (.aload_n 0, 1) := by decide +kernel
theorem dX12_least_1 : decode cX12_least 1 = .ok (.iload_n 1, 1) := by decide +kernel
theorem dX12_least_2 : decode cX12_least 2 = .ok (.invokevirtual 150, 3) := by decide +kernel
theorem dX12_least_5 : decode cX12_least 5 = .ok (.ifCond .eq 19, 3) := by decide +kernel
theorem dX12_least_8 : decode cX12_least 8 = .ok (.iload_n 2, 1) := by decide +kernel
theorem dX12_least_9 : decode cX12_least 9 = .ok (.invokestatic 153, 3) := by decide +kernel
theorem dX12_least_12 : decode cX12_least 12 = .ok (.ifCond .eq 12, 3) := by decide +kernel
theorem dX12_least_15 : decode cX12_least 15 = .ok (.iload_n 3, 1) := by decide +kernel
theorem dX12_least_16 : decode cX12_least 16 = .ok (.iconst 0, 1) := by decide +kernel
theorem dX12_least_17 : decode cX12_least 17 = .ok (.iconst 1, 1) := by decide +kernel
theorem dX12_least_18 : decode cX12_least 18 = .ok (.invokestatic 58, 3) := by decide +kernel
theorem dX12_least_21 : decode cX12_least 21 = .ok (.ifCond .ne 6, 3) := by decide +kernel
theorem dX12_least_24 : decode cX12_least 24 = .ok (.bipush (-2), 2) := by decide +kernel
theorem dX12_least_26 : decode cX12_least 26 = .ok (.ireturn, 1) := by decide +kernel
theorem dX12_least_27 : decode cX12_least 27 = .ok (.aload_n 0, 1) := by decide +kernel
theorem dX12_least_28 : decode cX12_least 28 = .ok (.iload_n 1, 1) := by decide +kernel
theorem dX12_least_29 : decode cX12_least 29 = .ok (.iload_n 2, 1) := by decide +kernel
theorem dX12_least_30 : decode cX12_least 30 = .ok (.iconst 0, 1) := by decide +kernel
theorem dX12_least_31 : decode cX12_least 31 = .ok (.invokevirtual 156, 3) := by decide +kernel
theorem dX12_least_34 : decode cX12_least 34 = .ok (.iload_n 3, 1) := by decide +kernel
theorem dX12_least_35 : decode cX12_least 35 = .ok (.ifCond .ne 8, 3) := by decide +kernel
theorem dX12_least_38 : decode cX12_least 38 = .ok (.aload_n 0, 1) := by decide +kernel
theorem dX12_least_39 : decode cX12_least 39 = .ok (.getfield 143, 3) := by decide +kernel
theorem dX12_least_42 : decode cX12_least 42 = .ok (.ireturn, 1) := by decide +kernel
theorem dX12_least_43 : decode cX12_least 43 = .ok (.iconst 0, 1) := by decide +kernel
theorem dX12_least_44 : decode cX12_least 44 = .ok (.istore 4, 2) := by decide +kernel
theorem dX12_least_46 : decode cX12_least 46 = .ok (.iconst 0, 1) := by decide +kernel
theorem dX12_least_47 : decode cX12_least 47 = .ok (.istore 5, 2) := by decide +kernel
theorem dX12_least_49 : decode cX12_least 49 = .ok (.iload 5, 2) := by decide +kernel
theorem dX12_least_51 : decode cX12_least 51 = .ok (.aload_n 0, 1) := by decide +kernel
theorem dX12_least_52 : decode cX12_least 52 = .ok (.getfield 124, 3) := by decide +kernel
theorem dX12_least_55 : decode cX12_least 55 = .ok (.if_icmp .ge 26, 3) := by decide +kernel
theorem dX12_least_58 : decode cX12_least 58 = .ok (.bipush 10, 2) := by decide +kernel
theorem dX12_least_60 : decode cX12_least 60 = .ok (.iload 4, 2) := by decide +kernel
theorem dX12_least_62 : decode cX12_least 62 = .ok (.imul, 1) := by decide +kernel
theorem dX12_least_63 : decode cX12_least 63 = .ok (.aload_n 0, 1) := by decide +kernel
theorem dX12_least_64 : decode cX12_least 64 = .ok (.getfield 30, 3) := by decide +kernel
theorem dX12_least_67 : decode cX12_least 67 = .ok (.iload 5, 2) := by decide +kernel
theorem dX12_least_69 : decode cX12_least 69 = .ok (.iaload, 1) := by decide +kernel
theorem dX12_least_70 : decode cX12_least 70 = .ok (.iadd, 1) := by decide +kernel
theorem dX12_least_71 : decode cX12_least 71 = .ok (.iconst 1, 1) := by decide +kernel
theorem dX12_least_72 : decode cX12_least 72 = .ok (.iadd, 1) := by decide +kernel
theorem dX12_least_73 : decode cX12_least 73 = .ok (.istore 4, 2) := by decide +kernel
theorem dX12_least_75 : decode cX12_least 75 = .ok (.iinc 5 1, 3) := by decide +kernel
theorem dX12_least_78 : decode cX12_least 78 = .ok (.goto (-29), 3) := by decide +kernel
theorem dX12_least_81 : decode cX12_least 81 = .ok (.iload 4, 2) := by decide +kernel
theorem dX12_least_83 : decode cX12_least 83 = .ok (.ireturn, 1) := by decide +kernel
theorem dX12_isRing_0 : decode cX12_isRing 0 = .ok (.iload_n 1, 1) := by decide +kernel
theorem dX12_isRing_1 : decode cX12_isRing 1 = .ok (.iconst 1, 1) := by decide +kernel
theorem dX12_isRing_2 : decode cX12_isRing 2 = .ok (.if_icmp .ge 5, 3) := by decide +kernel
theorem dX12_isRing_5 : decode cX12_isRing 5 = .ok (.iconst 0, 1) := by decide +kernel
theorem dX12_isRing_6 : decode cX12_isRing 6 = .ok (.ireturn, 1) := by decide +kernel
theorem dX12_isRing_7 : decode cX12_isRing 7 = .ok (.iconst 0, 1) := by decide +kernel
theorem dX12_isRing_8 : decode cX12_isRing 8 = .ok (.istore_n 2, 1) := by decide +kernel
theorem dX12_isRing_9 : decode cX12_isRing 9 = .ok (.iload_n 1, 1) := by decide +kernel
theorem dX12_isRing_10 : decode cX12_isRing 10 = .ok (.istore_n 3, 1) := by decide +kernel
theorem dX12_isRing_11 : decode cX12_isRing 11 = .ok (.iload_n 3, 1) := by decide +kernel
theorem dX12_isRing_12 : decode cX12_isRing 12 = .ok (.ifCond .le 14, 3) := by decide +kernel
theorem dX12_isRing_15 : decode cX12_isRing 15 = .ok (.iload_n 3, 1) := by decide +kernel
theorem dX12_isRing_16 : decode cX12_isRing 16 = .ok (.bipush 10, 2) := by decide +kernel
theorem dX12_isRing_18 : decode cX12_isRing 18 = .ok (.idiv, 1) := by decide +kernel
theorem dX12_isRing_19 : decode cX12_isRing 19 = .ok (.istore_n 3, 1) := by decide +kernel
theorem dX12_isRing_20 : decode cX12_isRing 20 = .ok (.iinc 2 1, 3) := by decide +kernel
theorem dX12_isRing_23 : decode cX12_isRing 23 = .ok (.goto (-12), 3) := by decide +kernel
theorem dX12_isRing_26 : decode cX12_isRing 26 = .ok (.iload_n 2, 1) := by decide +kernel
theorem dX12_isRing_27 : decode cX12_isRing 27 = .ok (.bipush 8, 2) := by decide +kernel
theorem dX12_isRing_29 : decode cX12_isRing 29 = .ok (.if_icmp .le 5, 3) := by decide +kernel
theorem dX12_isRing_32 : decode cX12_isRing 32 = .ok (.iconst 0, 1) := by decide +kernel
theorem dX12_isRing_33 : decode cX12_isRing 33 = .ok (.ireturn, 1) := by decide +kernel
theorem dX12_isRing_34 : decode cX12_isRing 34 = .ok (.aload_n 0, 1) := by decide +kernel
theorem dX12_isRing_35 : decode cX12_isRing 35 = .ok (.iload_n 2, 1) := by decide +kernel
theorem dX12_isRing_36 : decode cX12_isRing 36 = .ok (.putfield 124, 3) := by decide +kernel
theorem dX12_isRing_39 : decode cX12_isRing 39 = .ok (.iload_n 1, 1) := by decide +kernel
theorem dX12_isRing_40 : decode cX12_isRing 40 = .ok (.istore_n 3, 1) := by decide +kernel
theorem dX12_isRing_41 : decode cX12_isRing 41 = .ok (.iconst 0, 1) := by decide +kernel
theorem dX12_isRing_42 : decode cX12_isRing 42 = .ok (.istore 4, 2) := by decide +kernel
theorem dX12_isRing_44 : decode cX12_isRing 44 = .ok (.iload_n 2, 1) := by decide +kernel
theorem dX12_isRing_45 : decode cX12_isRing 45 = .ok (.iconst 1, 1) := by decide +kernel
theorem dX12_isRing_46 : decode cX12_isRing 46 = .ok (.isub, 1) := by decide +kernel
theorem dX12_isRing_47 : decode cX12_isRing 47 = .ok (.istore 5, 2) := by decide +kernel
theorem dX12_isRing_49 : decode cX12_isRing 49 = .ok (.iload 5, 2) := by decide +kernel
theorem dX12_isRing_51 : decode cX12_isRing 51 = .ok (.ifCond .lt 62, 3) := by decide +kernel
theorem dX12_isRing_54 : decode cX12_isRing 54 = .ok (.iload_n 3, 1) := by decide +kernel
theorem dX12_isRing_55 : decode cX12_isRing 55 = .ok (.bipush 10, 2) := by decide +kernel
theorem dX12_isRing_57 : decode cX12_isRing 57 = .ok (.irem, 1) := by decide +kernel
theorem dX12_isRing_58 : decode cX12_isRing 58 = .ok (.iconst 1, 1) := by decide +kernel
theorem dX12_isRing_59 : decode cX12_isRing 59 = .ok (.isub, 1) := by decide +kernel
theorem dX12_isRing_60 : decode cX12_isRing 60 = .ok (.istore 6, 2) := by decide +kernel
theorem dX12_isRing_62 : decode cX12_isRing 62 = .ok (.aload_n 0, 1) := by decide +kernel
theorem dX12_isRing_63 : decode cX12_isRing 63 = .ok (.iload 6, 2) := by decide +kernel
theorem dX12_isRing_65 : decode cX12_isRing 65 = .ok (.invokevirtual 96, 3) := by decide +kernel
theorem dX12_isRing_68 : decode cX12_isRing 68 = .ok (.ifCond .eq 14, 3) := by decide +kernel
theorem dX12_isRing_71 : decode cX12_isRing 71 = .ok (.iload 4, 2) := by decide +kernel
theorem dX12_isRing_73 : decode cX12_isRing 73 = .ok (.iload 6, 2) := by decide +kernel
theorem dX12_isRing_75 : decode cX12_isRing 75 = .ok (.ishr, 1) := by decide +kernel
theorem dX12_isRing_76 : decode cX12_isRing 76 = .ok (.iconst 1, 1) := by decide +kernel
theorem dX12_isRing_77 : decode cX12_isRing 77 = .ok (.iand, 1) := by decide +kernel
theorem dX12_isRing_78 : decode cX12_isRing 78 = .ok (.iconst 1, 1) := by decide +kernel
theorem dX12_isRing_79 : decode cX12_isRing 79 = .ok (.if_icmp .ne 5, 3) := by decide +kernel
theorem dX12_isRing_82 : decode cX12_isRing 82 = .ok (.iconst 0, 1) := by decide +kernel
theorem dX12_isRing_83 : decode cX12_isRing 83 = .ok (.ireturn, 1) := by decide +kernel
theorem dX12_isRing_84 : decode cX12_isRing 84 = .ok (.iload 4, 2) := by decide +kernel
theorem dX12_isRing_86 : decode cX12_isRing 86 = .ok (.iconst 1, 1) := by decide +kernel
theorem dX12_isRing_87 : decode cX12_isRing 87 = .ok (.iload 6, 2) := by decide +kernel
theorem dX12_isRing_89 : decode cX12_isRing 89 = .ok (.ishl, 1) := by decide +kernel
theorem dX12_isRing_90 : decode cX12_isRing 90 = .ok (.ior, 1) := by decide +kernel
theorem dX12_isRing_91 : decode cX12_isRing 91 = .ok (.istore 4, 2) := by decide +kernel
theorem dX12_isRing_93 : decode cX12_isRing 93 = .ok (.aload_n 0, 1) := by decide +kernel
theorem dX12_isRing_94 : decode cX12_isRing 94 = .ok (.getfield 27, 3) := by decide +kernel
theorem dX12_isRing_97 : decode cX12_isRing 97 = .ok (.iload 5, 2) := by decide +kernel
theorem dX12_isRing_99 : decode cX12_isRing 99 = .ok (.iload 6, 2) := by decide +kernel
theorem dX12_isRing_101 : decode cX12_isRing 101 = .ok (.iastore, 1) := by decide +kernel
theorem dX12_isRing_102 : decode cX12_isRing 102 = .ok (.iload_n 3, 1) := by decide +kernel
theorem dX12_isRing_103 : decode cX12_isRing 103 = .ok (.bipush 10, 2) := by decide +kernel
theorem dX12_isRing_105 : decode cX12_isRing 105 = .ok (.idiv, 1) := by decide +kernel
theorem dX12_isRing_106 : decode cX12_isRing 106 = .ok (.istore_n 3, 1) := by decide +kernel
theorem dX12_isRing_107 : decode cX12_isRing 107 = .ok (.iinc 5 (-1), 3) := by decide +kernel
theorem dX12_isRing_110 : decode cX12_isRing 110 = .ok (.goto (-61), 3) := by decide +kernel
theorem dX12_isRing_113 : decode cX12_isRing 113 = .ok (.iload 4, 2) := by decide +kernel
theorem dX12_isRing_115 : decode cX12_isRing 115 = .ok (.iconst 1, 1) := by decide +kernel
theorem dX12_isRing_116 : decode cX12_isRing 116 = .ok (.aload_n 0, 1) := by decide +kernel
theorem dX12_isRing_117 : decode cX12_isRing 117 = .ok (.getfield 27, 3) := by decide +kernel
theorem dX12_isRing_120 : decode cX12_isRing 120 = .ok (.iconst 0, 1) := by decide +kernel
theorem dX12_isRing_121 : decode cX12_isRing 121 = .ok (.iaload, 1) := by decide +kernel
theorem dX12_isRing_122 : decode cX12_isRing 122 = .ok (.ishl, 1) := by decide +kernel
theorem dX12_isRing_123 : decode cX12_isRing 123 = .ok (.iconst 1, 1) := by decide +kernel
theorem dX12_isRing_124 : decode cX12_isRing 124 = .ok (.isub, 1) := by decide +kernel
theorem dX12_isRing_125 : decode cX12_isRing 125 = .ok (.iand, 1) := by decide +kernel
theorem dX12_isRing_126 : decode cX12_isRing 126 = .ok (.ifCond .ne 7, 3) := by decide +kernel
theorem dX12_isRing_129 : decode cX12_isRing 129 = .ok (.iconst 1, 1) := by decide +kernel
theorem dX12_isRing_130 : decode cX12_isRing 130 = .ok (.goto 4, 3) := by decide +kernel
theorem dX12_isRing_133 : decode cX12_isRing 133 = .ok (.iconst 0, 1) := by decide +kernel
theorem dX12_isRing_134 : decode cX12_isRing 134 = .ok (.ireturn, 1) := by decide +kernel
theorem dX12_leak_0 : decode cX12_leak 0 = .ok (.aload_n 0, 1) := by decide +kernel
theorem dX12_leak_1 : decode cX12_leak 1 = .ok (.iload_n 1, 1) := by decide +kernel
theorem dX12_leak_2 : decode cX12_leak 2 = .ok (.invokevirtual 160, 3) := by decide +kernel
theorem dX12_leak_5 : decode cX12_leak 5 = .ok (.ifCond .eq 22, 3) := by decide +kernel
theorem dX12_leak_8 : decode cX12_leak 8 = .ok (.iload_n 2, 1) := by decide +kernel
theorem dX12_leak_9 : decode cX12_leak 9 = .ok (.invokestatic 153, 3) := by decide +kernel
theorem dX12_leak_12 : decode cX12_leak 12 = .ok (.ifCond .eq 15, 3) := by decide +kernel
theorem dX12_leak_15 : decode cX12_leak 15 = .ok (.aload_n 0, 1) := by decide +kernel
theorem dX12_leak_16 : decode cX12_leak 16 = .ok (.aload_n 0, 1) := by decide +kernel
theorem dX12_leak_17 : decode cX12_leak 17 = .ok (.getfield 27, 3) := by decide +kernel
theorem dX12_leak_20 : decode cX12_leak 20 = .ok (.iload_n 2, 1) := by decide +kernel
theorem dX12_leak_21 : decode cX12_leak 21 = .ok (.invokevirtual 131, 3) := by decide +kernel
theorem dX12_leak_24 : decode cX12_leak 24 = .ok (.goto 5, 3) := by decide +kernel
theorem dX12_leak_27 : decode cX12_leak 27 = .ok (.bipush (-2), 2) := by decide +kernel
theorem dX12_leak_29 : decode cX12_leak 29 = .ok (.ireturn, 1) := by decide +kernel
theorem dX12_worst_0 : decode cX12_worst 0 = .ok (.aload_n 0, 1) := by decide +kernel
theorem dX12_worst_1 : decode cX12_worst 1 = .ok (.iload_n 1, 1) := by decide +kernel
theorem dX12_worst_2 : decode cX12_worst 2 = .ok (.invokevirtual 160, 3) := by decide +kernel
theorem dX12_worst_5 : decode cX12_worst 5 = .ok (.ifCond .eq 12, 3) := by decide +kernel
theorem dX12_worst_8 : decode cX12_worst 8 = .ok (.iload_n 3, 1) := by decide +kernel
theorem dX12_worst_9 : decode cX12_worst 9 = .ok (.iconst 0, 1) := by decide +kernel
theorem dX12_worst_10 : decode cX12_worst 10 = .ok (.iconst 1, 1) := by decide +kernel
theorem dX12_worst_11 : decode cX12_worst 11 = .ok (.invokestatic 58, 3) := by decide +kernel
theorem dX12_worst_14 : decode cX12_worst 14 = .ok (.ifCond .ne 6, 3) := by decide +kernel
theorem dX12_worst_17 : decode cX12_worst 17 = .ok (.bipush (-2), 2) := by decide +kernel
theorem dX12_worst_19 : decode cX12_worst 19 = .ok (.ireturn, 1) := by decide +kernel
theorem dX12_worst_20 : decode cX12_worst 20 = .ok (.iload_n 2, 1) := by decide +kernel
theorem dX12_worst_21 : decode cX12_worst 21 = .ok (.iconst 0, 1) := by decide +kernel
theorem dX12_worst_22 : decode cX12_worst 22 = .ok (.aload_n 0, 1) := by decide +kernel
theorem dX12_worst_23 : decode cX12_worst 23 = .ok (.getfield 124, 3) := by decide +kernel
theorem dX12_worst_26 : decode cX12_worst 26 = .ok (.iconst 1, 1) := by decide +kernel
theorem dX12_worst_27 : decode cX12_worst 27 = .ok (.isub, 1) := by decide +kernel
theorem dX12_worst_28 : decode cX12_worst 28 = .ok (.invokestatic 58, 3) := by decide +kernel
theorem dX12_worst_31 : decode cX12_worst 31 = .ok (.ifCond .ne 5, 3) := by decide +kernel
theorem dX12_worst_34 : decode cX12_worst 34 = .ok (.iconst (-1), 1) := by decide +kernel
theorem dX12_worst_35 : decode cX12_worst 35 = .ok (.ireturn, 1) := by decide +kernel
theorem dX12_worst_36 : decode cX12_worst 36 = .ok (.iconst 0, 1) := by decide +kernel
theorem dX12_worst_37 : decode cX12_worst 37 = .ok (.istore 4, 2) := by decide +kernel
theorem dX12_worst_39 : decode cX12_worst 39 = .ok (.iload 4, 2) := by decide +kernel
theorem dX12_worst_41 : decode cX12_worst 41 = .ok (.aload_n 0, 1) := by decide +kernel
theorem dX12_worst_42 : decode cX12_worst 42 = .ok (.getfield 124, 3) := by decide +kernel
theorem dX12_worst_45 : decode cX12_worst 45 = .ok (.if_icmp .ge 112, 3) := by decide +kernel
theorem dX12_worst_48 : decode cX12_worst 48 = .ok (.iconst 0, 1) := by decide +kernel
theorem dX12_worst_49 : decode cX12_worst 49 = .ok (.istore 5, 2) := by decide +kernel
theorem dX12_worst_51 : decode cX12_worst 51 = .ok (.iconst 0, 1) := by decide +kernel
theorem dX12_worst_52 : decode cX12_worst 52 = .ok (.istore 6, 2) := by decide +kernel
theorem dX12_worst_54 : decode cX12_worst 54 = .ok (.iload 6, 2) := by decide +kernel
theorem dX12_worst_56 : decode cX12_worst 56 = .ok (.aload_n 0, 1) := by decide +kernel
theorem dX12_worst_57 : decode cX12_worst 57 = .ok (.getfield 124, 3) := by decide +kernel
theorem dX12_worst_60 : decode cX12_worst 60 = .ok (.if_icmp .ge 65, 3) := by decide +kernel
theorem dX12_worst_63 : decode cX12_worst 63 = .ok (.aload_n 0, 1) := by decide +kernel
theorem dX12_worst_64 : decode cX12_worst 64 = .ok (.aload_n 0, 1) := by decide +kernel
theorem dX12_worst_65 : decode cX12_worst 65 = .ok (.getfield 27, 3) := by decide +kernel
theorem dX12_worst_68 : decode cX12_worst 68 = .ok (.iload 6, 2) := by decide +kernel
theorem dX12_worst_70 : decode cX12_worst 70 = .ok (.invokevirtual 127, 3) := by decide +kernel
theorem dX12_worst_73 : decode cX12_worst 73 = .ok (.aload_n 0, 1) := by decide +kernel
theorem dX12_worst_74 : decode cX12_worst 74 = .ok (.aload_n 0, 1) := by decide +kernel
theorem dX12_worst_75 : decode cX12_worst 75 = .ok (.getfield 27, 3) := by decide +kernel
theorem dX12_worst_78 : decode cX12_worst 78 = .ok (.iload 4, 2) := by decide +kernel
theorem dX12_worst_80 : decode cX12_worst 80 = .ok (.invokevirtual 127, 3) := by decide +kernel
theorem dX12_worst_83 : decode cX12_worst 83 = .ok (.if_icmp .gt 33, 3) := by decide +kernel
theorem dX12_worst_86 : decode cX12_worst 86 = .ok (.aload_n 0, 1) := by decide +kernel
theorem dX12_worst_87 : decode cX12_worst 87 = .ok (.aload_n 0, 1) := by decide +kernel
theorem dX12_worst_88 : decode cX12_worst 88 = .ok (.getfield 27, 3) := by decide +kernel
theorem dX12_worst_91 : decode cX12_worst 91 = .ok (.iload 6, 2) := by decide +kernel
theorem dX12_worst_93 : decode cX12_worst 93 = .ok (.invokevirtual 127, 3) := by decide +kernel
theorem dX12_worst_96 : decode cX12_worst 96 = .ok (.aload_n 0, 1) := by decide +kernel
theorem dX12_worst_97 : decode cX12_worst 97 = .ok (.aload_n 0, 1) := by decide +kernel
theorem dX12_worst_98 : decode cX12_worst 98 = .ok (.getfield 27, 3) := by decide +kernel
theorem dX12_worst_101 : decode cX12_worst 101 = .ok (.iload 4, 2) := by decide +kernel
theorem dX12_worst_103 : decode cX12_worst 103 = .ok (.invokevirtual 127, 3) := by decide +kernel
theorem dX12_worst_106 : decode cX12_worst 106 = .ok (.if_icmp .ne 13, 3) := by decide +kernel
theorem dX12_worst_109 : decode cX12_worst 109 = .ok (.iload 6, 2) := by decide +kernel
theorem dX12_worst_111 : decode cX12_worst 111 = .ok (.iload 4, 2) := by decide +kernel
theorem dX12_worst_113 : decode cX12_worst 113 = .ok (.if_icmp .ge 6, 3) := by decide +kernel
theorem dX12_worst_116 : decode cX12_worst 116 = .ok (.iinc 5 1, 3) := by decide +kernel
theorem dX12_worst_119 : decode cX12_worst 119 = .ok (.iinc 6 1, 3) := by decide +kernel
theorem dX12_worst_122 : decode cX12_worst 122 = .ok (.goto (-68), 3) := by decide +kernel
theorem dX12_worst_125 : decode cX12_worst 125 = .ok (.iload 5, 2) := by decide +kernel
theorem dX12_worst_127 : decode cX12_worst 127 = .ok (.iload_n 2, 1) := by decide +kernel
theorem dX12_worst_128 : decode cX12_worst 128 = .ok (.if_icmp .ne 23, 3) := by decide +kernel
theorem dX12_worst_131 : decode cX12_worst 131 = .ok (.iload_n 3, 1) := by decide +kernel
theorem dX12_worst_132 : decode cX12_worst 132 = .ok (.ifCond .ne 8, 3) := by decide +kernel
theorem dX12_worst_135 : decode cX12_worst 135 = .ok (.iload 4, 2) := by decide +kernel
theorem dX12_worst_137 : decode cX12_worst 137 = .ok (.goto 13, 3) := by decide +kernel
theorem dX12_worst_140 : decode cX12_worst 140 = .ok (.aload_n 0, 1) := by decide +kernel
theorem dX12_worst_141 : decode cX12_worst 141 = .ok (.aload_n 0, 1) := by decide +kernel
theorem dX12_worst_142 : decode cX12_worst 142 = .ok (.getfield 27, 3) := by decide +kernel
theorem dX12_worst_145 : decode cX12_worst 145 = .ok (.iload 4, 2) := by decide +kernel
theorem dX12_worst_147 : decode cX12_worst 147 = .ok (.invokevirtual 127, 3) := by decide +kernel
theorem dX12_worst_150 : decode cX12_worst 150 = .ok (.ireturn, 1) := by decide +kernel
theorem dX12_worst_151 : decode cX12_worst 151 = .ok (.iinc 4 1, 3) := by decide +kernel
theorem dX12_worst_154 : decode cX12_worst 154 = .ok (.goto (-115), 3) := by decide +kernel
theorem dX12_worst_157 : decode cX12_worst 157 = .ok (.iconst (-1), 1) := by decide +kernel
theorem dX12_worst_158 : decode cX12_worst 158 = .ok (.ireturn, 1) := by decide +kernel
theorem dX12_rings_0 : decode cX12_rings 0 = .ok (.aload_n 0, 1) := by decide +kernel
theorem dX12_rings_1 : decode cX12_rings 1 = .ok (.iload_n 1, 1) := by decide +kernel
theorem dX12_rings_2 : decode cX12_rings 2 = .ok (.invokevirtual 150, 3) := by decide +kernel
theorem dX12_rings_5 : decode cX12_rings 5 = .ok (.ifCond .eq 21, 3) := by decide +kernel
theorem dX12_rings_8 : decode cX12_rings 8 = .ok (.iload_n 2, 1) := by decide +kernel
theorem dX12_rings_9 : decode cX12_rings 9 = .ok (.invokestatic 153, 3) := by decide +kernel
theorem dX12_rings_12 : decode cX12_rings 12 = .ok (.ifCond .eq 14, 3) := by decide +kernel
theorem dX12_rings_15 : decode cX12_rings 15 = .ok (.iload_n 3, 1) := by decide +kernel
theorem dX12_rings_16 : decode cX12_rings 16 = .ok (.iconst 0, 1) := by decide +kernel
theorem dX12_rings_17 : decode cX12_rings 17 = .ok (.sipush 9999, 3) := by decide +kernel
theorem dX12_rings_20 : decode cX12_rings 20 = .ok (.invokestatic 58, 3) := by decide +kernel
theorem dX12_rings_23 : decode cX12_rings 23 = .ok (.ifCond .ne 6, 3) := by decide +kernel
theorem dX12_rings_26 : decode cX12_rings 26 = .ok (.bipush (-2), 2) := by decide +kernel
theorem dX12_rings_28 : decode cX12_rings 28 = .ok (.ireturn, 1) := by decide +kernel
theorem dX12_rings_29 : decode cX12_rings 29 = .ok (.aload_n 0, 1) := by decide +kernel
theorem dX12_rings_30 : decode cX12_rings 30 = .ok (.iload_n 1, 1) := by decide +kernel
theorem dX12_rings_31 : decode cX12_rings 31 = .ok (.iload_n 2, 1) := by decide +kernel
theorem dX12_rings_32 : decode cX12_rings 32 = .ok (.iload_n 3, 1) := by decide +kernel
theorem dX12_rings_33 : decode cX12_rings 33 = .ok (.invokevirtual 156, 3) := by decide +kernel
theorem dX12_rings_36 : decode cX12_rings 36 = .ok (.aload_n 0, 1) := by decide +kernel
theorem dX12_rings_37 : decode cX12_rings 37 = .ok (.getfield 134, 3) := by decide +kernel
theorem dX12_rings_40 : decode cX12_rings 40 = .ok (.ireturn, 1) := by decide +kernel
theorem dX12_girthAt_0 : decode cX12_girthAt 0 = .ok (.iconst 1, 1) := by decide +kernel
theorem dX12_girthAt_1 : decode cX12_girthAt 1 = .ok (.aload_n 0, 1) := by decide +kernel
theorem dX12_girthAt_2 : decode cX12_girthAt 2 = .ok (.getfield 9, 3) := by decide +kernel
theorem dX12_girthAt_5 : decode cX12_girthAt 5 = .ok (.iconst 0, 1) := by decide +kernel
theorem dX12_girthAt_6 : decode cX12_girthAt 6 = .ok (.iaload, 1) := by decide +kernel
theorem dX12_girthAt_7 : decode cX12_girthAt 7 = .ok (.aload_n 0, 1) := by decide +kernel
theorem dX12_girthAt_8 : decode cX12_girthAt 8 = .ok (.getfield 9, 3) := by decide +kernel
theorem dX12_girthAt_11 : decode cX12_girthAt 11 = .ok (.iconst 2, 1) := by decide +kernel
theorem dX12_girthAt_12 : decode cX12_girthAt 12 = .ok (.iaload, 1) := by decide +kernel
theorem dX12_girthAt_13 : decode cX12_girthAt 13 = .ok (.iload_n 1, 1) := by decide +kernel
theorem dX12_girthAt_14 : decode cX12_girthAt 14 = .ok (.iconst 4, 1) := by decide +kernel
theorem dX12_girthAt_15 : decode cX12_girthAt 15 = .ok (.isub, 1) := by decide +kernel
theorem dX12_girthAt_16 : decode cX12_girthAt 16 = .ok (.invokestatic 121, 3) := by decide +kernel
theorem dX12_girthAt_19 : decode cX12_girthAt 19 = .ok (.imul, 1) := by decide +kernel
theorem dX12_girthAt_20 : decode cX12_girthAt 20 = .ok (.isub, 1) := by decide +kernel
theorem dX12_girthAt_21 : decode cX12_girthAt 21 = .ok (.invokestatic 83, 3) := by decide +kernel
theorem dX12_girthAt_24 : decode cX12_girthAt 24 = .ok (.ireturn, 1) := by decide +kernel
theorem dX12_girth_0 : decode cX12_girth 0 = .ok (.iload_n 1, 1) := by decide +kernel
theorem dX12_girth_1 : decode cX12_girth 1 = .ok (.iconst 0, 1) := by decide +kernel
theorem dX12_girth_2 : decode cX12_girth 2 = .ok (.bipush 8, 2) := by decide +kernel
theorem dX12_girth_4 : decode cX12_girth 4 = .ok (.invokestatic 58, 3) := by decide +kernel
theorem dX12_girth_7 : decode cX12_girth 7 = .ok (.ifCond .eq 11, 3) := by decide +kernel
theorem dX12_girth_10 : decode cX12_girth 10 = .ok (.aload_n 0, 1) := by decide +kernel
theorem dX12_girth_11 : decode cX12_girth 11 = .ok (.iload_n 1, 1) := by decide +kernel
theorem dX12_girth_12 : decode cX12_girth 12 = .ok (.invokevirtual 163, 3) := by decide +kernel
theorem dX12_girth_15 : decode cX12_girth 15 = .ok (.goto 4, 3) := by decide +kernel
theorem dX12_girth_18 : decode cX12_girth 18 = .ok (.iconst (-1), 1) := by decide +kernel
theorem dX12_girth_19 : decode cX12_girth 19 = .ok (.ireturn, 1) := by decide +kernel
theorem dX12_hasHoop_0 : decode cX12_hasHoop 0 = .ok (.iload_n 1, 1) := by decide +kernel
theorem dX12_hasHoop_1 : decode cX12_hasHoop 1 = .ok (.iconst 0, 1) := by decide +kernel
theorem dX12_hasHoop_2 : decode cX12_hasHoop 2 = .ok (.aload_n 0, 1) := by decide +kernel
theorem dX12_hasHoop_3 : decode cX12_hasHoop 3 = .ok (.getfield 9, 3) := by decide +kernel
theorem dX12_hasHoop_6 : decode cX12_hasHoop 6 = .ok (.iconst 5, 1) := by decide +kernel
theorem dX12_hasHoop_7 : decode cX12_hasHoop 7 = .ok (.iaload, 1) := by decide +kernel
theorem dX12_hasHoop_8 : decode cX12_hasHoop 8 = .ok (.iconst 1, 1) := by decide +kernel
theorem dX12_hasHoop_9 : decode cX12_hasHoop 9 = .ok (.isub, 1) := by decide +kernel
theorem dX12_hasHoop_10 : decode cX12_hasHoop 10 = .ok (.invokestatic 58, 3) := by decide +kernel
theorem dX12_hasHoop_13 : decode cX12_hasHoop 13 = .ok (.ireturn, 1) := by decide +kernel
theorem dX12_settles_0 : decode cX12_settles 0 = .ok (.iconst 0, 1) := by decide +kernel
theorem dX12_settles_1 : decode cX12_settles 1 = .ok (.istore_n 1, 1) := by decide +kernel
theorem dX12_settles_2 : decode cX12_settles 2 = .ok (.iload_n 1, 1) := by decide +kernel
theorem dX12_settles_3 : decode cX12_settles 3 = .ok (.aload_n 0, 1) := by decide +kernel
theorem dX12_settles_4 : decode cX12_settles 4 = .ok (.getfield 9, 3) := by decide +kernel
theorem dX12_settles_7 : decode cX12_settles 7 = .ok (.iconst 5, 1) := by decide +kernel
theorem dX12_settles_8 : decode cX12_settles 8 = .ok (.iaload, 1) := by decide +kernel
theorem dX12_settles_9 : decode cX12_settles 9 = .ok (.if_icmp .ge 177, 3) := by decide +kernel
theorem dX12_settles_12 : decode cX12_settles 12 = .ok (.iconst 0, 1) := by decide +kernel
theorem dX12_settles_13 : decode cX12_settles 13 = .ok (.istore_n 2, 1) := by decide +kernel
theorem dX12_settles_14 : decode cX12_settles 14 = .ok (.iload_n 2, 1) := by decide +kernel
theorem dX12_settles_15 : decode cX12_settles 15 = .ok (.iconst 5, 1) := by decide +kernel
theorem dX12_settles_16 : decode cX12_settles 16 = .ok (.if_icmp .ge 45, 3) := by decide +kernel
theorem dX12_settles_19 : decode cX12_settles 19 = .ok (.aload_n 0, 1) := by decide +kernel
theorem dX12_settles_20 : decode cX12_settles 20 = .ok (.aload_n 0, 1) := by decide +kernel
theorem dX12_settles_21 : decode cX12_settles 21 = .ok (.getfield 9, 3) := by decide +kernel
theorem dX12_settles_24 : decode cX12_settles 24 = .ok (.bipush 64, 2) := by decide +kernel
theorem dX12_settles_26 : decode cX12_settles 26 = .ok (.iload_n 1, 1) := by decide +kernel
theorem dX12_settles_27 : decode cX12_settles 27 = .ok (.iadd, 1) := by decide +kernel
theorem dX12_settles_28 : decode cX12_settles 28 = .ok (.iaload, 1) := by decide +kernel
theorem dX12_settles_29 : decode cX12_settles 29 = .ok (.ifCond .ne 7, 3) := by decide +kernel
theorem dX12_settles_32 : decode cX12_settles 32 = .ok (.iload_n 2, 1) := by decide +kernel
theorem dX12_settles_33 : decode cX12_settles 33 = .ok (.goto 7, 3) := by decide +kernel
theorem dX12_settles_36 : decode cX12_settles 36 = .ok (.bipush 8, 2) := by decide +kernel
theorem dX12_settles_38 : decode cX12_settles 38 = .ok (.iload_n 2, 1) := by decide +kernel
theorem dX12_settles_39 : decode cX12_settles 39 = .ok (.isub, 1) := by decide +kernel
theorem dX12_settles_40 : decode cX12_settles 40 = .ok (.invokevirtual 163, 3) := by decide +kernel
theorem dX12_settles_43 : decode cX12_settles 43 = .ok (.aload_n 0, 1) := by decide +kernel
theorem dX12_settles_44 : decode cX12_settles 44 = .ok (.getfield 9, 3) := by decide +kernel
theorem dX12_settles_47 : decode cX12_settles 47 = .ok (.bipush 58, 2) := by decide +kernel
theorem dX12_settles_49 : decode cX12_settles 49 = .ok (.iload_n 1, 1) := by decide +kernel
theorem dX12_settles_50 : decode cX12_settles 50 = .ok (.iadd, 1) := by decide +kernel
theorem dX12_settles_51 : decode cX12_settles 51 = .ok (.iaload, 1) := by decide +kernel
theorem dX12_settles_52 : decode cX12_settles 52 = .ok (.if_icmp .ge 9, 3) := by decide +kernel
theorem dX12_settles_55 : decode cX12_settles 55 = .ok (.iinc 2 1, 3) := by decide +kernel
theorem dX12_settles_58 : decode cX12_settles 58 = .ok (.goto (-44), 3) := by decide +kernel
theorem dX12_settles_61 : decode cX12_settles 61 = .ok (.iconst 0, 1) := by decide +kernel
theorem dX12_settles_62 : decode cX12_settles 62 = .ok (.istore_n 3, 1) := by decide +kernel
theorem dX12_settles_63 : decode cX12_settles 63 = .ok (.iload_n 3, 1) := by decide +kernel
theorem dX12_settles_64 : decode cX12_settles 64 = .ok (.iload_n 1, 1) := by decide +kernel
theorem dX12_settles_65 : decode cX12_settles 65 = .ok (.if_icmp .ge 79, 3) := by decide +kernel
theorem dX12_settles_68 : decode cX12_settles 68 = .ok (.aload_n 0, 1) := by decide +kernel
theorem dX12_settles_69 : decode cX12_settles 69 = .ok (.getfield 9, 3) := by decide +kernel
theorem dX12_settles_72 : decode cX12_settles 72 = .ok (.bipush 64, 2) := by decide +kernel
theorem dX12_settles_74 : decode cX12_settles 74 = .ok (.iload_n 3, 1) := by decide +kernel
theorem dX12_settles_75 : decode cX12_settles 75 = .ok (.iadd, 1) := by decide +kernel
theorem dX12_settles_76 : decode cX12_settles 76 = .ok (.iaload, 1) := by decide +kernel
theorem dX12_settles_77 : decode cX12_settles 77 = .ok (.aload_n 0, 1) := by decide +kernel
theorem dX12_settles_78 : decode cX12_settles 78 = .ok (.getfield 9, 3) := by decide +kernel
theorem dX12_settles_81 : decode cX12_settles 81 = .ok (.bipush 64, 2) := by decide +kernel
theorem dX12_settles_83 : decode cX12_settles 83 = .ok (.iload_n 1, 1) := by decide +kernel
theorem dX12_settles_84 : decode cX12_settles 84 = .ok (.iadd, 1) := by decide +kernel
theorem dX12_settles_85 : decode cX12_settles 85 = .ok (.iaload, 1) := by decide +kernel
theorem dX12_settles_86 : decode cX12_settles 86 = .ok (.if_icmp .ne 52, 3) := by decide +kernel
theorem dX12_settles_89 : decode cX12_settles 89 = .ok (.aload_n 0, 1) := by decide +kernel
theorem dX12_settles_90 : decode cX12_settles 90 = .ok (.getfield 33, 3) := by decide +kernel
theorem dX12_settles_93 : decode cX12_settles 93 = .ok (.iload_n 3, 1) := by decide +kernel
theorem dX12_settles_94 : decode cX12_settles 94 = .ok (.iaload, 1) := by decide +kernel
theorem dX12_settles_95 : decode cX12_settles 95 = .ok (.bipush (-5), 2) := by decide +kernel
theorem dX12_settles_97 : decode cX12_settles 97 = .ok (.if_icmp .ne 6, 3) := by decide +kernel
theorem dX12_settles_100 : decode cX12_settles 100 = .ok (.goto 38, 3) := by decide +kernel
theorem dX12_settles_103 : decode cX12_settles 103 = .ok (.iload_n 2, 1) := by decide +kernel
theorem dX12_settles_104 : decode cX12_settles 104 = .ok (.aload_n 0, 1) := by decide +kernel
theorem dX12_settles_105 : decode cX12_settles 105 = .ok (.getfield 9, 3) := by decide +kernel
theorem dX12_settles_108 : decode cX12_settles 108 = .ok (.bipush 64, 2) := by decide +kernel
theorem dX12_settles_110 : decode cX12_settles 110 = .ok (.iload_n 3, 1) := by decide +kernel
theorem dX12_settles_111 : decode cX12_settles 111 = .ok (.iadd, 1) := by decide +kernel
theorem dX12_settles_112 : decode cX12_settles 112 = .ok (.iaload, 1) := by decide +kernel
theorem dX12_settles_113 : decode cX12_settles 113 = .ok (.ifCond .ne 12, 3) := by decide +kernel
theorem dX12_settles_116 : decode cX12_settles 116 = .ok (.aload_n 0, 1) := by decide +kernel
theorem dX12_settles_117 : decode cX12_settles 117 = .ok (.getfield 33, 3) := by decide +kernel
theorem dX12_settles_120 : decode cX12_settles 120 = .ok (.iload_n 3, 1) := by decide +kernel
theorem dX12_settles_121 : decode cX12_settles 121 = .ok (.iaload, 1) := by decide +kernel
theorem dX12_settles_122 : decode cX12_settles 122 = .ok (.goto 12, 3) := by decide +kernel
theorem dX12_settles_125 : decode cX12_settles 125 = .ok (.bipush 8, 2) := by decide +kernel
theorem dX12_settles_127 : decode cX12_settles 127 = .ok (.aload_n 0, 1) := by decide +kernel
theorem dX12_settles_128 : decode cX12_settles 128 = .ok (.getfield 33, 3) := by decide +kernel
theorem dX12_settles_131 : decode cX12_settles 131 = .ok (.iload_n 3, 1) := by decide +kernel
theorem dX12_settles_132 : decode cX12_settles 132 = .ok (.iaload, 1) := by decide +kernel
theorem dX12_settles_133 : decode cX12_settles 133 = .ok (.isub, 1) := by decide +kernel
theorem dX12_settles_134 : decode cX12_settles 134 = .ok (.invokestatic 140, 3) := by decide +kernel
theorem dX12_settles_137 : decode cX12_settles 137 = .ok (.istore_n 2, 1) := by decide +kernel
theorem dX12_settles_138 : decode cX12_settles 138 = .ok (.iinc 3 1, 3) := by decide +kernel
theorem dX12_settles_141 : decode cX12_settles 141 = .ok (.goto (-78), 3) := by decide +kernel
theorem dX12_settles_144 : decode cX12_settles 144 = .ok (.aload_n 0, 1) := by decide +kernel
theorem dX12_settles_145 : decode cX12_settles 145 = .ok (.getfield 33, 3) := by decide +kernel
theorem dX12_settles_148 : decode cX12_settles 148 = .ok (.iload_n 1, 1) := by decide +kernel
theorem dX12_settles_149 : decode cX12_settles 149 = .ok (.iload_n 2, 1) := by decide +kernel
theorem dX12_settles_150 : decode cX12_settles 150 = .ok (.iconst 5, 1) := by decide +kernel
theorem dX12_settles_151 : decode cX12_settles 151 = .ok (.if_icmp .ne 8, 3) := by decide +kernel
theorem dX12_settles_154 : decode cX12_settles 154 = .ok (.bipush (-5), 2) := by decide +kernel
theorem dX12_settles_156 : decode cX12_settles 156 = .ok (.goto 23, 3) := by decide +kernel
theorem dX12_settles_159 : decode cX12_settles 159 = .ok (.aload_n 0, 1) := by decide +kernel
theorem dX12_settles_160 : decode cX12_settles 160 = .ok (.getfield 9, 3) := by decide +kernel
theorem dX12_settles_163 : decode cX12_settles 163 = .ok (.bipush 64, 2) := by decide +kernel
theorem dX12_settles_165 : decode cX12_settles 165 = .ok (.iload_n 1, 1) := by decide +kernel
theorem dX12_settles_166 : decode cX12_settles 166 = .ok (.iadd, 1) := by decide +kernel
theorem dX12_settles_167 : decode cX12_settles 167 = .ok (.iaload, 1) := by decide +kernel
theorem dX12_settles_168 : decode cX12_settles 168 = .ok (.ifCond .ne 7, 3) := by decide +kernel
theorem dX12_settles_171 : decode cX12_settles 171 = .ok (.iload_n 2, 1) := by decide +kernel
theorem dX12_settles_172 : decode cX12_settles 172 = .ok (.goto 7, 3) := by decide +kernel
theorem dX12_settles_175 : decode cX12_settles 175 = .ok (.bipush 8, 2) := by decide +kernel
theorem dX12_settles_177 : decode cX12_settles 177 = .ok (.iload_n 2, 1) := by decide +kernel
theorem dX12_settles_178 : decode cX12_settles 178 = .ok (.isub, 1) := by decide +kernel
theorem dX12_settles_179 : decode cX12_settles 179 = .ok (.iastore, 1) := by decide +kernel
theorem dX12_settles_180 : decode cX12_settles 180 = .ok (.iinc 1 1, 3) := by decide +kernel
theorem dX12_settles_183 : decode cX12_settles 183 = .ok (.goto (-181), 3) := by decide +kernel
theorem dX12_settles_186 : decode cX12_settles 186 = .ok (.return_, 1) := by decide +kernel
theorem dX12_gripOf_0 : decode cX12_gripOf 0 = .ok (.iconst 0, 1) := by decide +kernel
theorem dX12_gripOf_1 : decode cX12_gripOf 1 = .ok (.aload_n 0, 1) := by decide +kernel
theorem dX12_gripOf_2 : decode cX12_gripOf 2 = .ok (.aload_n 0, 1) := by decide +kernel
theorem dX12_gripOf_3 : decode cX12_gripOf 3 = .ok (.getfield 33, 3) := by decide +kernel
theorem dX12_gripOf_6 : decode cX12_gripOf 6 = .ok (.iload_n 1, 1) := by decide +kernel
theorem dX12_gripOf_7 : decode cX12_gripOf 7 = .ok (.iaload, 1) := by decide +kernel
theorem dX12_gripOf_8 : decode cX12_gripOf 8 = .ok (.invokevirtual 163, 3) := by decide +kernel
theorem dX12_gripOf_11 : decode cX12_gripOf 11 = .ok (.aload_n 0, 1) := by decide +kernel
theorem dX12_gripOf_12 : decode cX12_gripOf 12 = .ok (.getfield 9, 3) := by decide +kernel
theorem dX12_gripOf_15 : decode cX12_gripOf 15 = .ok (.bipush 58, 2) := by decide +kernel
theorem dX12_gripOf_17 : decode cX12_gripOf 17 = .ok (.iload_n 1, 1) := by decide +kernel
theorem dX12_gripOf_18 : decode cX12_gripOf 18 = .ok (.iadd, 1) := by decide +kernel
theorem dX12_gripOf_19 : decode cX12_gripOf 19 = .ok (.iaload, 1) := by decide +kernel
theorem dX12_gripOf_20 : decode cX12_gripOf 20 = .ok (.isub, 1) := by decide +kernel
theorem dX12_gripOf_21 : decode cX12_gripOf 21 = .ok (.invokestatic 83, 3) := by decide +kernel
theorem dX12_gripOf_24 : decode cX12_gripOf 24 = .ok (.ireturn, 1) := by decide +kernel
theorem dX12_pressOf_0 : decode cX12_pressOf 0 = .ok (.aload_n 0, 1) := by decide +kernel
theorem dX12_pressOf_1 : decode cX12_pressOf 1 = .ok (.iload_n 1, 1) := by decide +kernel
theorem dX12_pressOf_2 : decode cX12_pressOf 2 = .ok (.invokevirtual 166, 3) := by decide +kernel
theorem dX12_pressOf_5 : decode cX12_pressOf 5 = .ok (.istore_n 2, 1) := by decide +kernel
theorem dX12_pressOf_6 : decode cX12_pressOf 6 = .ok (.aload_n 0, 1) := by decide +kernel
theorem dX12_pressOf_7 : decode cX12_pressOf 7 = .ok (.getfield 9, 3) := by decide +kernel
theorem dX12_pressOf_10 : decode cX12_pressOf 10 = .ok (.bipush 52, 2) := by decide +kernel
theorem dX12_pressOf_12 : decode cX12_pressOf 12 = .ok (.iload_n 1, 1) := by decide +kernel
theorem dX12_pressOf_13 : decode cX12_pressOf 13 = .ok (.iadd, 1) := by decide +kernel
theorem dX12_pressOf_14 : decode cX12_pressOf 14 = .ok (.iaload, 1) := by decide +kernel
theorem dX12_pressOf_15 : decode cX12_pressOf 15 = .ok (.tableswitch 39 1 3 #[25, 29, 33], 25) := by decide +kernel
theorem dX12_pressOf_40 : decode cX12_pressOf 40 = .ok (.iconst 2, 1) := by decide +kernel
theorem dX12_pressOf_41 : decode cX12_pressOf 41 = .ok (.iload_n 2, 1) := by decide +kernel
theorem dX12_pressOf_42 : decode cX12_pressOf 42 = .ok (.imul, 1) := by decide +kernel
theorem dX12_pressOf_43 : decode cX12_pressOf 43 = .ok (.ireturn, 1) := by decide +kernel
theorem dX12_pressOf_44 : decode cX12_pressOf 44 = .ok (.iload_n 2, 1) := by decide +kernel
theorem dX12_pressOf_45 : decode cX12_pressOf 45 = .ok (.iconst 2, 1) := by decide +kernel
theorem dX12_pressOf_46 : decode cX12_pressOf 46 = .ok (.idiv, 1) := by decide +kernel
theorem dX12_pressOf_47 : decode cX12_pressOf 47 = .ok (.ireturn, 1) := by decide +kernel
theorem dX12_pressOf_48 : decode cX12_pressOf 48 = .ok (.iconst 2, 1) := by decide +kernel
theorem dX12_pressOf_49 : decode cX12_pressOf 49 = .ok (.iload_n 2, 1) := by decide +kernel
theorem dX12_pressOf_50 : decode cX12_pressOf 50 = .ok (.imul, 1) := by decide +kernel
theorem dX12_pressOf_51 : decode cX12_pressOf 51 = .ok (.iconst 3, 1) := by decide +kernel
theorem dX12_pressOf_52 : decode cX12_pressOf 52 = .ok (.iadd, 1) := by decide +kernel
theorem dX12_pressOf_53 : decode cX12_pressOf 53 = .ok (.ireturn, 1) := by decide +kernel
theorem dX12_pressOf_54 : decode cX12_pressOf 54 = .ok (.iload_n 2, 1) := by decide +kernel
theorem dX12_pressOf_55 : decode cX12_pressOf 55 = .ok (.ireturn, 1) := by decide +kernel
theorem dX12_ofHoop_0 : decode cX12_ofHoop 0 = .ok (.aload_n 0, 1) := by decide +kernel
theorem dX12_ofHoop_1 : decode cX12_ofHoop 1 = .ok (.iload_n 1, 1) := by decide +kernel
theorem dX12_ofHoop_2 : decode cX12_ofHoop 2 = .ok (.invokevirtual 169, 3) := by decide +kernel
theorem dX12_ofHoop_5 : decode cX12_ofHoop 5 = .ok (.ifCond .eq 12, 3) := by decide +kernel
theorem dX12_ofHoop_8 : decode cX12_ofHoop 8 = .ok (.iload_n 2, 1) := by decide +kernel
theorem dX12_ofHoop_9 : decode cX12_ofHoop 9 = .ok (.iconst 0, 1) := by decide +kernel
theorem dX12_ofHoop_10 : decode cX12_ofHoop 10 = .ok (.iconst 5, 1) := by decide +kernel
theorem dX12_ofHoop_11 : decode cX12_ofHoop 11 = .ok (.invokestatic 58, 3) := by decide +kernel
theorem dX12_ofHoop_14 : decode cX12_ofHoop 14 = .ok (.ifCond .ne 5, 3) := by decide +kernel
theorem dX12_ofHoop_17 : decode cX12_ofHoop 17 = .ok (.iconst (-1), 1) := by decide +kernel
theorem dX12_ofHoop_18 : decode cX12_ofHoop 18 = .ok (.ireturn, 1) := by decide +kernel
theorem dX12_ofHoop_19 : decode cX12_ofHoop 19 = .ok (.iload_n 2, 1) := by decide +kernel
theorem dX12_ofHoop_20 : decode cX12_ofHoop 20 = .ok (.iconst 3, 1) := by decide +kernel
theorem dX12_ofHoop_21 : decode cX12_ofHoop 21 = .ok (.if_icmp .ge 18, 3) := by decide +kernel
theorem dX12_ofHoop_24 : decode cX12_ofHoop 24 = .ok (.aload_n 0, 1) := by decide +kernel
theorem dX12_ofHoop_25 : decode cX12_ofHoop 25 = .ok (.getfield 9, 3) := by decide +kernel
theorem dX12_ofHoop_28 : decode cX12_ofHoop 28 = .ok (.bipush 52, 2) := by decide +kernel
theorem dX12_ofHoop_30 : decode cX12_ofHoop 30 = .ok (.bipush 6, 2) := by decide +kernel
theorem dX12_ofHoop_32 : decode cX12_ofHoop 32 = .ok (.iload_n 2, 1) := by decide +kernel
theorem dX12_ofHoop_33 : decode cX12_ofHoop 33 = .ok (.imul, 1) := by decide +kernel
theorem dX12_ofHoop_34 : decode cX12_ofHoop 34 = .ok (.iadd, 1) := by decide +kernel
theorem dX12_ofHoop_35 : decode cX12_ofHoop 35 = .ok (.iload_n 1, 1) := by decide +kernel
theorem dX12_ofHoop_36 : decode cX12_ofHoop 36 = .ok (.iadd, 1) := by decide +kernel
theorem dX12_ofHoop_37 : decode cX12_ofHoop 37 = .ok (.iaload, 1) := by decide +kernel
theorem dX12_ofHoop_38 : decode cX12_ofHoop 38 = .ok (.ireturn, 1) := by decide +kernel
theorem dX12_ofHoop_39 : decode cX12_ofHoop 39 = .ok (.aload_n 0, 1) := by decide +kernel
theorem dX12_ofHoop_40 : decode cX12_ofHoop 40 = .ok (.invokevirtual 172, 3) := by decide +kernel
theorem dX12_ofHoop_43 : decode cX12_ofHoop 43 = .ok (.iload_n 2, 1) := by decide +kernel
theorem dX12_ofHoop_44 : decode cX12_ofHoop 44 = .ok (.iconst 3, 1) := by decide +kernel
theorem dX12_ofHoop_45 : decode cX12_ofHoop 45 = .ok (.if_icmp .eq 14, 3) := by decide +kernel
theorem dX12_ofHoop_48 : decode cX12_ofHoop 48 = .ok (.aload_n 0, 1) := by decide +kernel
theorem dX12_ofHoop_49 : decode cX12_ofHoop 49 = .ok (.getfield 33, 3) := by decide +kernel
theorem dX12_ofHoop_52 : decode cX12_ofHoop 52 = .ok (.iload_n 1, 1) := by decide +kernel
theorem dX12_ofHoop_53 : decode cX12_ofHoop 53 = .ok (.iaload, 1) := by decide +kernel
theorem dX12_ofHoop_54 : decode cX12_ofHoop 54 = .ok (.bipush (-5), 2) := by decide +kernel
theorem dX12_ofHoop_56 : decode cX12_ofHoop 56 = .ok (.if_icmp .ne 10, 3) := by decide +kernel
theorem dX12_ofHoop_59 : decode cX12_ofHoop 59 = .ok (.aload_n 0, 1) := by decide +kernel
theorem dX12_ofHoop_60 : decode cX12_ofHoop 60 = .ok (.getfield 33, 3) := by decide +kernel
theorem dX12_ofHoop_63 : decode cX12_ofHoop 63 = .ok (.iload_n 1, 1) := by decide +kernel
theorem dX12_ofHoop_64 : decode cX12_ofHoop 64 = .ok (.iaload, 1) := by decide +kernel
theorem dX12_ofHoop_65 : decode cX12_ofHoop 65 = .ok (.ireturn, 1) := by decide +kernel
theorem dX12_ofHoop_66 : decode cX12_ofHoop 66 = .ok (.iload_n 2, 1) := by decide +kernel
theorem dX12_ofHoop_67 : decode cX12_ofHoop 67 = .ok (.iconst 4, 1) := by decide +kernel
theorem dX12_ofHoop_68 : decode cX12_ofHoop 68 = .ok (.if_icmp .ne 11, 3) := by decide +kernel
theorem dX12_ofHoop_71 : decode cX12_ofHoop 71 = .ok (.aload_n 0, 1) := by decide +kernel
theorem dX12_ofHoop_72 : decode cX12_ofHoop 72 = .ok (.iload_n 1, 1) := by decide +kernel
theorem dX12_ofHoop_73 : decode cX12_ofHoop 73 = .ok (.invokevirtual 166, 3) := by decide +kernel
theorem dX12_ofHoop_76 : decode cX12_ofHoop 76 = .ok (.goto 8, 3) := by decide +kernel
theorem dX12_ofHoop_79 : decode cX12_ofHoop 79 = .ok (.aload_n 0, 1) := by decide +kernel
theorem dX12_ofHoop_80 : decode cX12_ofHoop 80 = .ok (.iload_n 1, 1) := by decide +kernel
theorem dX12_ofHoop_81 : decode cX12_ofHoop 81 = .ok (.invokevirtual 175, 3) := by decide +kernel
theorem dX12_ofHoop_84 : decode cX12_ofHoop 84 = .ok (.ireturn, 1) := by decide +kernel
theorem dX12_pressAt_0 : decode cX12_pressAt 0 = .ok (.iconst 0, 1) := by decide +kernel
theorem dX12_pressAt_1 : decode cX12_pressAt 1 = .ok (.istore_n 2, 1) := by decide +kernel
theorem dX12_pressAt_2 : decode cX12_pressAt 2 = .ok (.iconst 0, 1) := by decide +kernel
theorem dX12_pressAt_3 : decode cX12_pressAt 3 = .ok (.istore_n 3, 1) := by decide +kernel
theorem dX12_pressAt_4 : decode cX12_pressAt 4 = .ok (.iload_n 3, 1) := by decide +kernel
theorem dX12_pressAt_5 : decode cX12_pressAt 5 = .ok (.aload_n 0, 1) := by decide +kernel
theorem dX12_pressAt_6 : decode cX12_pressAt 6 = .ok (.getfield 9, 3) := by decide +kernel
theorem dX12_pressAt_9 : decode cX12_pressAt 9 = .ok (.iconst 5, 1) := by decide +kernel
theorem dX12_pressAt_10 : decode cX12_pressAt 10 = .ok (.iaload, 1) := by decide +kernel
theorem dX12_pressAt_11 : decode cX12_pressAt 11 = .ok (.if_icmp .ge 46, 3) := by decide +kernel
theorem dX12_pressAt_14 : decode cX12_pressAt 14 = .ok (.aload_n 0, 1) := by decide +kernel
theorem dX12_pressAt_15 : decode cX12_pressAt 15 = .ok (.getfield 33, 3) := by decide +kernel
theorem dX12_pressAt_18 : decode cX12_pressAt 18 = .ok (.iload_n 3, 1) := by decide +kernel
theorem dX12_pressAt_19 : decode cX12_pressAt 19 = .ok (.iaload, 1) := by decide +kernel
theorem dX12_pressAt_20 : decode cX12_pressAt 20 = .ok (.bipush (-5), 2) := by decide +kernel
theorem dX12_pressAt_22 : decode cX12_pressAt 22 = .ok (.if_icmp .eq 29, 3) := by decide +kernel
theorem dX12_pressAt_25 : decode cX12_pressAt 25 = .ok (.iload_n 2, 1) := by decide +kernel
theorem dX12_pressAt_26 : decode cX12_pressAt 26 = .ok (.iconst 0, 1) := by decide +kernel
theorem dX12_pressAt_27 : decode cX12_pressAt 27 = .ok (.aload_n 0, 1) := by decide +kernel
theorem dX12_pressAt_28 : decode cX12_pressAt 28 = .ok (.iload_n 3, 1) := by decide +kernel
theorem dX12_pressAt_29 : decode cX12_pressAt 29 = .ok (.invokevirtual 175, 3) := by decide +kernel
theorem dX12_pressAt_32 : decode cX12_pressAt 32 = .ok (.iconst 2, 1) := by decide +kernel
theorem dX12_pressAt_33 : decode cX12_pressAt 33 = .ok (.iload_n 1, 1) := by decide +kernel
theorem dX12_pressAt_34 : decode cX12_pressAt 34 = .ok (.aload_n 0, 1) := by decide +kernel
theorem dX12_pressAt_35 : decode cX12_pressAt 35 = .ok (.getfield 33, 3) := by decide +kernel
theorem dX12_pressAt_38 : decode cX12_pressAt 38 = .ok (.iload_n 3, 1) := by decide +kernel
theorem dX12_pressAt_39 : decode cX12_pressAt 39 = .ok (.iaload, 1) := by decide +kernel
theorem dX12_pressAt_40 : decode cX12_pressAt 40 = .ok (.isub, 1) := by decide +kernel
theorem dX12_pressAt_41 : decode cX12_pressAt 41 = .ok (.invokestatic 121, 3) := by decide +kernel
theorem dX12_pressAt_44 : decode cX12_pressAt 44 = .ok (.imul, 1) := by decide +kernel
theorem dX12_pressAt_45 : decode cX12_pressAt 45 = .ok (.isub, 1) := by decide +kernel
theorem dX12_pressAt_46 : decode cX12_pressAt 46 = .ok (.invokestatic 83, 3) := by decide +kernel
theorem dX12_pressAt_49 : decode cX12_pressAt 49 = .ok (.iadd, 1) := by decide +kernel
theorem dX12_pressAt_50 : decode cX12_pressAt 50 = .ok (.istore_n 2, 1) := by decide +kernel
theorem dX12_pressAt_51 : decode cX12_pressAt 51 = .ok (.iinc 3 1, 3) := by decide +kernel
theorem dX12_pressAt_54 : decode cX12_pressAt 54 = .ok (.goto (-50), 3) := by decide +kernel
theorem dX12_pressAt_57 : decode cX12_pressAt 57 = .ok (.bipush 99, 2) := by decide +kernel
theorem dX12_pressAt_59 : decode cX12_pressAt 59 = .ok (.iload_n 2, 1) := by decide +kernel
theorem dX12_pressAt_60 : decode cX12_pressAt 60 = .ok (.invokestatic 140, 3) := by decide +kernel
theorem dX12_pressAt_63 : decode cX12_pressAt 63 = .ok (.ireturn, 1) := by decide +kernel
theorem dX12_press_0 : decode cX12_press 0 = .ok (.iload_n 1, 1) := by decide +kernel
theorem dX12_press_1 : decode cX12_press 1 = .ok (.iconst 0, 1) := by decide +kernel
theorem dX12_press_2 : decode cX12_press 2 = .ok (.bipush 8, 2) := by decide +kernel
theorem dX12_press_4 : decode cX12_press 4 = .ok (.invokestatic 58, 3) := by decide +kernel
theorem dX12_press_7 : decode cX12_press 7 = .ok (.ifCond .ne 5, 3) := by decide +kernel
theorem dX12_press_10 : decode cX12_press 10 = .ok (.iconst (-1), 1) := by decide +kernel
theorem dX12_press_11 : decode cX12_press 11 = .ok (.ireturn, 1) := by decide +kernel
theorem dX12_press_12 : decode cX12_press 12 = .ok (.aload_n 0, 1) := by decide +kernel
theorem dX12_press_13 : decode cX12_press 13 = .ok (.invokevirtual 172, 3) := by decide +kernel
theorem dX12_press_16 : decode cX12_press 16 = .ok (.aload_n 0, 1) := by decide +kernel
theorem dX12_press_17 : decode cX12_press 17 = .ok (.iload_n 1, 1) := by decide +kernel
theorem dX12_press_18 : decode cX12_press 18 = .ok (.invokevirtual 178, 3) := by decide +kernel
theorem dX12_press_21 : decode cX12_press 21 = .ok (.ireturn, 1) := by decide +kernel
theorem dX12_wetNow_0 : decode cX12_wetNow 0 = .ok (.aload_n 0, 1) := by decide +kernel
theorem dX12_wetNow_1 : decode cX12_wetNow 1 = .ok (.invokevirtual 172, 3) := by decide +kernel
theorem dX12_wetNow_4 : decode cX12_wetNow 4 = .ok (.iconst 0, 1) := by decide +kernel
theorem dX12_wetNow_5 : decode cX12_wetNow 5 = .ok (.istore_n 1, 1) := by decide +kernel
theorem dX12_wetNow_6 : decode cX12_wetNow 6 = .ok (.iconst 0, 1) := by decide +kernel
theorem dX12_wetNow_7 : decode cX12_wetNow 7 = .ok (.istore_n 2, 1) := by decide +kernel
theorem dX12_wetNow_8 : decode cX12_wetNow 8 = .ok (.iload_n 2, 1) := by decide +kernel
theorem dX12_wetNow_9 : decode cX12_wetNow 9 = .ok (.bipush 9, 2) := by decide +kernel
theorem dX12_wetNow_11 : decode cX12_wetNow 11 = .ok (.if_icmp .ge 27, 3) := by decide +kernel
theorem dX12_wetNow_14 : decode cX12_wetNow 14 = .ok (.aload_n 0, 1) := by decide +kernel
theorem dX12_wetNow_15 : decode cX12_wetNow 15 = .ok (.iload_n 2, 1) := by decide +kernel
theorem dX12_wetNow_16 : decode cX12_wetNow 16 = .ok (.invokevirtual 178, 3) := by decide +kernel
theorem dX12_wetNow_19 : decode cX12_wetNow 19 = .ok (.aload_n 0, 1) := by decide +kernel
theorem dX12_wetNow_20 : decode cX12_wetNow 20 = .ok (.getfield 137, 3) := by decide +kernel
theorem dX12_wetNow_23 : decode cX12_wetNow 23 = .ok (.if_icmp .ge 9, 3) := by decide +kernel
theorem dX12_wetNow_26 : decode cX12_wetNow 26 = .ok (.iload_n 1, 1) := by decide +kernel
theorem dX12_wetNow_27 : decode cX12_wetNow 27 = .ok (.iconst 1, 1) := by decide +kernel
theorem dX12_wetNow_28 : decode cX12_wetNow 28 = .ok (.iload_n 2, 1) := by decide +kernel
theorem dX12_wetNow_29 : decode cX12_wetNow 29 = .ok (.ishl, 1) := by decide +kernel
theorem dX12_wetNow_30 : decode cX12_wetNow 30 = .ok (.ior, 1) := by decide +kernel
theorem dX12_wetNow_31 : decode cX12_wetNow 31 = .ok (.istore_n 1, 1) := by decide +kernel
theorem dX12_wetNow_32 : decode cX12_wetNow 32 = .ok (.iinc 2 1, 3) := by decide +kernel
theorem dX12_wetNow_35 : decode cX12_wetNow 35 = .ok (.goto (-27), 3) := by decide +kernel
theorem dX12_wetNow_38 : decode cX12_wetNow 38 = .ok (.iload_n 1, 1) := by decide +kernel
theorem dX12_wetNow_39 : decode cX12_wetNow 39 = .ok (.ireturn, 1) := by decide +kernel
theorem dX12_wet_0 : decode cX12_wet 0 = .ok (.aload_n 0, 1) := by decide +kernel
theorem dX12_wet_1 : decode cX12_wet 1 = .ok (.iload_n 1, 1) := by decide +kernel
theorem dX12_wet_2 : decode cX12_wet 2 = .ok (.invokevirtual 150, 3) := by decide +kernel
theorem dX12_wet_5 : decode cX12_wet 5 = .ok (.ifCond .ne 6, 3) := by decide +kernel
theorem dX12_wet_8 : decode cX12_wet 8 = .ok (.bipush (-2), 2) := by decide +kernel
theorem dX12_wet_10 : decode cX12_wet 10 = .ok (.ireturn, 1) := by decide +kernel
theorem dX12_wet_11 : decode cX12_wet 11 = .ok (.aload_n 0, 1) := by decide +kernel
theorem dX12_wet_12 : decode cX12_wet 12 = .ok (.iload_n 1, 1) := by decide +kernel
theorem dX12_wet_13 : decode cX12_wet 13 = .ok (.iconst 0, 1) := by decide +kernel
theorem dX12_wet_14 : decode cX12_wet 14 = .ok (.iconst 0, 1) := by decide +kernel
theorem dX12_wet_15 : decode cX12_wet 15 = .ok (.invokevirtual 156, 3) := by decide +kernel
theorem dX12_wet_18 : decode cX12_wet 18 = .ok (.aload_n 0, 1) := by decide +kernel
theorem dX12_wet_19 : decode cX12_wet 19 = .ok (.invokevirtual 181, 3) := by decide +kernel
theorem dX12_wet_22 : decode cX12_wet 22 = .ok (.ireturn, 1) := by decide +kernel
theorem dX12_driest_0 : decode cX12_driest 0 = .ok (.aload_n 0, 1) := by decide +kernel
theorem dX12_driest_1 : decode cX12_driest 1 = .ok (.iload_n 1, 1) := by decide +kernel
theorem dX12_driest_2 : decode cX12_driest 2 = .ok (.invokevirtual 150, 3) := by decide +kernel
theorem dX12_driest_5 : decode cX12_driest 5 = .ok (.ifCond .eq 14, 3) := by decide +kernel
theorem dX12_driest_8 : decode cX12_driest 8 = .ok (.iload_n 2, 1) := by decide +kernel
theorem dX12_driest_9 : decode cX12_driest 9 = .ok (.iconst 1, 1) := by decide +kernel
theorem dX12_driest_10 : decode cX12_driest 10 = .ok (.sipush 600, 3) := by decide +kernel
theorem dX12_driest_13 : decode cX12_driest 13 = .ok (.invokestatic 58, 3) := by decide +kernel
theorem dX12_driest_16 : decode cX12_driest 16 = .ok (.ifCond .ne 6, 3) := by decide +kernel
theorem dX12_driest_19 : decode cX12_driest 19 = .ok (.bipush (-2), 2) := by decide +kernel
theorem dX12_driest_21 : decode cX12_driest 21 = .ok (.ireturn, 1) := by decide +kernel
theorem dX12_driest_22 : decode cX12_driest 22 = .ok (.aload_n 0, 1) := by decide +kernel
theorem dX12_driest_23 : decode cX12_driest 23 = .ok (.getfield 9, 3) := by decide +kernel
theorem dX12_driest_26 : decode cX12_driest 26 = .ok (.iconst 5, 1) := by decide +kernel
theorem dX12_driest_27 : decode cX12_driest 27 = .ok (.iaload, 1) := by decide +kernel
theorem dX12_driest_28 : decode cX12_driest 28 = .ok (.bipush 6, 2) := by decide +kernel
theorem dX12_driest_30 : decode cX12_driest 30 = .ok (.if_icmp .ne 6, 3) := by decide +kernel
theorem dX12_driest_33 : decode cX12_driest 33 = .ok (.bipush (-4), 2) := by decide +kernel
theorem dX12_driest_35 : decode cX12_driest 35 = .ok (.ireturn, 1) := by decide +kernel
theorem dX12_driest_36 : decode cX12_driest 36 = .ok (.aload_n 0, 1) := by decide +kernel
theorem dX12_driest_37 : decode cX12_driest 37 = .ok (.iload_n 1, 1) := by decide +kernel
theorem dX12_driest_38 : decode cX12_driest 38 = .ok (.iconst 0, 1) := by decide +kernel
theorem dX12_driest_39 : decode cX12_driest 39 = .ok (.iconst 0, 1) := by decide +kernel
theorem dX12_driest_40 : decode cX12_driest 40 = .ok (.invokevirtual 156, 3) := by decide +kernel
theorem dX12_driest_43 : decode cX12_driest 43 = .ok (.aload_n 0, 1) := by decide +kernel
theorem dX12_driest_44 : decode cX12_driest 44 = .ok (.invokevirtual 181, 3) := by decide +kernel
theorem dX12_driest_47 : decode cX12_driest 47 = .ok (.invokestatic 115, 3) := by decide +kernel
theorem dX12_driest_50 : decode cX12_driest 50 = .ok (.istore_n 3, 1) := by decide +kernel
theorem dX12_driest_51 : decode cX12_driest 51 = .ok (.bipush (-5), 2) := by decide +kernel
theorem dX12_driest_53 : decode cX12_driest 53 = .ok (.istore 4, 2) := by decide +kernel
theorem dX12_driest_55 : decode cX12_driest 55 = .ok (.aload_n 0, 1) := by decide +kernel
theorem dX12_driest_56 : decode cX12_driest 56 = .ok (.getfield 9, 3) := by decide +kernel
theorem dX12_driest_59 : decode cX12_driest 59 = .ok (.iconst 5, 1) := by decide +kernel
theorem dX12_driest_60 : decode cX12_driest 60 = .ok (.dup2, 1) := by decide +kernel
theorem dX12_driest_61 : decode cX12_driest 61 = .ok (.iaload, 1) := by decide +kernel
theorem dX12_driest_62 : decode cX12_driest 62 = .ok (.dup_x2, 1) := by decide +kernel
theorem dX12_driest_63 : decode cX12_driest 63 = .ok (.iconst 1, 1) := by decide +kernel
theorem dX12_driest_64 : decode cX12_driest 64 = .ok (.iadd, 1) := by decide +kernel
theorem dX12_driest_65 : decode cX12_driest 65 = .ok (.iastore, 1) := by decide +kernel
theorem dX12_driest_66 : decode cX12_driest 66 = .ok (.istore 5, 2) := by decide +kernel
theorem dX12_driest_68 : decode cX12_driest 68 = .ok (.aload_n 0, 1) := by decide +kernel
theorem dX12_driest_69 : decode cX12_driest 69 = .ok (.getfield 9, 3) := by decide +kernel
theorem dX12_driest_72 : decode cX12_driest 72 = .ok (.bipush 52, 2) := by decide +kernel
theorem dX12_driest_74 : decode cX12_driest 74 = .ok (.iload 5, 2) := by decide +kernel
theorem dX12_driest_76 : decode cX12_driest 76 = .ok (.iadd, 1) := by decide +kernel
theorem dX12_driest_77 : decode cX12_driest 77 = .ok (.iconst 0, 1) := by decide +kernel
theorem dX12_driest_78 : decode cX12_driest 78 = .ok (.iastore, 1) := by decide +kernel
theorem dX12_driest_79 : decode cX12_driest 79 = .ok (.aload_n 0, 1) := by decide +kernel
theorem dX12_driest_80 : decode cX12_driest 80 = .ok (.getfield 9, 3) := by decide +kernel
theorem dX12_driest_83 : decode cX12_driest 83 = .ok (.bipush 64, 2) := by decide +kernel
theorem dX12_driest_85 : decode cX12_driest 85 = .ok (.iload 5, 2) := by decide +kernel
theorem dX12_driest_87 : decode cX12_driest 87 = .ok (.iadd, 1) := by decide +kernel
theorem dX12_driest_88 : decode cX12_driest 88 = .ok (.iconst 0, 1) := by decide +kernel
theorem dX12_driest_89 : decode cX12_driest 89 = .ok (.iastore, 1) := by decide +kernel
theorem dX12_driest_90 : decode cX12_driest 90 = .ok (.iconst 1, 1) := by decide +kernel
theorem dX12_driest_91 : decode cX12_driest 91 = .ok (.istore 6, 2) := by decide +kernel
theorem dX12_driest_93 : decode cX12_driest 93 = .ok (.iload 6, 2) := by decide +kernel
theorem dX12_driest_95 : decode cX12_driest 95 = .ok (.iload_n 2, 1) := by decide +kernel
theorem dX12_driest_96 : decode cX12_driest 96 = .ok (.if_icmp .gt 46, 3) := by decide +kernel
theorem dX12_driest_99 : decode cX12_driest 99 = .ok (.aload_n 0, 1) := by decide +kernel
theorem dX12_driest_100 : decode cX12_driest 100 = .ok (.getfield 9, 3) := by decide +kernel
theorem dX12_driest_103 : decode cX12_driest 103 = .ok (.bipush 58, 2) := by decide +kernel
theorem dX12_driest_105 : decode cX12_driest 105 = .ok (.iload 5, 2) := by decide +kernel
theorem dX12_driest_107 : decode cX12_driest 107 = .ok (.iadd, 1) := by decide +kernel
theorem dX12_driest_108 : decode cX12_driest 108 = .ok (.iload 6, 2) := by decide +kernel
theorem dX12_driest_110 : decode cX12_driest 110 = .ok (.iastore, 1) := by decide +kernel
theorem dX12_driest_111 : decode cX12_driest 111 = .ok (.aload_n 0, 1) := by decide +kernel
theorem dX12_driest_112 : decode cX12_driest 112 = .ok (.invokevirtual 181, 3) := by decide +kernel
theorem dX12_driest_115 : decode cX12_driest 115 = .ok (.invokestatic 115, 3) := by decide +kernel
theorem dX12_driest_118 : decode cX12_driest 118 = .ok (.istore 7, 2) := by decide +kernel
theorem dX12_driest_120 : decode cX12_driest 120 = .ok (.iload 7, 2) := by decide +kernel
theorem dX12_driest_122 : decode cX12_driest 122 = .ok (.iload_n 3, 1) := by decide +kernel
theorem dX12_driest_123 : decode cX12_driest 123 = .ok (.if_icmp .lt 6, 3) := by decide +kernel
theorem dX12_driest_126 : decode cX12_driest 126 = .ok (.goto 10, 3) := by decide +kernel
theorem dX12_driest_129 : decode cX12_driest 129 = .ok (.iload 7, 2) := by decide +kernel
theorem dX12_driest_131 : decode cX12_driest 131 = .ok (.istore_n 3, 1) := by decide +kernel
theorem dX12_driest_132 : decode cX12_driest 132 = .ok (.iload 6, 2) := by decide +kernel
theorem dX12_driest_134 : decode cX12_driest 134 = .ok (.istore 4, 2) := by decide +kernel
theorem dX12_driest_136 : decode cX12_driest 136 = .ok (.iinc 6 1, 3) := by decide +kernel
theorem dX12_driest_139 : decode cX12_driest 139 = .ok (.goto (-46), 3) := by decide +kernel
theorem dX12_driest_142 : decode cX12_driest 142 = .ok (.aload_n 0, 1) := by decide +kernel
theorem dX12_driest_143 : decode cX12_driest 143 = .ok (.getfield 9, 3) := by decide +kernel
theorem dX12_driest_146 : decode cX12_driest 146 = .ok (.iconst 5, 1) := by decide +kernel
theorem dX12_driest_147 : decode cX12_driest 147 = .ok (.dup2, 1) := by decide +kernel
theorem dX12_driest_148 : decode cX12_driest 148 = .ok (.iaload, 1) := by decide +kernel
theorem dX12_driest_149 : decode cX12_driest 149 = .ok (.iconst 1, 1) := by decide +kernel
theorem dX12_driest_150 : decode cX12_driest 150 = .ok (.isub, 1) := by decide +kernel
theorem dX12_driest_151 : decode cX12_driest 151 = .ok (.iastore, 1) := by decide +kernel
theorem dX12_driest_152 : decode cX12_driest 152 = .ok (.iload 4, 2) := by decide +kernel
theorem dX12_driest_154 : decode cX12_driest 154 = .ok (.ireturn, 1) := by decide +kernel
theorem dX12_usedBy_0 : decode cX12_usedBy 0 = .ok (.aload_n 0, 1) := by decide +kernel
theorem dX12_usedBy_1 : decode cX12_usedBy 1 = .ok (.getfield 9, 3) := by decide +kernel
theorem dX12_usedBy_4 : decode cX12_usedBy 4 = .ok (.bipush 70, 2) := by decide +kernel
theorem dX12_usedBy_6 : decode cX12_usedBy 6 = .ok (.iload_n 2, 1) := by decide +kernel
theorem dX12_usedBy_7 : decode cX12_usedBy 7 = .ok (.iadd, 1) := by decide +kernel
theorem dX12_usedBy_8 : decode cX12_usedBy 8 = .ok (.iaload, 1) := by decide +kernel
theorem dX12_usedBy_9 : decode cX12_usedBy 9 = .ok (.istore 4, 2) := by decide +kernel
theorem dX12_usedBy_11 : decode cX12_usedBy 11 = .ok (.iload_n 3, 1) := by decide +kernel
theorem dX12_usedBy_12 : decode cX12_usedBy 12 = .ok (.iload_n 1, 1) := by decide +kernel
theorem dX12_usedBy_13 : decode cX12_usedBy 13 = .ok (.if_icmp .le 9, 3) := by decide +kernel
theorem dX12_usedBy_16 : decode cX12_usedBy 16 = .ok (.iload_n 3, 1) := by decide +kernel
theorem dX12_usedBy_17 : decode cX12_usedBy 17 = .ok (.iload_n 1, 1) := by decide +kernel
theorem dX12_usedBy_18 : decode cX12_usedBy 18 = .ok (.isub, 1) := by decide +kernel
theorem dX12_usedBy_19 : decode cX12_usedBy 19 = .ok (.goto 21, 3) := by decide +kernel
theorem dX12_usedBy_22 : decode cX12_usedBy 22 = .ok (.iload_n 3, 1) := by decide +kernel
theorem dX12_usedBy_23 : decode cX12_usedBy 23 = .ok (.iload 4, 2) := by decide +kernel
theorem dX12_usedBy_25 : decode cX12_usedBy 25 = .ok (.iadd, 1) := by decide +kernel
theorem dX12_usedBy_26 : decode cX12_usedBy 26 = .ok (.iload_n 1, 1) := by decide +kernel
theorem dX12_usedBy_27 : decode cX12_usedBy 27 = .ok (.if_icmp .ge 12, 3) := by decide +kernel
theorem dX12_usedBy_30 : decode cX12_usedBy 30 = .ok (.iload_n 1, 1) := by decide +kernel
theorem dX12_usedBy_31 : decode cX12_usedBy 31 = .ok (.iload_n 3, 1) := by decide +kernel
theorem dX12_usedBy_32 : decode cX12_usedBy 32 = .ok (.isub, 1) := by decide +kernel
theorem dX12_usedBy_33 : decode cX12_usedBy 33 = .ok (.iload 4, 2) := by decide +kernel
theorem dX12_usedBy_35 : decode cX12_usedBy 35 = .ok (.isub, 1) := by decide +kernel
theorem dX12_usedBy_36 : decode cX12_usedBy 36 = .ok (.goto 4, 3) := by decide +kernel
theorem dX12_usedBy_39 : decode cX12_usedBy 39 = .ok (.iconst 0, 1) := by decide +kernel
theorem dX12_usedBy_40 : decode cX12_usedBy 40 = .ok (.istore 5, 2) := by decide +kernel
theorem dX12_usedBy_42 : decode cX12_usedBy 42 = .ok (.iload_n 1, 1) := by decide +kernel
theorem dX12_usedBy_43 : decode cX12_usedBy 43 = .ok (.iload_n 1, 1) := by decide +kernel
theorem dX12_usedBy_44 : decode cX12_usedBy 44 = .ok (.imul, 1) := by decide +kernel
theorem dX12_usedBy_45 : decode cX12_usedBy 45 = .ok (.iload 5, 2) := by decide +kernel
theorem dX12_usedBy_47 : decode cX12_usedBy 47 = .ok (.iload 5, 2) := by decide +kernel
theorem dX12_usedBy_49 : decode cX12_usedBy 49 = .ok (.imul, 1) := by decide +kernel
theorem dX12_usedBy_50 : decode cX12_usedBy 50 = .ok (.isub, 1) := by decide +kernel
theorem dX12_usedBy_51 : decode cX12_usedBy 51 = .ok (.istore 6, 2) := by decide +kernel
theorem dX12_usedBy_53 : decode cX12_usedBy 53 = .ok (.iload 6, 2) := by decide +kernel
theorem dX12_usedBy_55 : decode cX12_usedBy 55 = .ok (.invokestatic 93, 3) := by decide +kernel
theorem dX12_usedBy_58 : decode cX12_usedBy 58 = .ok (.istore 7, 2) := by decide +kernel
theorem dX12_usedBy_60 : decode cX12_usedBy 60 = .ok (.iload 7, 2) := by decide +kernel
theorem dX12_usedBy_62 : decode cX12_usedBy 62 = .ok (.iload 7, 2) := by decide +kernel
theorem dX12_usedBy_64 : decode cX12_usedBy 64 = .ok (.imul, 1) := by decide +kernel
theorem dX12_usedBy_65 : decode cX12_usedBy 65 = .ok (.iload 6, 2) := by decide +kernel
theorem dX12_usedBy_67 : decode cX12_usedBy 67 = .ok (.if_icmp .ge 6, 3) := by decide +kernel
theorem dX12_usedBy_70 : decode cX12_usedBy 70 = .ok (.iinc 7 1, 3) := by decide +kernel
theorem dX12_usedBy_73 : decode cX12_usedBy 73 = .ok (.iconst 2, 1) := by decide +kernel
theorem dX12_usedBy_74 : decode cX12_usedBy 74 = .ok (.iload 4, 2) := by decide +kernel
theorem dX12_usedBy_76 : decode cX12_usedBy 76 = .ok (.imul, 1) := by decide +kernel
theorem dX12_usedBy_77 : decode cX12_usedBy 77 = .ok (.iload 7, 2) := by decide +kernel
theorem dX12_usedBy_79 : decode cX12_usedBy 79 = .ok (.imul, 1) := by decide +kernel
theorem dX12_usedBy_80 : decode cX12_usedBy 80 = .ok (.ireturn, 1) := by decide +kernel
theorem dX12_goesOn_0 : decode cX12_goesOn 0 = .ok (.iload 4, 2) := by decide +kernel
theorem dX12_goesOn_2 : decode cX12_goesOn 2 = .ok (.iconst 2, 1) := by decide +kernel
theorem dX12_goesOn_3 : decode cX12_goesOn 3 = .ok (.iload_n 1, 1) := by decide +kernel
theorem dX12_goesOn_4 : decode cX12_goesOn 4 = .ok (.imul, 1) := by decide +kernel
theorem dX12_goesOn_5 : decode cX12_goesOn 5 = .ok (.if_icmp .lt 76, 3) := by decide +kernel
theorem dX12_goesOn_8 : decode cX12_goesOn 8 = .ok (.aload_n 0, 1) := by decide +kernel
theorem dX12_goesOn_9 : decode cX12_goesOn 9 = .ok (.dup, 1) := by decide +kernel
theorem dX12_goesOn_10 : decode cX12_goesOn 10 = .ok (.getfield 185, 3) := by decide +kernel
theorem dX12_goesOn_13 : decode cX12_goesOn 13 = .ok (.iconst 1, 1) := by decide +kernel
theorem dX12_goesOn_14 : decode cX12_goesOn 14 = .ok (.iadd, 1) := by decide +kernel
theorem dX12_goesOn_15 : decode cX12_goesOn 15 = .ok (.putfield 185, 3) := by decide +kernel
theorem dX12_goesOn_18 : decode cX12_goesOn 18 = .ok (.iload 5, 2) := by decide +kernel
theorem dX12_goesOn_20 : decode cX12_goesOn 20 = .ok (.aload_n 0, 1) := by decide +kernel
theorem dX12_goesOn_21 : decode cX12_goesOn 21 = .ok (.getfield 188, 3) := by decide +kernel
theorem dX12_goesOn_24 : decode cX12_goesOn 24 = .ok (.if_icmp .lt 4, 3) := by decide +kernel
theorem dX12_goesOn_27 : decode cX12_goesOn 27 = .ok (.return_, 1) := by decide +kernel
theorem dX12_goesOn_28 : decode cX12_goesOn 28 = .ok (.aload_n 0, 1) := by decide +kernel
theorem dX12_goesOn_29 : decode cX12_goesOn 29 = .ok (.iload 5, 2) := by decide +kernel
theorem dX12_goesOn_31 : decode cX12_goesOn 31 = .ok (.putfield 188, 3) := by decide +kernel
theorem dX12_goesOn_34 : decode cX12_goesOn 34 = .ok (.aload_n 0, 1) := by decide +kernel
theorem dX12_goesOn_35 : decode cX12_goesOn 35 = .ok (.iload_n 3, 1) := by decide +kernel
theorem dX12_goesOn_36 : decode cX12_goesOn 36 = .ok (.putfield 191, 3) := by decide +kernel
theorem dX12_goesOn_39 : decode cX12_goesOn 39 = .ok (.aload_n 0, 1) := by decide +kernel
theorem dX12_goesOn_40 : decode cX12_goesOn 40 = .ok (.iconst 0, 1) := by decide +kernel
theorem dX12_goesOn_41 : decode cX12_goesOn 41 = .ok (.putfield 194, 3) := by decide +kernel
theorem dX12_goesOn_44 : decode cX12_goesOn 44 = .ok (.iconst 0, 1) := by decide +kernel
theorem dX12_goesOn_45 : decode cX12_goesOn 45 = .ok (.istore 6, 2) := by decide +kernel
theorem dX12_goesOn_47 : decode cX12_goesOn 47 = .ok (.iload 6, 2) := by decide +kernel
theorem dX12_goesOn_49 : decode cX12_goesOn 49 = .ok (.iload_n 3, 1) := by decide +kernel
theorem dX12_goesOn_50 : decode cX12_goesOn 50 = .ok (.if_icmp .ge 30, 3) := by decide +kernel
theorem dX12_goesOn_53 : decode cX12_goesOn 53 = .ok (.aload_n 0, 1) := by decide +kernel
theorem dX12_goesOn_54 : decode cX12_goesOn 54 = .ok (.bipush 10, 2) := by decide +kernel
theorem dX12_goesOn_56 : decode cX12_goesOn 56 = .ok (.aload_n 0, 1) := by decide +kernel
theorem dX12_goesOn_57 : decode cX12_goesOn 57 = .ok (.getfield 194, 3) := by decide +kernel
theorem dX12_goesOn_60 : decode cX12_goesOn 60 = .ok (.imul, 1) := by decide +kernel
theorem dX12_goesOn_61 : decode cX12_goesOn 61 = .ok (.aload_n 0, 1) := by decide +kernel
theorem dX12_goesOn_62 : decode cX12_goesOn 62 = .ok (.getfield 36, 3) := by decide +kernel
theorem dX12_goesOn_65 : decode cX12_goesOn 65 = .ok (.iload 6, 2) := by decide +kernel
theorem dX12_goesOn_67 : decode cX12_goesOn 67 = .ok (.iaload, 1) := by decide +kernel
theorem dX12_goesOn_68 : decode cX12_goesOn 68 = .ok (.iadd, 1) := by decide +kernel
theorem dX12_goesOn_69 : decode cX12_goesOn 69 = .ok (.iconst 1, 1) := by decide +kernel
theorem dX12_goesOn_70 : decode cX12_goesOn 70 = .ok (.iadd, 1) := by decide +kernel
theorem dX12_goesOn_71 : decode cX12_goesOn 71 = .ok (.putfield 194, 3) := by decide +kernel
theorem dX12_goesOn_74 : decode cX12_goesOn 74 = .ok (.iinc 6 1, 3) := by decide +kernel
theorem dX12_goesOn_77 : decode cX12_goesOn 77 = .ok (.goto (-30), 3) := by decide +kernel
theorem dX12_goesOn_80 : decode cX12_goesOn 80 = .ok (.return_, 1) := by decide +kernel
theorem dX12_goesOn_81 : decode cX12_goesOn 81 = .ok (.iconst 0, 1) := by decide +kernel
theorem dX12_goesOn_82 : decode cX12_goesOn 82 = .ok (.istore 6, 2) := by decide +kernel
theorem dX12_goesOn_84 : decode cX12_goesOn 84 = .ok (.iload 6, 2) := by decide +kernel
theorem dX12_goesOn_86 : decode cX12_goesOn 86 = .ok (.aload_n 0, 1) := by decide +kernel
theorem dX12_goesOn_87 : decode cX12_goesOn 87 = .ok (.getfield 9, 3) := by decide +kernel
theorem dX12_goesOn_90 : decode cX12_goesOn 90 = .ok (.bipush 6, 2) := by decide +kernel
theorem dX12_goesOn_92 : decode cX12_goesOn 92 = .ok (.iaload, 1) := by decide +kernel
theorem dX12_goesOn_93 : decode cX12_goesOn 93 = .ok (.if_icmp .ge 69, 3) := by decide +kernel
theorem dX12_goesOn_96 : decode cX12_goesOn 96 = .ok (.iload_n 2, 1) := by decide +kernel
theorem dX12_goesOn_97 : decode cX12_goesOn 97 = .ok (.iload 6, 2) := by decide +kernel
theorem dX12_goesOn_99 : decode cX12_goesOn 99 = .ok (.ishr, 1) := by decide +kernel
theorem dX12_goesOn_100 : decode cX12_goesOn 100 = .ok (.iconst 1, 1) := by decide +kernel
theorem dX12_goesOn_101 : decode cX12_goesOn 101 = .ok (.iand, 1) := by decide +kernel
theorem dX12_goesOn_102 : decode cX12_goesOn 102 = .ok (.iconst 1, 1) := by decide +kernel
theorem dX12_goesOn_103 : decode cX12_goesOn 103 = .ok (.if_icmp .ne 6, 3) := by decide +kernel
theorem dX12_goesOn_106 : decode cX12_goesOn 106 = .ok (.goto 50, 3) := by decide +kernel
theorem dX12_goesOn_109 : decode cX12_goesOn 109 = .ok (.aload_n 0, 1) := by decide +kernel
theorem dX12_goesOn_110 : decode cX12_goesOn 110 = .ok (.getfield 36, 3) := by decide +kernel
theorem dX12_goesOn_113 : decode cX12_goesOn 113 = .ok (.iload_n 3, 1) := by decide +kernel
theorem dX12_goesOn_114 : decode cX12_goesOn 114 = .ok (.iload 6, 2) := by decide +kernel
theorem dX12_goesOn_116 : decode cX12_goesOn 116 = .ok (.iastore, 1) := by decide +kernel
theorem dX12_goesOn_117 : decode cX12_goesOn 117 = .ok (.aload_n 0, 1) := by decide +kernel
theorem dX12_goesOn_118 : decode cX12_goesOn 118 = .ok (.iload_n 1, 1) := by decide +kernel
theorem dX12_goesOn_119 : decode cX12_goesOn 119 = .ok (.iload_n 2, 1) := by decide +kernel
theorem dX12_goesOn_120 : decode cX12_goesOn 120 = .ok (.iconst 1, 1) := by decide +kernel
theorem dX12_goesOn_121 : decode cX12_goesOn 121 = .ok (.iload 6, 2) := by decide +kernel
theorem dX12_goesOn_123 : decode cX12_goesOn 123 = .ok (.ishl, 1) := by decide +kernel
theorem dX12_goesOn_124 : decode cX12_goesOn 124 = .ok (.ior, 1) := by decide +kernel
theorem dX12_goesOn_125 : decode cX12_goesOn 125 = .ok (.iload_n 3, 1) := by decide +kernel
theorem dX12_goesOn_126 : decode cX12_goesOn 126 = .ok (.iconst 1, 1) := by decide +kernel
theorem dX12_goesOn_127 : decode cX12_goesOn 127 = .ok (.iadd, 1) := by decide +kernel
theorem dX12_goesOn_128 : decode cX12_goesOn 128 = .ok (.iload 4, 2) := by decide +kernel
theorem dX12_goesOn_130 : decode cX12_goesOn 130 = .ok (.aload_n 0, 1) := by decide +kernel
theorem dX12_goesOn_131 : decode cX12_goesOn 131 = .ok (.getfield 9, 3) := by decide +kernel
theorem dX12_goesOn_134 : decode cX12_goesOn 134 = .ok (.bipush 70, 2) := by decide +kernel
theorem dX12_goesOn_136 : decode cX12_goesOn 136 = .ok (.iload 6, 2) := by decide +kernel
theorem dX12_goesOn_138 : decode cX12_goesOn 138 = .ok (.iadd, 1) := by decide +kernel
theorem dX12_goesOn_139 : decode cX12_goesOn 139 = .ok (.iaload, 1) := by decide +kernel
theorem dX12_goesOn_140 : decode cX12_goesOn 140 = .ok (.iadd, 1) := by decide +kernel
theorem dX12_goesOn_141 : decode cX12_goesOn 141 = .ok (.iload 5, 2) := by decide +kernel
theorem dX12_goesOn_143 : decode cX12_goesOn 143 = .ok (.aload_n 0, 1) := by decide +kernel
theorem dX12_goesOn_144 : decode cX12_goesOn 144 = .ok (.iload_n 1, 1) := by decide +kernel
theorem dX12_goesOn_145 : decode cX12_goesOn 145 = .ok (.iload 6, 2) := by decide +kernel
theorem dX12_goesOn_147 : decode cX12_goesOn 147 = .ok (.iload 4, 2) := by decide +kernel
theorem dX12_goesOn_149 : decode cX12_goesOn 149 = .ok (.invokevirtual 197, 3) := by decide +kernel
theorem dX12_goesOn_152 : decode cX12_goesOn 152 = .ok (.iadd, 1) := by decide +kernel
theorem dX12_goesOn_153 : decode cX12_goesOn 153 = .ok (.invokevirtual 201, 3) := by decide +kernel
theorem dX12_goesOn_156 : decode cX12_goesOn 156 = .ok (.iinc 6 1, 3) := by decide +kernel
theorem dX12_goesOn_159 : decode cX12_goesOn 159 = .ok (.goto (-75), 3) := by decide +kernel
theorem dX12_goesOn_162 : decode cX12_goesOn 162 = .ok (.return_, 1) := by decide +kernel
theorem dX12_saws_0 : decode cX12_saws 0 = .ok (.aload_n 0, 1) := by decide +kernel
theorem dX12_saws_1 : decode cX12_saws 1 = .ok (.iconst 0, 1) := by decide +kernel
theorem dX12_saws_2 : decode cX12_saws 2 = .ok (.putfield 185, 3) := by decide +kernel
theorem dX12_saws_5 : decode cX12_saws 5 = .ok (.aload_n 0, 1) := by decide +kernel
theorem dX12_saws_6 : decode cX12_saws 6 = .ok (.ldc 120, 2) := by decide +kernel
theorem dX12_saws_8 : decode cX12_saws 8 = .ok (.putfield 188, 3) := by decide +kernel
theorem dX12_saws_11 : decode cX12_saws 11 = .ok (.aload_n 0, 1) := by decide +kernel
theorem dX12_saws_12 : decode cX12_saws 12 = .ok (.iload_n 1, 1) := by decide +kernel
theorem dX12_saws_13 : decode cX12_saws 13 = .ok (.iconst 0, 1) := by decide +kernel
theorem dX12_saws_14 : decode cX12_saws 14 = .ok (.iconst 0, 1) := by decide +kernel
theorem dX12_saws_15 : decode cX12_saws 15 = .ok (.iconst 0, 1) := by decide +kernel
theorem dX12_saws_16 : decode cX12_saws 16 = .ok (.iconst 0, 1) := by decide +kernel
theorem dX12_saws_17 : decode cX12_saws 17 = .ok (.invokevirtual 201, 3) := by decide +kernel
theorem dX12_saws_20 : decode cX12_saws 20 = .ok (.return_, 1) := by decide +kernel
theorem dX12_head_0 : decode cX12_head 0 = .ok (.iload_n 1, 1) := by decide +kernel
theorem dX12_head_1 : decode cX12_head 1 = .ok (.iconst 1, 1) := by decide +kernel
theorem dX12_head_2 : decode cX12_head 2 = .ok (.sipush 200, 3) := by decide +kernel
theorem dX12_head_5 : decode cX12_head 5 = .ok (.invokestatic 58, 3) := by decide +kernel
theorem dX12_head_8 : decode cX12_head 8 = .ok (.ifCond .eq 12, 3) := by decide +kernel
theorem dX12_head_11 : decode cX12_head 11 = .ok (.iload_n 2, 1) := by decide +kernel
theorem dX12_head_12 : decode cX12_head 12 = .ok (.iconst 0, 1) := by decide +kernel
theorem dX12_head_13 : decode cX12_head 13 = .ok (.iconst 2, 1) := by decide +kernel
theorem dX12_head_14 : decode cX12_head 14 = .ok (.invokestatic 58, 3) := by decide +kernel
theorem dX12_head_17 : decode cX12_head 17 = .ok (.ifCond .ne 6, 3) := by decide +kernel
theorem dX12_head_20 : decode cX12_head 20 = .ok (.bipush (-2), 2) := by decide +kernel
theorem dX12_head_22 : decode cX12_head 22 = .ok (.ireturn, 1) := by decide +kernel
theorem dX12_head_23 : decode cX12_head 23 = .ok (.aload_n 0, 1) := by decide +kernel
theorem dX12_head_24 : decode cX12_head 24 = .ok (.iload_n 1, 1) := by decide +kernel
theorem dX12_head_25 : decode cX12_head 25 = .ok (.invokevirtual 205, 3) := by decide +kernel
theorem dX12_head_28 : decode cX12_head 28 = .ok (.aload_n 0, 1) := by decide +kernel
theorem dX12_head_29 : decode cX12_head 29 = .ok (.getfield 185, 3) := by decide +kernel
theorem dX12_head_32 : decode cX12_head 32 = .ok (.ifCond .ne 6, 3) := by decide +kernel
theorem dX12_head_35 : decode cX12_head 35 = .ok (.bipush (-5), 2) := by decide +kernel
theorem dX12_head_37 : decode cX12_head 37 = .ok (.ireturn, 1) := by decide +kernel
theorem dX12_head_38 : decode cX12_head 38 = .ok (.iload_n 2, 1) := by decide +kernel
theorem dX12_head_39 : decode cX12_head 39 = .ok (.ifCond .ne 10, 3) := by decide +kernel
theorem dX12_head_42 : decode cX12_head 42 = .ok (.aload_n 0, 1) := by decide +kernel
theorem dX12_head_43 : decode cX12_head 43 = .ok (.getfield 188, 3) := by decide +kernel
theorem dX12_head_46 : decode cX12_head 46 = .ok (.goto 19, 3) := by decide +kernel
theorem dX12_head_49 : decode cX12_head 49 = .ok (.iload_n 2, 1) := by decide +kernel
theorem dX12_head_50 : decode cX12_head 50 = .ok (.iconst 1, 1) := by decide +kernel
theorem dX12_head_51 : decode cX12_head 51 = .ok (.if_icmp .ne 10, 3) := by decide +kernel
theorem dX12_head_54 : decode cX12_head 54 = .ok (.aload_n 0, 1) := by decide +kernel
theorem dX12_head_55 : decode cX12_head 55 = .ok (.getfield 191, 3) := by decide +kernel
theorem dX12_head_58 : decode cX12_head 58 = .ok (.goto 7, 3) := by decide +kernel
theorem dX12_head_61 : decode cX12_head 61 = .ok (.aload_n 0, 1) := by decide +kernel
theorem dX12_head_62 : decode cX12_head 62 = .ok (.getfield 194, 3) := by decide +kernel
theorem dX12_head_65 : decode cX12_head 65 = .ok (.ireturn, 1) := by decide +kernel
theorem dX12_used_0 : decode cX12_used 0 = .ok (.iload_n 1, 1) := by decide +kernel
theorem dX12_used_1 : decode cX12_used 1 = .ok (.iconst 1, 1) := by decide +kernel
theorem dX12_used_2 : decode cX12_used 2 = .ok (.sipush 200, 3) := by decide +kernel
theorem dX12_used_5 : decode cX12_used 5 = .ok (.invokestatic 58, 3) := by decide +kernel
theorem dX12_used_8 : decode cX12_used 8 = .ok (.ifCond .eq 8, 3) := by decide +kernel
theorem dX12_used_11 : decode cX12_used 11 = .ok (.iload_n 2, 1) := by decide +kernel
theorem dX12_used_12 : decode cX12_used 12 = .ok (.iconst 1, 1) := by decide +kernel
theorem dX12_used_13 : decode cX12_used 13 = .ok (.if_icmp .ge 6, 3) := by decide +kernel
theorem dX12_used_16 : decode cX12_used 16 = .ok (.bipush (-2), 2) := by decide +kernel
theorem dX12_used_18 : decode cX12_used 18 = .ok (.ireturn, 1) := by decide +kernel
theorem dX12_used_19 : decode cX12_used 19 = .ok (.iconst 1, 1) := by decide +kernel
theorem dX12_used_20 : decode cX12_used 20 = .ok (.istore_n 3, 1) := by decide +kernel
theorem dX12_used_21 : decode cX12_used 21 = .ok (.iload_n 2, 1) := by decide +kernel
theorem dX12_used_22 : decode cX12_used 22 = .ok (.iload_n 3, 1) := by decide +kernel
theorem dX12_used_23 : decode cX12_used 23 = .ok (.idiv, 1) := by decide +kernel
theorem dX12_used_24 : decode cX12_used 24 = .ok (.bipush 9, 2) := by decide +kernel
theorem dX12_used_26 : decode cX12_used 26 = .ok (.if_icmp .le 11, 3) := by decide +kernel
theorem dX12_used_29 : decode cX12_used 29 = .ok (.iload_n 3, 1) := by decide +kernel
theorem dX12_used_30 : decode cX12_used 30 = .ok (.bipush 10, 2) := by decide +kernel
theorem dX12_used_32 : decode cX12_used 32 = .ok (.imul, 1) := by decide +kernel
theorem dX12_used_33 : decode cX12_used 33 = .ok (.istore_n 3, 1) := by decide +kernel
theorem dX12_used_34 : decode cX12_used 34 = .ok (.goto (-13), 3) := by decide +kernel
theorem dX12_used_37 : decode cX12_used 37 = .ok (.iconst 0, 1) := by decide +kernel
theorem dX12_used_38 : decode cX12_used 38 = .ok (.istore 4, 2) := by decide +kernel
theorem dX12_used_40 : decode cX12_used 40 = .ok (.iconst 0, 1) := by decide +kernel
theorem dX12_used_41 : decode cX12_used 41 = .ok (.istore 5, 2) := by decide +kernel
theorem dX12_used_43 : decode cX12_used 43 = .ok (.iconst 0, 1) := by decide +kernel
theorem dX12_used_44 : decode cX12_used 44 = .ok (.istore 6, 2) := by decide +kernel
theorem dX12_used_46 : decode cX12_used 46 = .ok (.iload_n 3, 1) := by decide +kernel
theorem dX12_used_47 : decode cX12_used 47 = .ok (.ifCond .le 99, 3) := by decide +kernel
theorem dX12_used_50 : decode cX12_used 50 = .ok (.iload_n 2, 1) := by decide +kernel
theorem dX12_used_51 : decode cX12_used 51 = .ok (.iload_n 3, 1) := by decide +kernel
theorem dX12_used_52 : decode cX12_used 52 = .ok (.idiv, 1) := by decide +kernel
theorem dX12_used_53 : decode cX12_used 53 = .ok (.bipush 10, 2) := by decide +kernel
theorem dX12_used_55 : decode cX12_used 55 = .ok (.irem, 1) := by decide +kernel
theorem dX12_used_56 : decode cX12_used 56 = .ok (.iconst 1, 1) := by decide +kernel
theorem dX12_used_57 : decode cX12_used 57 = .ok (.isub, 1) := by decide +kernel
theorem dX12_used_58 : decode cX12_used 58 = .ok (.istore 7, 2) := by decide +kernel
theorem dX12_used_60 : decode cX12_used 60 = .ok (.iload 4, 2) := by decide +kernel
theorem dX12_used_62 : decode cX12_used 62 = .ok (.iconst 2, 1) := by decide +kernel
theorem dX12_used_63 : decode cX12_used 63 = .ok (.iload_n 1, 1) := by decide +kernel
theorem dX12_used_64 : decode cX12_used 64 = .ok (.imul, 1) := by decide +kernel
theorem dX12_used_65 : decode cX12_used 65 = .ok (.if_icmp .ge 32, 3) := by decide +kernel
theorem dX12_used_68 : decode cX12_used 68 = .ok (.iload 7, 2) := by decide +kernel
theorem dX12_used_70 : decode cX12_used 70 = .ok (.iconst 0, 1) := by decide +kernel
theorem dX12_used_71 : decode cX12_used 71 = .ok (.aload_n 0, 1) := by decide +kernel
theorem dX12_used_72 : decode cX12_used 72 = .ok (.getfield 9, 3) := by decide +kernel
theorem dX12_used_75 : decode cX12_used 75 = .ok (.bipush 6, 2) := by decide +kernel
theorem dX12_used_77 : decode cX12_used 77 = .ok (.iaload, 1) := by decide +kernel
theorem dX12_used_78 : decode cX12_used 78 = .ok (.iconst 1, 1) := by decide +kernel
theorem dX12_used_79 : decode cX12_used 79 = .ok (.isub, 1) := by decide +kernel
theorem dX12_used_80 : decode cX12_used 80 = .ok (.invokestatic 58, 3) := by decide +kernel
theorem dX12_used_83 : decode cX12_used 83 = .ok (.ifCond .eq 14, 3) := by decide +kernel
theorem dX12_used_86 : decode cX12_used 86 = .ok (.iload 6, 2) := by decide +kernel
theorem dX12_used_88 : decode cX12_used 88 = .ok (.iload 7, 2) := by decide +kernel
theorem dX12_used_90 : decode cX12_used 90 = .ok (.ishr, 1) := by decide +kernel
theorem dX12_used_91 : decode cX12_used 91 = .ok (.iconst 1, 1) := by decide +kernel
theorem dX12_used_92 : decode cX12_used 92 = .ok (.iand, 1) := by decide +kernel
theorem dX12_used_93 : decode cX12_used 93 = .ok (.iconst 1, 1) := by decide +kernel
theorem dX12_used_94 : decode cX12_used 94 = .ok (.if_icmp .ne 6, 3) := by decide +kernel
theorem dX12_used_97 : decode cX12_used 97 = .ok (.bipush (-2), 2) := by decide +kernel
theorem dX12_used_99 : decode cX12_used 99 = .ok (.ireturn, 1) := by decide +kernel
theorem dX12_used_100 : decode cX12_used 100 = .ok (.iload 6, 2) := by decide +kernel
theorem dX12_used_102 : decode cX12_used 102 = .ok (.iconst 1, 1) := by decide +kernel
theorem dX12_used_103 : decode cX12_used 103 = .ok (.iload 7, 2) := by decide +kernel
theorem dX12_used_105 : decode cX12_used 105 = .ok (.ishl, 1) := by decide +kernel
theorem dX12_used_106 : decode cX12_used 106 = .ok (.ior, 1) := by decide +kernel
theorem dX12_used_107 : decode cX12_used 107 = .ok (.istore 6, 2) := by decide +kernel
theorem dX12_used_109 : decode cX12_used 109 = .ok (.iload 5, 2) := by decide +kernel
theorem dX12_used_111 : decode cX12_used 111 = .ok (.aload_n 0, 1) := by decide +kernel
theorem dX12_used_112 : decode cX12_used 112 = .ok (.iload_n 1, 1) := by decide +kernel
theorem dX12_used_113 : decode cX12_used 113 = .ok (.iload 7, 2) := by decide +kernel
theorem dX12_used_115 : decode cX12_used 115 = .ok (.iload 4, 2) := by decide +kernel
theorem dX12_used_117 : decode cX12_used 117 = .ok (.invokevirtual 197, 3) := by decide +kernel
theorem dX12_used_120 : decode cX12_used 120 = .ok (.iadd, 1) := by decide +kernel
theorem dX12_used_121 : decode cX12_used 121 = .ok (.istore 5, 2) := by decide +kernel
theorem dX12_used_123 : decode cX12_used 123 = .ok (.iload 4, 2) := by decide +kernel
theorem dX12_used_125 : decode cX12_used 125 = .ok (.aload_n 0, 1) := by decide +kernel
theorem dX12_used_126 : decode cX12_used 126 = .ok (.getfield 9, 3) := by decide +kernel
theorem dX12_used_129 : decode cX12_used 129 = .ok (.bipush 70, 2) := by decide +kernel
theorem dX12_used_131 : decode cX12_used 131 = .ok (.iload 7, 2) := by decide +kernel
theorem dX12_used_133 : decode cX12_used 133 = .ok (.iadd, 1) := by decide +kernel
theorem dX12_used_134 : decode cX12_used 134 = .ok (.iaload, 1) := by decide +kernel
theorem dX12_used_135 : decode cX12_used 135 = .ok (.iadd, 1) := by decide +kernel
theorem dX12_used_136 : decode cX12_used 136 = .ok (.istore 4, 2) := by decide +kernel
theorem dX12_used_138 : decode cX12_used 138 = .ok (.iload_n 3, 1) := by decide +kernel
theorem dX12_used_139 : decode cX12_used 139 = .ok (.bipush 10, 2) := by decide +kernel
theorem dX12_used_141 : decode cX12_used 141 = .ok (.idiv, 1) := by decide +kernel
theorem dX12_used_142 : decode cX12_used 142 = .ok (.istore_n 3, 1) := by decide +kernel
theorem dX12_used_143 : decode cX12_used 143 = .ok (.goto (-97), 3) := by decide +kernel
