theorem dX5_isBetter_57 : decode cX5_isBetter 57 = .ok (.aload_n 0, 1) := by decide +kernel
theorem dX5_isBetter_58 : decode cX5_isBetter 58 = .ok (.getfield 15, 3) := by decide +kernel
theorem dX5_isBetter_61 : decode cX5_isBetter 61 = .ok (.iload_n 2, 1) := by decide +kernel
theorem dX5_isBetter_62 : decode cX5_isBetter 62 = .ok (.iaload, 1) := by decide +kernel
theorem dX5_isBetter_63 : decode cX5_isBetter 63 = .ok (.if_icmp .ge 7, 3) := by decide +kernel
theorem dX5_isBetter_66 : decode cX5_isBetter 66 = .ok (.iconst 1, 1) := by decide +kernel
theorem dX5_isBetter_67 : decode cX5_isBetter 67 = .ok (.goto 4, 3) := by decide +kernel
theorem dX5_isBetter_70 : decode cX5_isBetter 70 = .ok (.iconst 0, 1) := by decide +kernel
theorem dX5_isBetter_71 : decode cX5_isBetter 71 = .ok (.ireturn, 1) := by decide +kernel
theorem dX5_isBetter_72 : decode cX5_isBetter 72 = .ok (.iload_n 1, 1) := by decide +kernel
theorem dX5_isBetter_73 : decode cX5_isBetter 73 = .ok (.invokestatic 47, 3) := by decide +kernel
theorem dX5_isBetter_76 : decode cX5_isBetter 76 = .ok (.iload_n 2, 1) := by decide +kernel
theorem dX5_isBetter_77 : decode cX5_isBetter 77 = .ok (.invokestatic 47, 3) := by decide +kernel
theorem dX5_isBetter_80 : decode cX5_isBetter 80 = .ok (.if_icmp .ge 7, 3) := by decide +kernel
theorem dX5_isBetter_83 : decode cX5_isBetter 83 = .ok (.iconst 1, 1) := by decide +kernel
theorem dX5_isBetter_84 : decode cX5_isBetter 84 = .ok (.goto 4, 3) := by decide +kernel
theorem dX5_isBetter_87 : decode cX5_isBetter 87 = .ok (.iconst 0, 1) := by decide +kernel
theorem dX5_isBetter_88 : decode cX5_isBetter 88 = .ok (.ireturn, 1) := by decide +kernel
theorem dX5_closestTo_0 : decode cX5_closestTo 0 = .ok (.aload_n 0, 1) := by decide +kernel
theorem dX5_closestTo_1 : decode cX5_closestTo 1 = .ok (.getfield 9, 3) := by decide +kernel
theorem dX5_closestTo_4 : decode cX5_closestTo 4 = .ok (.iconst 1, 1) := by decide +kernel
theorem dX5_closestTo_5 : decode cX5_closestTo 5 = .ok (.iaload, 1) := by decide +kernel
theorem dX5_closestTo_6 : decode cX5_closestTo 6 = .ok (.istore_n 2, 1) := by decide +kernel
theorem dX5_closestTo_7 : decode cX5_closestTo 7 = .ok (.iconst 2, 1) := by decide +kernel
theorem dX5_closestTo_8 : decode cX5_closestTo 8 = .ok (.istore_n 3, 1) := by decide +kernel
theorem dX5_closestTo_9 : decode cX5_closestTo 9 = .ok (.iload_n 3, 1) := by decide +kernel
theorem dX5_closestTo_10 : decode cX5_closestTo 10 = .ok (.aload_n 0, 1) := by decide +kernel
theorem dX5_closestTo_11 : decode cX5_closestTo 11 = .ok (.getfield 24, 3) := by decide +kernel
theorem dX5_closestTo_14 : decode cX5_closestTo 14 = .ok (.if_icmp .ge 61, 3) := by decide +kernel
theorem dX5_closestTo_17 : decode cX5_closestTo 17 = .ok (.aload_n 0, 1) := by decide +kernel
theorem dX5_closestTo_18 : decode cX5_closestTo 18 = .ok (.getfield 9, 3) := by decide +kernel
theorem dX5_closestTo_21 : decode cX5_closestTo 21 = .ok (.iload_n 3, 1) := by decide +kernel
theorem dX5_closestTo_22 : decode cX5_closestTo 22 = .ok (.iaload, 1) := by decide +kernel
theorem dX5_closestTo_23 : decode cX5_closestTo 23 = .ok (.iload_n 1, 1) := by decide +kernel
theorem dX5_closestTo_24 : decode cX5_closestTo 24 = .ok (.isub, 1) := by decide +kernel
theorem dX5_closestTo_25 : decode cX5_closestTo 25 = .ok (.invokestatic 53, 3) := by decide +kernel
theorem dX5_closestTo_28 : decode cX5_closestTo 28 = .ok (.istore 4, 2) := by decide +kernel
theorem dX5_closestTo_30 : decode cX5_closestTo 30 = .ok (.iload_n 2, 1) := by decide +kernel
theorem dX5_closestTo_31 : decode cX5_closestTo 31 = .ok (.iload_n 1, 1) := by decide +kernel
theorem dX5_closestTo_32 : decode cX5_closestTo 32 = .ok (.isub, 1) := by decide +kernel
theorem dX5_closestTo_33 : decode cX5_closestTo 33 = .ok (.invokestatic 53, 3) := by decide +kernel
theorem dX5_closestTo_36 : decode cX5_closestTo 36 = .ok (.istore 5, 2) := by decide +kernel
theorem dX5_closestTo_38 : decode cX5_closestTo 38 = .ok (.iload 4, 2) := by decide +kernel
theorem dX5_closestTo_40 : decode cX5_closestTo 40 = .ok (.iload 5, 2) := by decide +kernel
theorem dX5_closestTo_42 : decode cX5_closestTo 42 = .ok (.if_icmp .lt 20, 3) := by decide +kernel
theorem dX5_closestTo_45 : decode cX5_closestTo 45 = .ok (.iload 4, 2) := by decide +kernel
theorem dX5_closestTo_47 : decode cX5_closestTo 47 = .ok (.iload 5, 2) := by decide +kernel
theorem dX5_closestTo_49 : decode cX5_closestTo 49 = .ok (.if_icmp .ne 20, 3) := by decide +kernel
theorem dX5_closestTo_52 : decode cX5_closestTo 52 = .ok (.aload_n 0, 1) := by decide +kernel
theorem dX5_closestTo_53 : decode cX5_closestTo 53 = .ok (.getfield 9, 3) := by decide +kernel
theorem dX5_closestTo_56 : decode cX5_closestTo 56 = .ok (.iload_n 3, 1) := by decide +kernel
theorem dX5_closestTo_57 : decode cX5_closestTo 57 = .ok (.iaload, 1) := by decide +kernel
theorem dX5_closestTo_58 : decode cX5_closestTo 58 = .ok (.iload_n 2, 1) := by decide +kernel
theorem dX5_closestTo_59 : decode cX5_closestTo 59 = .ok (.if_icmp .ge 10, 3) := by decide +kernel
theorem dX5_closestTo_62 : decode cX5_closestTo 62 = .ok (.aload_n 0, 1) := by decide +kernel
theorem dX5_closestTo_63 : decode cX5_closestTo 63 = .ok (.getfield 9, 3) := by decide +kernel
theorem dX5_closestTo_66 : decode cX5_closestTo 66 = .ok (.iload_n 3, 1) := by decide +kernel
theorem dX5_closestTo_67 : decode cX5_closestTo 67 = .ok (.iaload, 1) := by decide +kernel
theorem dX5_closestTo_68 : decode cX5_closestTo 68 = .ok (.istore_n 2, 1) := by decide +kernel
theorem dX5_closestTo_69 : decode cX5_closestTo 69 = .ok (.iinc 3 1, 3) := by decide +kernel
theorem dX5_closestTo_72 : decode cX5_closestTo 72 = .ok (.goto (-63), 3) := by decide +kernel
theorem dX5_closestTo_75 : decode cX5_closestTo 75 = .ok (.iload_n 2, 1) := by decide +kernel
theorem dX5_closestTo_76 : decode cX5_closestTo 76 = .ok (.ireturn, 1) := by decide +kernel
theorem dX6_init_0 : decode cX6_init 0 = .ok (.aload_n 0, 1) := by decide +kernel
theorem dX6_init_1 : decode cX6_init 1 = .ok (.invokespecial 1, 3) := by decide +kernel
theorem dX6_init_4 : decode cX6_init 4 = .ok (.aload_n 0, 1) := by decide +kernel
theorem dX6_init_5 : decode cX6_init 5 = .ok (.iload_n 1, 1) := by decide +kernel
theorem dX6_init_6 : decode cX6_init 6 = .ok (.putfield 7, 3) := by decide +kernel
theorem dX6_init_9 : decode cX6_init 9 = .ok (.aload_n 0, 1) := by decide +kernel
theorem dX6_init_10 : decode cX6_init 10 = .ok (.iload_n 2, 1) := by decide +kernel
theorem dX6_init_11 : decode cX6_init 11 = .ok (.putfield 13, 3) := by decide +kernel
theorem dX6_init_14 : decode cX6_init 14 = .ok (.aload_n 0, 1) := by decide +kernel
theorem dX6_init_15 : decode cX6_init 15 = .ok (.iload_n 3, 1) := by decide +kernel
theorem dX6_init_16 : decode cX6_init 16 = .ok (.putfield 16, 3) := by decide +kernel
theorem dX6_init_19 : decode cX6_init 19 = .ok (.aload_n 0, 1) := by decide +kernel
theorem dX6_init_20 : decode cX6_init 20 = .ok (.iload 4, 2) := by decide +kernel
theorem dX6_init_22 : decode cX6_init 22 = .ok (.putfield 19, 3) := by decide +kernel
theorem dX6_init_25 : decode cX6_init 25 = .ok (.return_, 1) := by decide +kernel
theorem dX6_canBe_0 : decode cX6_canBe 0 = .ok (.iload_n 0, 1) := by decide +kernel
theorem dX6_canBe_1 : decode cX6_canBe 1 = .ok (.iconst 0, 1) := by decide +kernel
theorem dX6_canBe_2 : decode cX6_canBe 2 = .ok (.iconst 4, 1) := by decide +kernel
theorem dX6_canBe_3 : decode cX6_canBe 3 = .ok (.invokestatic 22, 3) := by decide +kernel
theorem dX6_canBe_6 : decode cX6_canBe 6 = .ok (.ifCond .eq 38, 3) := by decide +kernel
theorem dX6_canBe_9 : decode cX6_canBe 9 = .ok (.iload_n 1, 1) := by decide +kernel
theorem dX6_canBe_10 : decode cX6_canBe 10 = .ok (.iconst 1, 1) := by decide +kernel
theorem dX6_canBe_11 : decode cX6_canBe 11 = .ok (.bipush 99, 2) := by decide +kernel
theorem dX6_canBe_13 : decode cX6_canBe 13 = .ok (.invokestatic 22, 3) := by decide +kernel
theorem dX6_canBe_16 : decode cX6_canBe 16 = .ok (.ifCond .eq 28, 3) := by decide +kernel
theorem dX6_canBe_19 : decode cX6_canBe 19 = .ok (.iload_n 2, 1) := by decide +kernel
theorem dX6_canBe_20 : decode cX6_canBe 20 = .ok (.iconst 1, 1) := by decide +kernel
theorem dX6_canBe_21 : decode cX6_canBe 21 = .ok (.bipush 9, 2) := by decide +kernel
theorem dX6_canBe_23 : decode cX6_canBe 23 = .ok (.invokestatic 22, 3) := by decide +kernel
theorem dX6_canBe_26 : decode cX6_canBe 26 = .ok (.ifCond .eq 18, 3) := by decide +kernel
theorem dX6_canBe_29 : decode cX6_canBe 29 = .ok (.iload_n 3, 1) := by decide +kernel
theorem dX6_canBe_30 : decode cX6_canBe 30 = .ok (.bipush (-9), 2) := by decide +kernel
theorem dX6_canBe_32 : decode cX6_canBe 32 = .ok (.bipush 9, 2) := by decide +kernel
theorem dX6_canBe_34 : decode cX6_canBe 34 = .ok (.invokestatic 22, 3) := by decide +kernel
theorem dX6_canBe_37 : decode cX6_canBe 37 = .ok (.ifCond .eq 7, 3) := by decide +kernel
theorem dX6_canBe_40 : decode cX6_canBe 40 = .ok (.iconst 1, 1) := by decide +kernel
theorem dX6_canBe_41 : decode cX6_canBe 41 = .ok (.goto 4, 3) := by decide +kernel
theorem dX6_canBe_44 : decode cX6_canBe 44 = .ok (.iconst 0, 1) := by decide +kernel
theorem dX6_canBe_45 : decode cX6_canBe 45 = .ok (.ireturn, 1) := by decide +kernel
theorem dX6_toldAs_0 : decode cX6_toldAs 0 = .ok (.iconst 1, 1) := by decide +kernel
theorem dX6_toldAs_1 : decode cX6_toldAs 1 = .ok (.ireturn, 1) := by decide +kernel
theorem dX6_twin_0 : decode cX6_twin 0 = .ok (.new 8, 3) := by decide +kernel
theorem dX6_twin_3 : decode cX6_twin 3 = .ok (.dup, 1) := by decide +kernel
theorem dX6_twin_4 : decode cX6_twin 4 = .ok (.aload_n 0, 1) := by decide +kernel
theorem dX6_twin_5 : decode cX6_twin 5 = .ok (.getfield 7, 3) := by decide +kernel
theorem dX6_twin_8 : decode cX6_twin 8 = .ok (.aload_n 0, 1) := by decide +kernel
theorem dX6_twin_9 : decode cX6_twin 9 = .ok (.getfield 13, 3) := by decide +kernel
theorem dX6_twin_12 : decode cX6_twin 12 = .ok (.aload_n 0, 1) := by decide +kernel
theorem dX6_twin_13 : decode cX6_twin 13 = .ok (.getfield 16, 3) := by decide +kernel
theorem dX6_twin_16 : decode cX6_twin 16 = .ok (.aload_n 0, 1) := by decide +kernel
theorem dX6_twin_17 : decode cX6_twin 17 = .ok (.getfield 19, 3) := by decide +kernel
theorem dX6_twin_20 : decode cX6_twin 20 = .ok (.invokespecial 28, 3) := by decide +kernel
theorem dX6_twin_23 : decode cX6_twin 23 = .ok (.areturn, 1) := by decide +kernel
theorem dX6_counts_0 : decode cX6_counts 0 = .ok (.iconst 1, 1) := by decide +kernel
theorem dX6_counts_1 : decode cX6_counts 1 = .ok (.aload_n 0, 1) := by decide +kernel
theorem dX6_counts_2 : decode cX6_counts 2 = .ok (.getfield 13, 3) := by decide +kernel
theorem dX6_counts_5 : decode cX6_counts 5 = .ok (.iconst 1, 1) := by decide +kernel
theorem dX6_counts_6 : decode cX6_counts 6 = .ok (.isub, 1) := by decide +kernel
theorem dX6_counts_7 : decode cX6_counts 7 = .ok (.invokestatic 31, 3) := by decide +kernel
theorem dX6_counts_10 : decode cX6_counts 10 = .ok (.istore_n 1, 1) := by decide +kernel
theorem dX6_counts_11 : decode cX6_counts 11 = .ok (.aload_n 0, 1) := by decide +kernel
theorem dX6_counts_12 : decode cX6_counts 12 = .ok (.getfield 7, 3) := by decide +kernel
theorem dX6_counts_15 : decode cX6_counts 15 = .ok (.tableswitch 46 1 4 #[29, 46, 31, 38], 29) := by decide +kernel
theorem dX6_counts_44 : decode cX6_counts 44 = .ok (.iload_n 1, 1) := by decide +kernel
theorem dX6_counts_45 : decode cX6_counts 45 = .ok (.ireturn, 1) := by decide +kernel
theorem dX6_counts_46 : decode cX6_counts 46 = .ok (.aload_n 0, 1) := by decide +kernel
theorem dX6_counts_47 : decode cX6_counts 47 = .ok (.getfield 13, 3) := by decide +kernel
theorem dX6_counts_50 : decode cX6_counts 50 = .ok (.iconst 2, 1) := by decide +kernel
theorem dX6_counts_51 : decode cX6_counts 51 = .ok (.iadd, 1) := by decide +kernel
theorem dX6_counts_52 : decode cX6_counts 52 = .ok (.ireturn, 1) := by decide +kernel
theorem dX6_counts_53 : decode cX6_counts 53 = .ok (.iconst 1, 1) := by decide +kernel
theorem dX6_counts_54 : decode cX6_counts 54 = .ok (.iload_n 1, 1) := by decide +kernel
theorem dX6_counts_55 : decode cX6_counts 55 = .ok (.iconst 2, 1) := by decide +kernel
theorem dX6_counts_56 : decode cX6_counts 56 = .ok (.idiv, 1) := by decide +kernel
theorem dX6_counts_57 : decode cX6_counts 57 = .ok (.invokestatic 31, 3) := by decide +kernel
theorem dX6_counts_60 : decode cX6_counts 60 = .ok (.ireturn, 1) := by decide +kernel
theorem dX6_counts_61 : decode cX6_counts 61 = .ok (.aload_n 0, 1) := by decide +kernel
theorem dX6_counts_62 : decode cX6_counts 62 = .ok (.getfield 13, 3) := by decide +kernel
theorem dX6_counts_65 : decode cX6_counts 65 = .ok (.ireturn, 1) := by decide +kernel
theorem dX6_edge_0 : decode cX6_edge 0 = .ok (.aload_n 0, 1) := by decide +kernel
theorem dX6_edge_1 : decode cX6_edge 1 = .ok (.getfield 7, 3) := by decide +kernel
theorem dX6_edge_4 : decode cX6_edge 4 = .ok (.tableswitch 42 2 4 #[28, 28, 35], 28) := by decide +kernel
theorem dX6_edge_32 : decode cX6_edge 32 = .ok (.aload_n 0, 1) := by decide +kernel
theorem dX6_edge_33 : decode cX6_edge 33 = .ok (.getfield 19, 3) := by decide +kernel
theorem dX6_edge_36 : decode cX6_edge 36 = .ok (.iconst 1, 1) := by decide +kernel
theorem dX6_edge_37 : decode cX6_edge 37 = .ok (.iadd, 1) := by decide +kernel
theorem dX6_edge_38 : decode cX6_edge 38 = .ok (.ireturn, 1) := by decide +kernel
theorem dX6_edge_39 : decode cX6_edge 39 = .ok (.aload_n 0, 1) := by decide +kernel
theorem dX6_edge_40 : decode cX6_edge 40 = .ok (.getfield 19, 3) := by decide +kernel
theorem dX6_edge_43 : decode cX6_edge 43 = .ok (.iconst 2, 1) := by decide +kernel
theorem dX6_edge_44 : decode cX6_edge 44 = .ok (.isub, 1) := by decide +kernel
theorem dX6_edge_45 : decode cX6_edge 45 = .ok (.ireturn, 1) := by decide +kernel
theorem dX6_edge_46 : decode cX6_edge 46 = .ok (.aload_n 0, 1) := by decide +kernel
theorem dX6_edge_47 : decode cX6_edge 47 = .ok (.getfield 19, 3) := by decide +kernel
theorem dX6_edge_50 : decode cX6_edge 50 = .ok (.ireturn, 1) := by decide +kernel
theorem dX6_price_0 : decode cX6_price 0 = .ok (.aload_n 0, 1) := by decide +kernel
theorem dX6_price_1 : decode cX6_price 1 = .ok (.getfield 13, 3) := by decide +kernel
theorem dX6_price_4 : decode cX6_price 4 = .ok (.aload_n 0, 1) := by decide +kernel
theorem dX6_price_5 : decode cX6_price 5 = .ok (.getfield 16, 3) := by decide +kernel
theorem dX6_price_8 : decode cX6_price 8 = .ok (.imul, 1) := by decide +kernel
theorem dX6_price_9 : decode cX6_price 9 = .ok (.istore_n 1, 1) := by decide +kernel
theorem dX6_price_10 : decode cX6_price 10 = .ok (.aload_n 0, 1) := by decide +kernel
theorem dX6_price_11 : decode cX6_price 11 = .ok (.getfield 7, 3) := by decide +kernel
theorem dX6_price_14 : decode cX6_price 14 = .ok (.tableswitch 39 1 4 #[30, 39, 34, 30], 30) := by decide +kernel
theorem dX6_price_44 : decode cX6_price 44 = .ok (.iload_n 1, 1) := by decide +kernel
theorem dX6_price_45 : decode cX6_price 45 = .ok (.iconst 2, 1) := by decide +kernel
theorem dX6_price_46 : decode cX6_price 46 = .ok (.idiv, 1) := by decide +kernel
theorem dX6_price_47 : decode cX6_price 47 = .ok (.ireturn, 1) := by decide +kernel
theorem dX6_price_48 : decode cX6_price 48 = .ok (.iload_n 1, 1) := by decide +kernel
theorem dX6_price_49 : decode cX6_price 49 = .ok (.bipush 7, 2) := by decide +kernel
theorem dX6_price_51 : decode cX6_price 51 = .ok (.iadd, 1) := by decide +kernel
theorem dX6_price_52 : decode cX6_price 52 = .ok (.ireturn, 1) := by decide +kernel
theorem dX6_price_53 : decode cX6_price 53 = .ok (.iload_n 1, 1) := by decide +kernel
theorem dX6_price_54 : decode cX6_price 54 = .ok (.ireturn, 1) := by decide +kernel
theorem dX7_init_0 : decode cX7_init 0 = .ok (.aload_n 0, 1) := by decide +kernel
theorem dX7_init_1 : decode cX7_init 1 = .ok (.invokespecial 3, 3) := by decide +kernel
theorem dX7_init_4 : decode cX7_init 4 = .ok (.aload_n 0, 1) := by decide +kernel
theorem dX7_init_5 : decode cX7_init 5 = .ok (.bipush 9, 2) := by decide +kernel
theorem dX7_init_7 : decode cX7_init 7 = .ok (.anewarray 9, 3) := by decide +kernel
theorem dX7_init_10 : decode cX7_init 10 = .ok (.putfield 11, 3) := by decide +kernel
theorem dX7_init_13 : decode cX7_init 13 = .ok (.aload_n 0, 1) := by decide +kernel
theorem dX7_init_14 : decode cX7_init 14 = .ok (.bipush 6, 2) := by decide +kernel
theorem dX7_init_16 : decode cX7_init 16 = .ok (.anewarray 17, 3) := by decide +kernel
theorem dX7_init_19 : decode cX7_init 19 = .ok (.putfield 19, 3) := by decide +kernel
theorem dX7_init_22 : decode cX7_init 22 = .ok (.aload_n 0, 1) := by decide +kernel
theorem dX7_init_23 : decode cX7_init 23 = .ok (.bipush 7, 2) := by decide +kernel
theorem dX7_init_25 : decode cX7_init 25 = .ok (.anewarray 23, 3) := by decide +kernel
theorem dX7_init_28 : decode cX7_init 28 = .ok (.putfield 25, 3) := by decide +kernel
theorem dX7_init_31 : decode cX7_init 31 = .ok (.aload_n 0, 1) := by decide +kernel
theorem dX7_init_32 : decode cX7_init 32 = .ok (.iconst 4, 1) := by decide +kernel
theorem dX7_init_33 : decode cX7_init 33 = .ok (.newarray .int, 2) := by decide +kernel
theorem dX7_init_35 : decode cX7_init 35 = .ok (.dup, 1) := by decide +kernel
theorem dX7_init_36 : decode cX7_init 36 = .ok (.iconst 0, 1) := by decide +kernel
theorem dX7_init_37 : decode cX7_init 37 = .ok (.bipush 100, 2) := by decide +kernel
theorem dX7_init_39 : decode cX7_init 39 = .ok (.iastore, 1) := by decide +kernel
theorem dX7_init_40 : decode cX7_init 40 = .ok (.dup, 1) := by decide +kernel
theorem dX7_init_41 : decode cX7_init 41 = .ok (.iconst 1, 1) := by decide +kernel
theorem dX7_init_42 : decode cX7_init 42 = .ok (.iconst 4, 1) := by decide +kernel
theorem dX7_init_43 : decode cX7_init 43 = .ok (.iastore, 1) := by decide +kernel
theorem dX7_init_44 : decode cX7_init 44 = .ok (.dup, 1) := by decide +kernel
theorem dX7_init_45 : decode cX7_init 45 = .ok (.iconst 2, 1) := by decide +kernel
theorem dX7_init_46 : decode cX7_init 46 = .ok (.iconst 3, 1) := by decide +kernel
theorem dX7_init_47 : decode cX7_init 47 = .ok (.iastore, 1) := by decide +kernel
theorem dX7_init_48 : decode cX7_init 48 = .ok (.dup, 1) := by decide +kernel
theorem dX7_init_49 : decode cX7_init 49 = .ok (.iconst 3, 1) := by decide +kernel
theorem dX7_init_50 : decode cX7_init 50 = .ok (.iconst 2, 1) := by decide +kernel
theorem dX7_init_51 : decode cX7_init 51 = .ok (.iastore, 1) := by decide +kernel
theorem dX7_init_52 : decode cX7_init 52 = .ok (.putfield 29, 3) := by decide +kernel
theorem dX7_init_55 : decode cX7_init 55 = .ok (.return_, 1) := by decide +kernel
theorem dX7_staveAt_0 : decode cX7_staveAt 0 = .ok (.iload_n 1, 1) := by decide +kernel
theorem dX7_staveAt_1 : decode cX7_staveAt 1 = .ok (.ifCond .lt 20, 3) := by decide +kernel
theorem dX7_staveAt_4 : decode cX7_staveAt 4 = .ok (.iload_n 1, 1) := by decide +kernel
theorem dX7_staveAt_5 : decode cX7_staveAt 5 = .ok (.aload_n 0, 1) := by decide +kernel
theorem dX7_staveAt_6 : decode cX7_staveAt 6 = .ok (.getfield 33, 3) := by decide +kernel
theorem dX7_staveAt_9 : decode cX7_staveAt 9 = .ok (.if_icmp .ge 12, 3) := by decide +kernel
theorem dX7_staveAt_12 : decode cX7_staveAt 12 = .ok (.aload_n 0, 1) := by decide +kernel
theorem dX7_staveAt_13 : decode cX7_staveAt 13 = .ok (.getfield 11, 3) := by decide +kernel
theorem dX7_staveAt_16 : decode cX7_staveAt 16 = .ok (.iload_n 1, 1) := by decide +kernel
theorem dX7_staveAt_17 : decode cX7_staveAt 17 = .ok (.aaload, 1) := by decide +kernel
theorem dX7_staveAt_18 : decode cX7_staveAt 18 = .ok (.goto 4, 3) := by decide +kernel
theorem dX7_staveAt_21 : decode cX7_staveAt 21 = .ok (.aconst_null, 1) := by decide +kernel
theorem dX7_staveAt_22 : decode cX7_staveAt 22 = .ok (.areturn, 1) := by decide +kernel
theorem dX7_hoopAt_0 : decode cX7_hoopAt 0 = .ok (.iload_n 1, 1) := by decide +kernel
theorem dX7_hoopAt_1 : decode cX7_hoopAt 1 = .ok (.ifCond .lt 20, 3) := by decide +kernel
theorem dX7_hoopAt_4 : decode cX7_hoopAt 4 = .ok (.iload_n 1, 1) := by decide +kernel
theorem dX7_hoopAt_5 : decode cX7_hoopAt 5 = .ok (.aload_n 0, 1) := by decide +kernel
theorem dX7_hoopAt_6 : decode cX7_hoopAt 6 = .ok (.getfield 37, 3) := by decide +kernel
theorem dX7_hoopAt_9 : decode cX7_hoopAt 9 = .ok (.if_icmp .ge 12, 3) := by decide +kernel
theorem dX7_hoopAt_12 : decode cX7_hoopAt 12 = .ok (.aload_n 0, 1) := by decide +kernel
theorem dX7_hoopAt_13 : decode cX7_hoopAt 13 = .ok (.getfield 19, 3) := by decide +kernel
theorem dX7_hoopAt_16 : decode cX7_hoopAt 16 = .ok (.iload_n 1, 1) := by decide +kernel
theorem dX7_hoopAt_17 : decode cX7_hoopAt 17 = .ok (.aaload, 1) := by decide +kernel
theorem dX7_hoopAt_18 : decode cX7_hoopAt 18 = .ok (.goto 4, 3) := by decide +kernel
theorem dX7_hoopAt_21 : decode cX7_hoopAt 21 = .ok (.aconst_null, 1) := by decide +kernel
theorem dX7_hoopAt_22 : decode cX7_hoopAt 22 = .ok (.areturn, 1) := by decide +kernel
theorem dX7_boardAt_0 : decode cX7_boardAt 0 = .ok (.iload_n 1, 1) := by decide +kernel
theorem dX7_boardAt_1 : decode cX7_boardAt 1 = .ok (.ifCond .lt 20, 3) := by decide +kernel
theorem dX7_boardAt_4 : decode cX7_boardAt 4 = .ok (.iload_n 1, 1) := by decide +kernel
theorem dX7_boardAt_5 : decode cX7_boardAt 5 = .ok (.aload_n 0, 1) := by decide +kernel
theorem dX7_boardAt_6 : decode cX7_boardAt 6 = .ok (.getfield 40, 3) := by decide +kernel
theorem dX7_boardAt_9 : decode cX7_boardAt 9 = .ok (.if_icmp .ge 12, 3) := by decide +kernel
theorem dX7_boardAt_12 : decode cX7_boardAt 12 = .ok (.aload_n 0, 1) := by decide +kernel
theorem dX7_boardAt_13 : decode cX7_boardAt 13 = .ok (.getfield 25, 3) := by decide +kernel
theorem dX7_boardAt_16 : decode cX7_boardAt 16 = .ok (.iload_n 1, 1) := by decide +kernel
theorem dX7_boardAt_17 : decode cX7_boardAt 17 = .ok (.aaload, 1) := by decide +kernel
theorem dX7_boardAt_18 : decode cX7_boardAt 18 = .ok (.goto 4, 3) := by decide +kernel
theorem dX7_boardAt_21 : decode cX7_boardAt 21 = .ok (.aconst_null, 1) := by decide +kernel
theorem dX7_boardAt_22 : decode cX7_boardAt 22 = .ok (.areturn, 1) := by decide +kernel
theorem dX7_thingAt_0 : decode cX7_thingAt 0 = .ok (.iload_n 1, 1) := by decide +kernel
theorem dX7_thingAt_1 : decode cX7_thingAt 1 = .ok (.lookupswitch 39 #[(0, 27), (1, 33)], 27) := by decide +kernel
theorem dX7_thingAt_28 : decode cX7_thingAt 28 = .ok (.aload_n 0, 1) := by decide +kernel
theorem dX7_thingAt_29 : decode cX7_thingAt 29 = .ok (.iload_n 2, 1) := by decide +kernel
theorem dX7_thingAt_30 : decode cX7_thingAt 30 = .ok (.invokevirtual 43, 3) := by decide +kernel
theorem dX7_thingAt_33 : decode cX7_thingAt 33 = .ok (.areturn, 1) := by decide +kernel
theorem dX7_thingAt_34 : decode cX7_thingAt 34 = .ok (.aload_n 0, 1) := by decide +kernel
theorem dX7_thingAt_35 : decode cX7_thingAt 35 = .ok (.iload_n 2, 1) := by decide +kernel
theorem dX7_thingAt_36 : decode cX7_thingAt 36 = .ok (.invokevirtual 47, 3) := by decide +kernel
theorem dX7_thingAt_39 : decode cX7_thingAt 39 = .ok (.areturn, 1) := by decide +kernel
theorem dX7_thingAt_40 : decode cX7_thingAt 40 = .ok (.aload_n 0, 1) := by decide +kernel
theorem dX7_thingAt_41 : decode cX7_thingAt 41 = .ok (.iload_n 2, 1) := by decide +kernel
theorem dX7_thingAt_42 : decode cX7_thingAt 42 = .ok (.invokevirtual 51, 3) := by decide +kernel
theorem dX7_thingAt_45 : decode cX7_thingAt 45 = .ok (.areturn, 1) := by decide +kernel
theorem dX7_addStave_0 : decode cX7_addStave 0 = .ok (.aload_n 0, 1) := by decide +kernel
theorem dX7_addStave_1 : decode cX7_addStave 1 = .ok (.getfield 33, 3) := by decide +kernel
theorem dX7_addStave_4 : decode cX7_addStave 4 = .ok (.bipush 9, 2) := by decide +kernel
theorem dX7_addStave_6 : decode cX7_addStave 6 = .ok (.if_icmp .lt 6, 3) := by decide +kernel
theorem dX7_addStave_9 : decode cX7_addStave 9 = .ok (.bipush (-4), 2) := by decide +kernel
theorem dX7_addStave_11 : decode cX7_addStave 11 = .ok (.ireturn, 1) := by decide +kernel
theorem dX7_addStave_12 : decode cX7_addStave 12 = .ok (.aload_n 0, 1) := by decide +kernel
theorem dX7_addStave_13 : decode cX7_addStave 13 = .ok (.getfield 11, 3) := by decide +kernel
theorem dX7_addStave_16 : decode cX7_addStave 16 = .ok (.aload_n 0, 1) := by decide +kernel
theorem dX7_addStave_17 : decode cX7_addStave 17 = .ok (.getfield 33, 3) := by decide +kernel
theorem dX7_addStave_20 : decode cX7_addStave 20 = .ok (.aload_n 1, 1) := by decide +kernel
theorem dX7_addStave_21 : decode cX7_addStave 21 = .ok (.aastore, 1) := by decide +kernel
theorem dX7_addStave_22 : decode cX7_addStave 22 = .ok (.aload_n 0, 1) := by decide +kernel
theorem dX7_addStave_23 : decode cX7_addStave 23 = .ok (.dup, 1) := by decide +kernel
theorem dX7_addStave_24 : decode cX7_addStave 24 = .ok (.getfield 33, 3) := by decide +kernel
theorem dX7_addStave_27 : decode cX7_addStave 27 = .ok (.dup_x1, 1) := by decide +kernel
theorem dX7_addStave_28 : decode cX7_addStave 28 = .ok (.iconst 1, 1) := by decide +kernel
theorem dX7_addStave_29 : decode cX7_addStave 29 = .ok (.iadd, 1) := by decide +kernel
theorem dX7_addStave_30 : decode cX7_addStave 30 = .ok (.putfield 33, 3) := by decide +kernel
theorem dX7_addStave_33 : decode cX7_addStave 33 = .ok (.ireturn, 1) := by decide +kernel
theorem dX7_addHoop_0 : decode cX7_addHoop 0 = .ok (.aload_n 0, 1) := by decide +kernel
theorem dX7_addHoop_1 : decode cX7_addHoop 1 = .ok (.getfield 37, 3) := by decide +kernel
theorem dX7_addHoop_4 : decode cX7_addHoop 4 = .ok (.bipush 6, 2) := by decide +kernel
theorem dX7_addHoop_6 : decode cX7_addHoop 6 = .ok (.if_icmp .lt 6, 3) := by decide +kernel
theorem dX7_addHoop_9 : decode cX7_addHoop 9 = .ok (.bipush (-4), 2) := by decide +kernel
theorem dX7_addHoop_11 : decode cX7_addHoop 11 = .ok (.ireturn, 1) := by decide +kernel
theorem dX7_addHoop_12 : decode cX7_addHoop 12 = .ok (.aload_n 0, 1) := by decide +kernel
theorem dX7_addHoop_13 : decode cX7_addHoop 13 = .ok (.getfield 19, 3) := by decide +kernel
theorem dX7_addHoop_16 : decode cX7_addHoop 16 = .ok (.aload_n 0, 1) := by decide +kernel
theorem dX7_addHoop_17 : decode cX7_addHoop 17 = .ok (.getfield 37, 3) := by decide +kernel
theorem dX7_addHoop_20 : decode cX7_addHoop 20 = .ok (.aload_n 1, 1) := by decide +kernel
theorem dX7_addHoop_21 : decode cX7_addHoop 21 = .ok (.aastore, 1) := by decide +kernel
theorem dX7_addHoop_22 : decode cX7_addHoop 22 = .ok (.aload_n 0, 1) := by decide +kernel
theorem dX7_addHoop_23 : decode cX7_addHoop 23 = .ok (.dup, 1) := by decide +kernel
theorem dX7_addHoop_24 : decode cX7_addHoop 24 = .ok (.getfield 37, 3) := by decide +kernel
theorem dX7_addHoop_27 : decode cX7_addHoop 27 = .ok (.dup_x1, 1) := by decide +kernel
theorem dX7_addHoop_28 : decode cX7_addHoop 28 = .ok (.iconst 1, 1) := by decide +kernel
theorem dX7_addHoop_29 : decode cX7_addHoop 29 = .ok (.iadd, 1) := by decide +kernel
theorem dX7_addHoop_30 : decode cX7_addHoop 30 = .ok (.putfield 37, 3) := by decide +kernel
theorem dX7_addHoop_33 : decode cX7_addHoop 33 = .ok (.ireturn, 1) := by decide +kernel
theorem dX7_addBoard_0 : decode cX7_addBoard 0 = .ok (.aload_n 0, 1) := by decide +kernel
theorem dX7_addBoard_1 : decode cX7_addBoard 1 = .ok (.getfield 40, 3) := by decide +kernel
theorem dX7_addBoard_4 : decode cX7_addBoard 4 = .ok (.bipush 7, 2) := by decide +kernel
theorem dX7_addBoard_6 : decode cX7_addBoard 6 = .ok (.if_icmp .lt 6, 3) := by decide +kernel
theorem dX7_addBoard_9 : decode cX7_addBoard 9 = .ok (.bipush (-4), 2) := by decide +kernel
theorem dX7_addBoard_11 : decode cX7_addBoard 11 = .ok (.ireturn, 1) := by decide +kernel
theorem dX7_addBoard_12 : decode cX7_addBoard 12 = .ok (.aload_n 0, 1) := by decide +kernel
theorem dX7_addBoard_13 : decode cX7_addBoard 13 = .ok (.getfield 25, 3) := by decide +kernel
theorem dX7_addBoard_16 : decode cX7_addBoard 16 = .ok (.aload_n 0, 1) := by decide +kernel
theorem dX7_addBoard_17 : decode cX7_addBoard 17 = .ok (.getfield 40, 3) := by decide +kernel
theorem dX7_addBoard_20 : decode cX7_addBoard 20 = .ok (.aload_n 1, 1) := by decide +kernel
theorem dX7_addBoard_21 : decode cX7_addBoard 21 = .ok (.aastore, 1) := by decide +kernel
theorem dX7_addBoard_22 : decode cX7_addBoard 22 = .ok (.aload_n 0, 1) := by decide +kernel
theorem dX7_addBoard_23 : decode cX7_addBoard 23 = .ok (.dup, 1) := by decide +kernel
theorem dX7_addBoard_24 : decode cX7_addBoard 24 = .ok (.getfield 40, 3) := by decide +kernel
theorem dX7_addBoard_27 : decode cX7_addBoard 27 = .ok (.dup_x1, 1) := by decide +kernel
theorem dX7_addBoard_28 : decode cX7_addBoard 28 = .ok (.iconst 1, 1) := by decide +kernel
theorem dX7_addBoard_29 : decode cX7_addBoard 29 = .ok (.iadd, 1) := by decide +kernel
theorem dX7_addBoard_30 : decode cX7_addBoard 30 = .ok (.putfield 40, 3) := by decide +kernel
theorem dX7_addBoard_33 : decode cX7_addBoard 33 = .ok (.ireturn, 1) := by decide +kernel
theorem dX7_dropStave_0 : decode cX7_dropStave 0 = .ok (.aload_n 0, 1) := by decide +kernel
theorem dX7_dropStave_1 : decode cX7_dropStave 1 = .ok (.getfield 33, 3) := by decide +kernel
theorem dX7_dropStave_4 : decode cX7_dropStave 4 = .ok (.ifCond .le 17, 3) := by decide +kernel
theorem dX7_dropStave_7 : decode cX7_dropStave 7 = .ok (.aload_n 0, 1) := by decide +kernel
theorem dX7_dropStave_8 : decode cX7_dropStave 8 = .ok (.dup, 1) := by decide +kernel
theorem dX7_dropStave_9 : decode cX7_dropStave 9 = .ok (.getfield 33, 3) := by decide +kernel
theorem dX7_dropStave_12 : decode cX7_dropStave 12 = .ok (.iconst 1, 1) := by decide +kernel
theorem dX7_dropStave_13 : decode cX7_dropStave 13 = .ok (.isub, 1) := by decide +kernel
theorem dX7_dropStave_14 : decode cX7_dropStave 14 = .ok (.dup_x1, 1) := by decide +kernel
theorem dX7_dropStave_15 : decode cX7_dropStave 15 = .ok (.putfield 33, 3) := by decide +kernel
theorem dX7_dropStave_18 : decode cX7_dropStave 18 = .ok (.goto 5, 3) := by decide +kernel
theorem dX7_dropStave_21 : decode cX7_dropStave 21 = .ok (.bipush (-3), 2) := by decide +kernel
theorem dX7_dropStave_23 : decode cX7_dropStave 23 = .ok (.ireturn, 1) := by decide +kernel
theorem dX7_dropHoop_0 : decode cX7_dropHoop 0 = .ok (.aload_n 0, 1) := by decide +kernel
theorem dX7_dropHoop_1 : decode cX7_dropHoop 1 = .ok (.getfield 37, 3) := by decide +kernel
theorem dX7_dropHoop_4 : decode cX7_dropHoop 4 = .ok (.ifCond .le 17, 3) := by decide +kernel
theorem dX7_dropHoop_7 : decode cX7_dropHoop 7 = .ok (.aload_n 0, 1) := by decide +kernel
theorem dX7_dropHoop_8 : decode cX7_dropHoop 8 = .ok (.dup, 1) := by decide +kernel
theorem dX7_dropHoop_9 : decode cX7_dropHoop 9 = .ok (.getfield 37, 3) := by decide +kernel
theorem dX7_dropHoop_12 : decode cX7_dropHoop 12 = .ok (.iconst 1, 1) := by decide +kernel
theorem dX7_dropHoop_13 : decode cX7_dropHoop 13 = .ok (.isub, 1) := by decide +kernel
theorem dX7_dropHoop_14 : decode cX7_dropHoop 14 = .ok (.dup_x1, 1) := by decide +kernel
theorem dX7_dropHoop_15 : decode cX7_dropHoop 15 = .ok (.putfield 37, 3) := by decide +kernel
theorem dX7_dropHoop_18 : decode cX7_dropHoop 18 = .ok (.goto 5, 3) := by decide +kernel
theorem dX7_dropHoop_21 : decode cX7_dropHoop 21 = .ok (.bipush (-3), 2) := by decide +kernel
theorem dX7_dropHoop_23 : decode cX7_dropHoop 23 = .ok (.ireturn, 1) := by decide +kernel
theorem dX7_dropBoard_0 : decode cX7_dropBoard 0 = .ok (.aload_n 0, 1) := by decide +kernel
theorem dX7_dropBoard_1 : decode cX7_dropBoard 1 = .ok (.getfield 40, 3) := by decide +kernel
theorem dX7_dropBoard_4 : decode cX7_dropBoard 4 = .ok (.ifCond .le 17, 3) := by decide +kernel
theorem dX7_dropBoard_7 : decode cX7_dropBoard 7 = .ok (.aload_n 0, 1) := by decide +kernel
theorem dX7_dropBoard_8 : decode cX7_dropBoard 8 = .ok (.dup, 1) := by decide +kernel
theorem dX7_dropBoard_9 : decode cX7_dropBoard 9 = .ok (.getfield 40, 3) := by decide +kernel
theorem dX7_dropBoard_12 : decode cX7_dropBoard 12 = .ok (.iconst 1, 1) := by decide +kernel
theorem dX7_dropBoard_13 : decode cX7_dropBoard 13 = .ok (.isub, 1) := by decide +kernel
theorem dX7_dropBoard_14 : decode cX7_dropBoard 14 = .ok (.dup_x1, 1) := by decide +kernel
theorem dX7_dropBoard_15 : decode cX7_dropBoard 15 = .ok (.putfield 40, 3) := by decide +kernel
theorem dX7_dropBoard_18 : decode cX7_dropBoard 18 = .ok (.goto 5, 3) := by decide +kernel
theorem dX7_dropBoard_21 : decode cX7_dropBoard 21 = .ok (.bipush (-3), 2) := by decide +kernel
theorem dX7_dropBoard_23 : decode cX7_dropBoard 23 = .ok (.ireturn, 1) := by decide +kernel
theorem dX7_becomeLike_0 : decode cX7_becomeLike 0 = .ok (.aload_n 0, 1) := by decide +kernel
theorem dX7_becomeLike_1 : decode cX7_becomeLike 1 = .ok (.aload_n 1, 1) := by decide +kernel
theorem dX7_becomeLike_2 : decode cX7_becomeLike 2 = .ok (.getfield 33, 3) := by decide +kernel
theorem dX7_becomeLike_5 : decode cX7_becomeLike 5 = .ok (.putfield 33, 3) := by decide +kernel
theorem dX7_becomeLike_8 : decode cX7_becomeLike 8 = .ok (.iconst 0, 1) := by decide +kernel
theorem dX7_becomeLike_9 : decode cX7_becomeLike 9 = .ok (.istore_n 2, 1) := by decide +kernel
theorem dX7_becomeLike_10 : decode cX7_becomeLike 10 = .ok (.iload_n 2, 1) := by decide +kernel
theorem dX7_becomeLike_11 : decode cX7_becomeLike 11 = .ok (.aload_n 0, 1) := by decide +kernel
theorem dX7_becomeLike_12 : decode cX7_becomeLike 12 = .ok (.getfield 33, 3) := by decide +kernel
theorem dX7_becomeLike_15 : decode cX7_becomeLike 15 = .ok (.if_icmp .ge 33, 3) := by decide +kernel
theorem dX7_becomeLike_18 : decode cX7_becomeLike 18 = .ok (.aload_n 1, 1) := by decide +kernel
theorem dX7_becomeLike_19 : decode cX7_becomeLike 19 = .ok (.iload_n 2, 1) := by decide +kernel
theorem dX7_becomeLike_20 : decode cX7_becomeLike 20 = .ok (.invokevirtual 43, 3) := by decide +kernel
theorem dX7_becomeLike_23 : decode cX7_becomeLike 23 = .ok (.astore_n 3, 1) := by decide +kernel
theorem dX7_becomeLike_24 : decode cX7_becomeLike 24 = .ok (.aload_n 0, 1) := by decide +kernel
theorem dX7_becomeLike_25 : decode cX7_becomeLike 25 = .ok (.getfield 11, 3) := by decide +kernel
theorem dX7_becomeLike_28 : decode cX7_becomeLike 28 = .ok (.iload_n 2, 1) := by decide +kernel
theorem dX7_becomeLike_29 : decode cX7_becomeLike 29 = .ok (.aload_n 3, 1) := by decide +kernel
theorem dX7_becomeLike_30 : decode cX7_becomeLike 30 = .ok (.ifnonnull 7, 3) := by decide +kernel
theorem dX7_becomeLike_33 : decode cX7_becomeLike 33 = .ok (.aconst_null, 1) := by decide +kernel
theorem dX7_becomeLike_34 : decode cX7_becomeLike 34 = .ok (.goto 7, 3) := by decide +kernel
theorem dX7_becomeLike_37 : decode cX7_becomeLike 37 = .ok (.aload_n 3, 1) := by decide +kernel
theorem dX7_becomeLike_38 : decode cX7_becomeLike 38 = .ok (.invokevirtual 55, 3) := by decide +kernel
theorem dX7_becomeLike_41 : decode cX7_becomeLike 41 = .ok (.aastore, 1) := by decide +kernel
theorem dX7_becomeLike_42 : decode cX7_becomeLike 42 = .ok (.iinc 2 1, 3) := by decide +kernel
theorem dX7_becomeLike_45 : decode cX7_becomeLike 45 = .ok (.goto (-35), 3) := by decide +kernel
theorem dX7_becomeLike_48 : decode cX7_becomeLike 48 = .ok (.aload_n 0, 1) := by decide +kernel
theorem dX7_becomeLike_49 : decode cX7_becomeLike 49 = .ok (.aload_n 1, 1) := by decide +kernel
theorem dX7_becomeLike_50 : decode cX7_becomeLike 50 = .ok (.getfield 37, 3) := by decide +kernel
theorem dX7_becomeLike_53 : decode cX7_becomeLike 53 = .ok (.putfield 37, 3) := by decide +kernel
theorem dX7_becomeLike_56 : decode cX7_becomeLike 56 = .ok (.iconst 0, 1) := by decide +kernel
theorem dX7_becomeLike_57 : decode cX7_becomeLike 57 = .ok (.istore_n 2, 1) := by decide +kernel
theorem dX7_becomeLike_58 : decode cX7_becomeLike 58 = .ok (.iload_n 2, 1) := by decide +kernel
theorem dX7_becomeLike_59 : decode cX7_becomeLike 59 = .ok (.aload_n 0, 1) := by decide +kernel
theorem dX7_becomeLike_60 : decode cX7_becomeLike 60 = .ok (.getfield 37, 3) := by decide +kernel
theorem dX7_becomeLike_63 : decode cX7_becomeLike 63 = .ok (.if_icmp .ge 21, 3) := by decide +kernel
theorem dX7_becomeLike_66 : decode cX7_becomeLike 66 = .ok (.aload_n 0, 1) := by decide +kernel
theorem dX7_becomeLike_67 : decode cX7_becomeLike 67 = .ok (.getfield 19, 3) := by decide +kernel
theorem dX7_becomeLike_70 : decode cX7_becomeLike 70 = .ok (.iload_n 2, 1) := by decide +kernel
theorem dX7_becomeLike_71 : decode cX7_becomeLike 71 = .ok (.aload_n 1, 1) := by decide +kernel
theorem dX7_becomeLike_72 : decode cX7_becomeLike 72 = .ok (.getfield 19, 3) := by decide +kernel
theorem dX7_becomeLike_75 : decode cX7_becomeLike 75 = .ok (.iload_n 2, 1) := by decide +kernel
theorem dX7_becomeLike_76 : decode cX7_becomeLike 76 = .ok (.aaload, 1) := by decide +kernel
theorem dX7_becomeLike_77 : decode cX7_becomeLike 77 = .ok (.aastore, 1) := by decide +kernel
theorem dX7_becomeLike_78 : decode cX7_becomeLike 78 = .ok (.iinc 2 1, 3) := by decide +kernel
theorem dX7_becomeLike_81 : decode cX7_becomeLike 81 = .ok (.goto (-23), 3) := by decide +kernel
theorem dX7_becomeLike_84 : decode cX7_becomeLike 84 = .ok (.aload_n 0, 1) := by decide +kernel
theorem dX7_becomeLike_85 : decode cX7_becomeLike 85 = .ok (.aload_n 1, 1) := by decide +kernel
theorem dX7_becomeLike_86 : decode cX7_becomeLike 86 = .ok (.getfield 40, 3) := by decide +kernel
theorem dX7_becomeLike_89 : decode cX7_becomeLike 89 = .ok (.putfield 40, 3) := by decide +kernel
theorem dX7_becomeLike_92 : decode cX7_becomeLike 92 = .ok (.iconst 0, 1) := by decide +kernel
theorem dX7_becomeLike_93 : decode cX7_becomeLike 93 = .ok (.istore_n 2, 1) := by decide +kernel
theorem dX7_becomeLike_94 : decode cX7_becomeLike 94 = .ok (.iload_n 2, 1) := by decide +kernel
theorem dX7_becomeLike_95 : decode cX7_becomeLike 95 = .ok (.aload_n 0, 1) := by decide +kernel
theorem dX7_becomeLike_96 : decode cX7_becomeLike 96 = .ok (.getfield 40, 3) := by decide +kernel
theorem dX7_becomeLike_99 : decode cX7_becomeLike 99 = .ok (.if_icmp .ge 21, 3) := by decide +kernel
theorem dX7_becomeLike_102 : decode cX7_becomeLike 102 = .ok (.aload_n 0, 1) := by decide +kernel
theorem dX7_becomeLike_103 : decode cX7_becomeLike 103 = .ok (.getfield 25, 3) := by decide +kernel
theorem dX7_becomeLike_106 : decode cX7_becomeLike 106 = .ok (.iload_n 2, 1) := by decide +kernel
theorem dX7_becomeLike_107 : decode cX7_becomeLike 107 = .ok (.aload_n 1, 1) := by decide +kernel
theorem dX7_becomeLike_108 : decode cX7_becomeLike 108 = .ok (.getfield 25, 3) := by decide +kernel
theorem dX7_becomeLike_111 : decode cX7_becomeLike 111 = .ok (.iload_n 2, 1) := by decide +kernel
theorem dX7_becomeLike_112 : decode cX7_becomeLike 112 = .ok (.aaload, 1) := by decide +kernel
theorem dX7_becomeLike_113 : decode cX7_becomeLike 113 = .ok (.aastore, 1) := by decide +kernel
theorem dX7_becomeLike_114 : decode cX7_becomeLike 114 = .ok (.iinc 2 1, 3) := by decide +kernel
theorem dX7_becomeLike_117 : decode cX7_becomeLike 117 = .ok (.goto (-23), 3) := by decide +kernel
theorem dX7_becomeLike_120 : decode cX7_becomeLike 120 = .ok (.iconst 0, 1) := by decide +kernel
theorem dX7_becomeLike_121 : decode cX7_becomeLike 121 = .ok (.istore_n 2, 1) := by decide +kernel
theorem dX7_becomeLike_122 : decode cX7_becomeLike 122 = .ok (.iload_n 2, 1) := by decide +kernel
theorem dX7_becomeLike_123 : decode cX7_becomeLike 123 = .ok (.iconst 4, 1) := by decide +kernel
theorem dX7_becomeLike_124 : decode cX7_becomeLike 124 = .ok (.if_icmp .ge 21, 3) := by decide +kernel
theorem dX7_becomeLike_127 : decode cX7_becomeLike 127 = .ok (.aload_n 0, 1) := by decide +kernel
theorem dX7_becomeLike_128 : decode cX7_becomeLike 128 = .ok (.getfield 29, 3) := by decide +kernel
theorem dX7_becomeLike_131 : decode cX7_becomeLike 131 = .ok (.iload_n 2, 1) := by decide +kernel
theorem dX7_becomeLike_132 : decode cX7_becomeLike 132 = .ok (.aload_n 1, 1) := by decide +kernel
theorem dX7_becomeLike_133 : decode cX7_becomeLike 133 = .ok (.getfield 29, 3) := by decide +kernel
theorem dX7_becomeLike_136 : decode cX7_becomeLike 136 = .ok (.iload_n 2, 1) := by decide +kernel
theorem dX7_becomeLike_137 : decode cX7_becomeLike 137 = .ok (.iaload, 1) := by decide +kernel
theorem dX7_becomeLike_138 : decode cX7_becomeLike 138 = .ok (.iastore, 1) := by decide +kernel
theorem dX7_becomeLike_139 : decode cX7_becomeLike 139 = .ok (.iinc 2 1, 3) := by decide +kernel
theorem dX7_becomeLike_142 : decode cX7_becomeLike 142 = .ok (.goto (-20), 3) := by decide +kernel
theorem dX7_becomeLike_145 : decode cX7_becomeLike 145 = .ok (.return_, 1) := by decide +kernel
theorem dX8_init_0 : decode cX8_init 0 = .ok (.aload_n 0, 1) := by decide +kernel
theorem dX8_init_1 : decode cX8_init 1 = .ok (.invokespecial 3, 3) := by decide +kernel
theorem dX8_init_4 : decode cX8_init 4 = .ok (.aload_n 0, 1) := by decide +kernel
theorem dX8_init_5 : decode cX8_init 5 = .ok (.bipush 80, 2) := by decide +kernel
theorem dX8_init_7 : decode cX8_init 7 = .ok (.newarray .byte, 2) := by decide +kernel
theorem dX8_init_9 : decode cX8_init 9 = .ok (.putfield 9, 3) := by decide +kernel
theorem dX8_init_12 : decode cX8_init 12 = .ok (.aload_n 0, 1) := by decide +kernel
theorem dX8_init_13 : decode cX8_init 13 = .ok (.bipush 27, 2) := by decide +kernel
theorem dX8_init_15 : decode cX8_init 15 = .ok (.newarray .int, 2) := by decide +kernel
theorem dX8_init_17 : decode cX8_init 17 = .ok (.putfield 15, 3) := by decide +kernel
theorem dX8_init_20 : decode cX8_init 20 = .ok (.aload_n 0, 1) := by decide +kernel
theorem dX8_init_21 : decode cX8_init 21 = .ok (.bipush 27, 2) := by decide +kernel
theorem dX8_init_23 : decode cX8_init 23 = .ok (.newarray .int, 2) := by decide +kernel
theorem dX8_init_25 : decode cX8_init 25 = .ok (.putfield 19, 3) := by decide +kernel
theorem dX8_init_28 : decode cX8_init 28 = .ok (.aload_n 0, 1) := by decide +kernel
theorem dX8_init_29 : decode cX8_init 29 = .ok (.bipush 27, 2) := by decide +kernel
theorem dX8_init_31 : decode cX8_init 31 = .ok (.iconst 4, 1) := by decide +kernel
theorem dX8_init_32 : decode cX8_init 32 = .ok (.multianewarray 22 2, 4) := by decide +kernel
theorem dX8_init_36 : decode cX8_init 36 = .ok (.putfield 24, 3) := by decide +kernel
theorem dX8_init_39 : decode cX8_init 39 = .ok (.return_, 1) := by decide +kernel
theorem dX8_append_0 : decode cX8_append 0 = .ok (.aload_n 0, 1) := by decide +kernel
theorem dX8_append_1 : decode cX8_append 1 = .ok (.getfield 27, 3) := by decide +kernel
theorem dX8_append_4 : decode cX8_append 4 = .ok (.bipush 80, 2) := by decide +kernel
theorem dX8_append_6 : decode cX8_append 6 = .ok (.if_icmp .lt 6, 3) := by decide +kernel
theorem dX8_append_9 : decode cX8_append 9 = .ok (.bipush (-4), 2) := by decide +kernel
theorem dX8_append_11 : decode cX8_append 11 = .ok (.ireturn, 1) := by decide +kernel
theorem dX8_append_12 : decode cX8_append 12 = .ok (.aload_n 0, 1) := by decide +kernel
theorem dX8_append_13 : decode cX8_append 13 = .ok (.getfield 9, 3) := by decide +kernel
theorem dX8_append_16 : decode cX8_append 16 = .ok (.aload_n 0, 1) := by decide +kernel
theorem dX8_append_17 : decode cX8_append 17 = .ok (.getfield 27, 3) := by decide +kernel
theorem dX8_append_20 : decode cX8_append 20 = .ok (.iload_n 1, 1) := by decide +kernel
theorem dX8_append_21 : decode cX8_append 21 = .ok (.bastore, 1) := by decide +kernel
theorem dX8_append_22 : decode cX8_append 22 = .ok (.aload_n 0, 1) := by decide +kernel
theorem dX8_append_23 : decode cX8_append 23 = .ok (.dup, 1) := by decide +kernel
theorem dX8_append_24 : decode cX8_append 24 = .ok (.getfield 27, 3) := by decide +kernel
theorem dX8_append_27 : decode cX8_append 27 = .ok (.iconst 1, 1) := by decide +kernel
theorem dX8_append_28 : decode cX8_append 28 = .ok (.iadd, 1) := by decide +kernel
theorem dX8_append_29 : decode cX8_append 29 = .ok (.putfield 27, 3) := by decide +kernel
theorem dX8_append_32 : decode cX8_append 32 = .ok (.aload_n 0, 1) := by decide +kernel
theorem dX8_append_33 : decode cX8_append 33 = .ok (.getfield 27, 3) := by decide +kernel
theorem dX8_append_36 : decode cX8_append 36 = .ok (.ireturn, 1) := by decide +kernel
theorem dX8_parse_0 : decode cX8_parse 0 = .ok (.aload_n 0, 1) := by decide +kernel
theorem dX8_parse_1 : decode cX8_parse 1 = .ok (.iconst 0, 1) := by decide +kernel
theorem dX8_parse_2 : decode cX8_parse 2 = .ok (.putfield 31, 3) := by decide +kernel
theorem dX8_parse_5 : decode cX8_parse 5 = .ok (.aload_n 0, 1) := by decide +kernel
theorem dX8_parse_6 : decode cX8_parse 6 = .ok (.iconst 0, 1) := by decide +kernel
theorem dX8_parse_7 : decode cX8_parse 7 = .ok (.putfield 34, 3) := by decide +kernel
theorem dX8_parse_10 : decode cX8_parse 10 = .ok (.iconst 0, 1) := by decide +kernel
theorem dX8_parse_11 : decode cX8_parse 11 = .ok (.istore_n 1, 1) := by decide +kernel
theorem dX8_parse_12 : decode cX8_parse 12 = .ok (.iload_n 1, 1) := by decide +kernel
theorem dX8_parse_13 : decode cX8_parse 13 = .ok (.bipush 27, 2) := by decide +kernel
theorem dX8_parse_15 : decode cX8_parse 15 = .ok (.if_icmp .ge 50, 3) := by decide +kernel
theorem dX8_parse_18 : decode cX8_parse 18 = .ok (.aload_n 0, 1) := by decide +kernel
theorem dX8_parse_19 : decode cX8_parse 19 = .ok (.iload_n 1, 1) := by decide +kernel
theorem dX8_parse_20 : decode cX8_parse 20 = .ok (.invokevirtual 37, 3) := by decide +kernel
theorem dX8_parse_23 : decode cX8_parse 23 = .ok (.ifCond .ne 5, 3) := by decide +kernel
theorem dX8_parse_26 : decode cX8_parse 26 = .ok (.iconst 0, 1) := by decide +kernel
theorem dX8_parse_27 : decode cX8_parse 27 = .ok (.ireturn, 1) := by decide +kernel
theorem dX8_parse_28 : decode cX8_parse 28 = .ok (.aload_n 0, 1) := by decide +kernel
theorem dX8_parse_29 : decode cX8_parse 29 = .ok (.iload_n 1, 1) := by decide +kernel
theorem dX8_parse_30 : decode cX8_parse 30 = .ok (.iconst 1, 1) := by decide +kernel
theorem dX8_parse_31 : decode cX8_parse 31 = .ok (.iadd, 1) := by decide +kernel
theorem dX8_parse_32 : decode cX8_parse 32 = .ok (.putfield 34, 3) := by decide +kernel
theorem dX8_parse_35 : decode cX8_parse 35 = .ok (.aload_n 0, 1) := by decide +kernel
theorem dX8_parse_36 : decode cX8_parse 36 = .ok (.getfield 31, 3) := by decide +kernel
theorem dX8_parse_39 : decode cX8_parse 39 = .ok (.aload_n 0, 1) := by decide +kernel
theorem dX8_parse_40 : decode cX8_parse 40 = .ok (.getfield 27, 3) := by decide +kernel
theorem dX8_parse_43 : decode cX8_parse 43 = .ok (.if_icmp .ne 5, 3) := by decide +kernel
theorem dX8_parse_46 : decode cX8_parse 46 = .ok (.iconst 1, 1) := by decide +kernel
theorem dX8_parse_47 : decode cX8_parse 47 = .ok (.ireturn, 1) := by decide +kernel
theorem dX8_parse_48 : decode cX8_parse 48 = .ok (.aload_n 0, 1) := by decide +kernel
theorem dX8_parse_49 : decode cX8_parse 49 = .ok (.bipush 59, 2) := by decide +kernel
theorem dX8_parse_51 : decode cX8_parse 51 = .ok (.invokevirtual 41, 3) := by decide +kernel
theorem dX8_parse_54 : decode cX8_parse 54 = .ok (.ifCond .ne 5, 3) := by decide +kernel
theorem dX8_parse_57 : decode cX8_parse 57 = .ok (.iconst 0, 1) := by decide +kernel
theorem dX8_parse_58 : decode cX8_parse 58 = .ok (.ireturn, 1) := by decide +kernel
theorem dX8_parse_59 : decode cX8_parse 59 = .ok (.iinc 1 1, 3) := by decide +kernel
theorem dX8_parse_62 : decode cX8_parse 62 = .ok (.goto (-50), 3) := by decide +kernel
theorem dX8_parse_65 : decode cX8_parse 65 = .ok (.iconst 0, 1) := by decide +kernel
theorem dX8_parse_66 : decode cX8_parse 66 = .ok (.ireturn, 1) := by decide +kernel
theorem dX8_parseStatement_0 : decode cX8_parseStatement 0 = .ok (.aload_n 0, 1) := by decide +kernel
theorem dX8_parseStatement_1 : decode cX8_parseStatement 1 = .ok (.invokevirtual 44, 3) := by decide +kernel
theorem dX8_parseStatement_4 : decode cX8_parseStatement 4 = .ok (.istore_n 2, 1) := by decide +kernel
theorem dX8_parseStatement_5 : decode cX8_parseStatement 5 = .ok (.iload_n 2, 1) := by decide +kernel
theorem dX8_parseStatement_6 : decode cX8_parseStatement 6 = .ok (.invokestatic 48, 3) := by decide +kernel
theorem dX8_parseStatement_9 : decode cX8_parseStatement 9 = .ok (.istore_n 3, 1) := by decide +kernel
theorem dX8_parseStatement_10 : decode cX8_parseStatement 10 = .ok (.iload_n 3, 1) := by decide +kernel
theorem dX8_parseStatement_11 : decode cX8_parseStatement 11 = .ok (.ifCond .ne 5, 3) := by decide +kernel
theorem dX8_parseStatement_14 : decode cX8_parseStatement 14 = .ok (.iconst 0, 1) := by decide +kernel
theorem dX8_parseStatement_15 : decode cX8_parseStatement 15 = .ok (.ireturn, 1) := by decide +kernel
theorem dX8_parseStatement_16 : decode cX8_parseStatement 16 = .ok (.aload_n 0, 1) := by decide +kernel
theorem dX8_parseStatement_17 : decode cX8_parseStatement 17 = .ok (.getfield 15, 3) := by decide +kernel
theorem dX8_parseStatement_20 : decode cX8_parseStatement 20 = .ok (.iload_n 1, 1) := by decide +kernel
theorem dX8_parseStatement_21 : decode cX8_parseStatement 21 = .ok (.iload_n 2, 1) := by decide +kernel
theorem dX8_parseStatement_22 : decode cX8_parseStatement 22 = .ok (.iastore, 1) := by decide +kernel
theorem dX8_parseStatement_23 : decode cX8_parseStatement 23 = .ok (.aload_n 0, 1) := by decide +kernel
theorem dX8_parseStatement_24 : decode cX8_parseStatement 24 = .ok (.getfield 19, 3) := by decide +kernel
theorem dX8_parseStatement_27 : decode cX8_parseStatement 27 = .ok (.iload_n 1, 1) := by decide +kernel
theorem dX8_parseStatement_28 : decode cX8_parseStatement 28 = .ok (.aload_n 0, 1) := by decide +kernel
theorem dX8_parseStatement_29 : decode cX8_parseStatement 29 = .ok (.getfield 31, 3) := by decide +kernel
theorem dX8_parseStatement_32 : decode cX8_parseStatement 32 = .ok (.iastore, 1) := by decide +kernel
theorem dX8_parseStatement_33 : decode cX8_parseStatement 33 = .ok (.aload_n 0, 1) := by decide +kernel
theorem dX8_parseStatement_34 : decode cX8_parseStatement 34 = .ok (.dup, 1) := by decide +kernel
theorem dX8_parseStatement_35 : decode cX8_parseStatement 35 = .ok (.getfield 31, 3) := by decide +kernel
theorem dX8_parseStatement_38 : decode cX8_parseStatement 38 = .ok (.iconst 1, 1) := by decide +kernel
theorem dX8_parseStatement_39 : decode cX8_parseStatement 39 = .ok (.iadd, 1) := by decide +kernel
theorem dX8_parseStatement_40 : decode cX8_parseStatement 40 = .ok (.putfield 31, 3) := by decide +kernel
theorem dX8_parseStatement_43 : decode cX8_parseStatement 43 = .ok (.iconst 0, 1) := by decide +kernel
theorem dX8_parseStatement_44 : decode cX8_parseStatement 44 = .ok (.istore 4, 2) := by decide +kernel
theorem dX8_parseStatement_46 : decode cX8_parseStatement 46 = .ok (.iload 4, 2) := by decide +kernel
theorem dX8_parseStatement_48 : decode cX8_parseStatement 48 = .ok (.iload_n 3, 1) := by decide +kernel
theorem dX8_parseStatement_49 : decode cX8_parseStatement 49 = .ok (.if_icmp .ge 35, 3) := by decide +kernel
theorem dX8_parseStatement_52 : decode cX8_parseStatement 52 = .ok (.iload 4, 2) := by decide +kernel
theorem dX8_parseStatement_54 : decode cX8_parseStatement 54 = .ok (.ifCond .le 12, 3) := by decide +kernel
theorem dX8_parseStatement_57 : decode cX8_parseStatement 57 = .ok (.aload_n 0, 1) := by decide +kernel
theorem dX8_parseStatement_58 : decode cX8_parseStatement 58 = .ok (.bipush 44, 2) := by decide +kernel
theorem dX8_parseStatement_60 : decode cX8_parseStatement 60 = .ok (.invokevirtual 41, 3) := by decide +kernel
theorem dX8_parseStatement_63 : decode cX8_parseStatement 63 = .ok (.ifCond .eq 13, 3) := by decide +kernel
theorem dX8_parseStatement_66 : decode cX8_parseStatement 66 = .ok (.aload_n 0, 1) := by decide +kernel
theorem dX8_parseStatement_67 : decode cX8_parseStatement 67 = .ok (.iload_n 1, 1) := by decide +kernel
theorem dX8_parseStatement_68 : decode cX8_parseStatement 68 = .ok (.iload 4, 2) := by decide +kernel
theorem dX8_parseStatement_70 : decode cX8_parseStatement 70 = .ok (.invokevirtual 52, 3) := by decide +kernel
theorem dX8_parseStatement_73 : decode cX8_parseStatement 73 = .ok (.ifCond .ne 5, 3) := by decide +kernel
theorem dX8_parseStatement_76 : decode cX8_parseStatement 76 = .ok (.iconst 0, 1) := by decide +kernel
theorem dX8_parseStatement_77 : decode cX8_parseStatement 77 = .ok (.ireturn, 1) := by decide +kernel
theorem dX8_parseStatement_78 : decode cX8_parseStatement 78 = .ok (.iinc 4 1, 3) := by decide +kernel
theorem dX8_parseStatement_81 : decode cX8_parseStatement 81 = .ok (.goto (-35), 3) := by decide +kernel
theorem dX8_parseStatement_84 : decode cX8_parseStatement 84 = .ok (.iconst 1, 1) := by decide +kernel
theorem dX8_parseStatement_85 : decode cX8_parseStatement 85 = .ok (.ireturn, 1) := by decide +kernel
theorem dX8_parseNumber_0 : decode cX8_parseNumber 0 = .ok (.aload_n 0, 1) := by decide +kernel
theorem dX8_parseNumber_1 : decode cX8_parseNumber 1 = .ok (.bipush 45, 2) := by decide +kernel
theorem dX8_parseNumber_3 : decode cX8_parseNumber 3 = .ok (.invokevirtual 41, 3) := by decide +kernel
theorem dX8_parseNumber_6 : decode cX8_parseNumber 6 = .ok (.istore_n 3, 1) := by decide +kernel
theorem dX8_parseNumber_7 : decode cX8_parseNumber 7 = .ok (.iconst 0, 1) := by decide +kernel
theorem dX8_parseNumber_8 : decode cX8_parseNumber 8 = .ok (.istore 4, 2) := by decide +kernel
theorem dX8_parseNumber_10 : decode cX8_parseNumber 10 = .ok (.iconst 0, 1) := by decide +kernel
theorem dX8_parseNumber_11 : decode cX8_parseNumber 11 = .ok (.istore 5, 2) := by decide +kernel
theorem dX8_parseNumber_13 : decode cX8_parseNumber 13 = .ok (.iload 5, 2) := by decide +kernel
theorem dX8_parseNumber_15 : decode cX8_parseNumber 15 = .ok (.iconst 4, 1) := by decide +kernel
theorem dX8_parseNumber_16 : decode cX8_parseNumber 16 = .ok (.if_icmp .ge 48, 3) := by decide +kernel
theorem dX8_parseNumber_19 : decode cX8_parseNumber 19 = .ok (.aload_n 0, 1) := by decide +kernel
theorem dX8_parseNumber_20 : decode cX8_parseNumber 20 = .ok (.invokevirtual 44, 3) := by decide +kernel
theorem dX8_parseNumber_23 : decode cX8_parseNumber 23 = .ok (.bipush 48, 2) := by decide +kernel
theorem dX8_parseNumber_25 : decode cX8_parseNumber 25 = .ok (.bipush 57, 2) := by decide +kernel
theorem dX8_parseNumber_27 : decode cX8_parseNumber 27 = .ok (.invokestatic 56, 3) := by decide +kernel
theorem dX8_parseNumber_30 : decode cX8_parseNumber 30 = .ok (.ifCond .eq 34, 3) := by decide +kernel
theorem dX8_parseNumber_33 : decode cX8_parseNumber 33 = .ok (.iload 4, 2) := by decide +kernel
theorem dX8_parseNumber_35 : decode cX8_parseNumber 35 = .ok (.bipush 10, 2) := by decide +kernel
theorem dX8_parseNumber_37 : decode cX8_parseNumber 37 = .ok (.imul, 1) := by decide +kernel
theorem dX8_parseNumber_38 : decode cX8_parseNumber 38 = .ok (.aload_n 0, 1) := by decide +kernel
theorem dX8_parseNumber_39 : decode cX8_parseNumber 39 = .ok (.invokevirtual 44, 3) := by decide +kernel
theorem dX8_parseNumber_42 : decode cX8_parseNumber 42 = .ok (.iadd, 1) := by decide +kernel
theorem dX8_parseNumber_43 : decode cX8_parseNumber 43 = .ok (.bipush 48, 2) := by decide +kernel
theorem dX8_parseNumber_45 : decode cX8_parseNumber 45 = .ok (.isub, 1) := by decide +kernel
theorem dX8_parseNumber_46 : decode cX8_parseNumber 46 = .ok (.istore 4, 2) := by decide +kernel
theorem dX8_parseNumber_48 : decode cX8_parseNumber 48 = .ok (.iinc 5 1, 3) := by decide +kernel
theorem dX8_parseNumber_51 : decode cX8_parseNumber 51 = .ok (.aload_n 0, 1) := by decide +kernel
theorem dX8_parseNumber_52 : decode cX8_parseNumber 52 = .ok (.dup, 1) := by decide +kernel
theorem dX8_parseNumber_53 : decode cX8_parseNumber 53 = .ok (.getfield 31, 3) := by decide +kernel
theorem dX8_parseNumber_56 : decode cX8_parseNumber 56 = .ok (.iconst 1, 1) := by decide +kernel
theorem dX8_parseNumber_57 : decode cX8_parseNumber 57 = .ok (.iadd, 1) := by decide +kernel
theorem dX8_parseNumber_58 : decode cX8_parseNumber 58 = .ok (.putfield 31, 3) := by decide +kernel
theorem dX8_parseNumber_61 : decode cX8_parseNumber 61 = .ok (.goto (-48), 3) := by decide +kernel
theorem dX8_parseNumber_64 : decode cX8_parseNumber 64 = .ok (.aload_n 0, 1) := by decide +kernel
theorem dX8_parseNumber_65 : decode cX8_parseNumber 65 = .ok (.getfield 24, 3) := by decide +kernel
theorem dX8_parseNumber_68 : decode cX8_parseNumber 68 = .ok (.iload_n 1, 1) := by decide +kernel
theorem dX8_parseNumber_69 : decode cX8_parseNumber 69 = .ok (.aaload, 1) := by decide +kernel
theorem dX8_parseNumber_70 : decode cX8_parseNumber 70 = .ok (.iload_n 2, 1) := by decide +kernel
theorem dX8_parseNumber_71 : decode cX8_parseNumber 71 = .ok (.iload_n 3, 1) := by decide +kernel
theorem dX8_parseNumber_72 : decode cX8_parseNumber 72 = .ok (.ifCond .eq 9, 3) := by decide +kernel
theorem dX8_parseNumber_75 : decode cX8_parseNumber 75 = .ok (.iload 4, 2) := by decide +kernel
theorem dX8_parseNumber_77 : decode cX8_parseNumber 77 = .ok (.ineg, 1) := by decide +kernel
theorem dX8_parseNumber_78 : decode cX8_parseNumber 78 = .ok (.goto 5, 3) := by decide +kernel
theorem dX8_parseNumber_81 : decode cX8_parseNumber 81 = .ok (.iload 4, 2) := by decide +kernel
theorem dX8_parseNumber_83 : decode cX8_parseNumber 83 = .ok (.iastore, 1) := by decide +kernel
theorem dX8_parseNumber_84 : decode cX8_parseNumber 84 = .ok (.iload 5, 2) := by decide +kernel
theorem dX8_parseNumber_86 : decode cX8_parseNumber 86 = .ok (.ifCond .le 7, 3) := by decide +kernel
theorem dX8_parseNumber_89 : decode cX8_parseNumber 89 = .ok (.iconst 1, 1) := by decide +kernel
theorem dX8_parseNumber_90 : decode cX8_parseNumber 90 = .ok (.goto 4, 3) := by decide +kernel
theorem dX8_parseNumber_93 : decode cX8_parseNumber 93 = .ok (.iconst 0, 1) := by decide +kernel
theorem dX8_parseNumber_94 : decode cX8_parseNumber 94 = .ok (.ireturn, 1) := by decide +kernel
theorem dX8_peek_0 : decode cX8_peek 0 = .ok (.aload_n 0, 1) := by decide +kernel
theorem dX8_peek_1 : decode cX8_peek 1 = .ok (.getfield 31, 3) := by decide +kernel
theorem dX8_peek_4 : decode cX8_peek 4 = .ok (.aload_n 0, 1) := by decide +kernel
theorem dX8_peek_5 : decode cX8_peek 5 = .ok (.getfield 27, 3) := by decide +kernel
theorem dX8_peek_8 : decode cX8_peek 8 = .ok (.if_icmp .ge 15, 3) := by decide +kernel
theorem dX8_peek_11 : decode cX8_peek 11 = .ok (.aload_n 0, 1) := by decide +kernel
theorem dX8_peek_12 : decode cX8_peek 12 = .ok (.getfield 9, 3) := by decide +kernel
theorem dX8_peek_15 : decode cX8_peek 15 = .ok (.aload_n 0, 1) := by decide +kernel
theorem dX8_peek_16 : decode cX8_peek 16 = .ok (.getfield 31, 3) := by decide +kernel
theorem dX8_peek_19 : decode cX8_peek 19 = .ok (.baload, 1) := by decide +kernel
theorem dX8_peek_20 : decode cX8_peek 20 = .ok (.goto 4, 3) := by decide +kernel
theorem dX8_peek_23 : decode cX8_peek 23 = .ok (.iconst (-1), 1) := by decide +kernel
theorem dX8_peek_24 : decode cX8_peek 24 = .ok (.ireturn, 1) := by decide +kernel
theorem dX8_pass_0 : decode cX8_pass 0 = .ok (.aload_n 0, 1) := by decide +kernel
theorem dX8_pass_1 : decode cX8_pass 1 = .ok (.invokevirtual 44, 3) := by decide +kernel
theorem dX8_pass_4 : decode cX8_pass 4 = .ok (.iload_n 1, 1) := by decide +kernel
theorem dX8_pass_5 : decode cX8_pass 5 = .ok (.if_icmp .eq 5, 3) := by decide +kernel
theorem dX8_pass_8 : decode cX8_pass 8 = .ok (.iconst 0, 1) := by decide +kernel
theorem dX8_pass_9 : decode cX8_pass 9 = .ok (.ireturn, 1) := by decide +kernel
theorem dX8_pass_10 : decode cX8_pass 10 = .ok (.aload_n 0, 1) := by decide +kernel
theorem dX8_pass_11 : decode cX8_pass 11 = .ok (.dup, 1) := by decide +kernel
theorem dX8_pass_12 : decode cX8_pass 12 = .ok (.getfield 31, 3) := by decide +kernel
theorem dX8_pass_15 : decode cX8_pass 15 = .ok (.iconst 1, 1) := by decide +kernel
theorem dX8_pass_16 : decode cX8_pass 16 = .ok (.iadd, 1) := by decide +kernel
theorem dX8_pass_17 : decode cX8_pass 17 = .ok (.putfield 31, 3) := by decide +kernel
theorem dX8_pass_20 : decode cX8_pass 20 = .ok (.iconst 1, 1) := by decide +kernel
theorem dX8_pass_21 : decode cX8_pass 21 = .ok (.ireturn, 1) := by decide +kernel
theorem dX8_howManyNumbers_0 : decode cX8_howManyNumbers 0 = .ok (.iload_n 0, 1) := by decide +kernel
theorem dX8_howManyNumbers_1 : decode cX8_howManyNumbers 1 = .ok (.lookupswitch 57 #[(98, 55), (103, 55), (104, 53), (115, 51), (116, 55)], 51) := by decide +kernel
theorem dX8_howManyNumbers_52 : decode cX8_howManyNumbers 52 = .ok (.iconst 4, 1) := by decide +kernel
theorem dX8_howManyNumbers_53 : decode cX8_howManyNumbers 53 = .ok (.ireturn, 1) := by decide +kernel
theorem dX8_howManyNumbers_54 : decode cX8_howManyNumbers 54 = .ok (.iconst 3, 1) := by decide +kernel
theorem dX8_howManyNumbers_55 : decode cX8_howManyNumbers 55 = .ok (.ireturn, 1) := by decide +kernel
theorem dX8_howManyNumbers_56 : decode cX8_howManyNumbers 56 = .ok (.iconst 1, 1) := by decide +kernel
theorem dX8_howManyNumbers_57 : decode cX8_howManyNumbers 57 = .ok (.ireturn, 1) := by decide +kernel
theorem dX8_howManyNumbers_58 : decode cX8_howManyNumbers 58 = .ok (.iconst 0, 1) := by decide +kernel
theorem dX8_howManyNumbers_59 : decode cX8_howManyNumbers 59 = .ok (.ireturn, 1) := by decide +kernel
theorem dX8_firstUndoable_0 : decode cX8_firstUndoable 0 = .ok (.aload_n 1, 1) := by decide +kernel
theorem dX8_firstUndoable_1 : decode cX8_firstUndoable 1 = .ok (.getfield 60, 3) := by decide +kernel
theorem dX8_firstUndoable_4 : decode cX8_firstUndoable 4 = .ok (.istore_n 2, 1) := by decide +kernel
theorem dX8_firstUndoable_5 : decode cX8_firstUndoable 5 = .ok (.aload_n 1, 1) := by decide +kernel
theorem dX8_firstUndoable_6 : decode cX8_firstUndoable 6 = .ok (.getfield 65, 3) := by decide +kernel
theorem dX8_firstUndoable_9 : decode cX8_firstUndoable 9 = .ok (.istore_n 3, 1) := by decide +kernel
theorem dX8_firstUndoable_10 : decode cX8_firstUndoable 10 = .ok (.aload_n 1, 1) := by decide +kernel
theorem dX8_firstUndoable_11 : decode cX8_firstUndoable 11 = .ok (.getfield 68, 3) := by decide +kernel
theorem dX8_firstUndoable_14 : decode cX8_firstUndoable 14 = .ok (.istore 4, 2) := by decide +kernel
theorem dX8_firstUndoable_16 : decode cX8_firstUndoable 16 = .ok (.iconst 0, 1) := by decide +kernel
theorem dX8_firstUndoable_17 : decode cX8_firstUndoable 17 = .ok (.istore 5, 2) := by decide +kernel
theorem dX8_firstUndoable_19 : decode cX8_firstUndoable 19 = .ok (.iload 5, 2) := by decide +kernel
theorem dX8_firstUndoable_21 : decode cX8_firstUndoable 21 = .ok (.aload_n 0, 1) := by decide +kernel
theorem dX8_firstUndoable_22 : decode cX8_firstUndoable 22 = .ok (.getfield 34, 3) := by decide +kernel
theorem dX8_firstUndoable_25 : decode cX8_firstUndoable 25 = .ok (.if_icmp .ge 130, 3) := by decide +kernel
theorem dX8_firstUndoable_28 : decode cX8_firstUndoable 28 = .ok (.iload_n 2, 1) := by decide +kernel
theorem dX8_firstUndoable_29 : decode cX8_firstUndoable 29 = .ok (.aload_n 0, 1) := by decide +kernel
theorem dX8_firstUndoable_30 : decode cX8_firstUndoable 30 = .ok (.getfield 15, 3) := by decide +kernel
theorem dX8_firstUndoable_33 : decode cX8_firstUndoable 33 = .ok (.iload 5, 2) := by decide +kernel
theorem dX8_firstUndoable_35 : decode cX8_firstUndoable 35 = .ok (.iaload, 1) := by decide +kernel
theorem dX8_firstUndoable_36 : decode cX8_firstUndoable 36 = .ok (.bipush 115, 2) := by decide +kernel
theorem dX8_firstUndoable_38 : decode cX8_firstUndoable 38 = .ok (.if_icmp .ne 7, 3) := by decide +kernel
theorem dX8_firstUndoable_41 : decode cX8_firstUndoable 41 = .ok (.iconst 1, 1) := by decide +kernel
theorem dX8_firstUndoable_42 : decode cX8_firstUndoable 42 = .ok (.goto 4, 3) := by decide +kernel
theorem dX8_firstUndoable_45 : decode cX8_firstUndoable 45 = .ok (.iconst 0, 1) := by decide +kernel
theorem dX8_firstUndoable_46 : decode cX8_firstUndoable 46 = .ok (.iadd, 1) := by decide +kernel
theorem dX8_firstUndoable_47 : decode cX8_firstUndoable 47 = .ok (.istore_n 2, 1) := by decide +kernel
theorem dX8_firstUndoable_48 : decode cX8_firstUndoable 48 = .ok (.iload_n 3, 1) := by decide +kernel
theorem dX8_firstUndoable_49 : decode cX8_firstUndoable 49 = .ok (.aload_n 0, 1) := by decide +kernel
theorem dX8_firstUndoable_50 : decode cX8_firstUndoable 50 = .ok (.getfield 15, 3) := by decide +kernel
theorem dX8_firstUndoable_53 : decode cX8_firstUndoable 53 = .ok (.iload 5, 2) := by decide +kernel
theorem dX8_firstUndoable_55 : decode cX8_firstUndoable 55 = .ok (.iaload, 1) := by decide +kernel
theorem dX8_firstUndoable_56 : decode cX8_firstUndoable 56 = .ok (.bipush 104, 2) := by decide +kernel
theorem dX8_firstUndoable_58 : decode cX8_firstUndoable 58 = .ok (.if_icmp .ne 7, 3) := by decide +kernel
theorem dX8_firstUndoable_61 : decode cX8_firstUndoable 61 = .ok (.iconst 1, 1) := by decide +kernel
theorem dX8_firstUndoable_62 : decode cX8_firstUndoable 62 = .ok (.goto 4, 3) := by decide +kernel
theorem dX8_firstUndoable_65 : decode cX8_firstUndoable 65 = .ok (.iconst 0, 1) := by decide +kernel
theorem dX8_firstUndoable_66 : decode cX8_firstUndoable 66 = .ok (.iadd, 1) := by decide +kernel
theorem dX8_firstUndoable_67 : decode cX8_firstUndoable 67 = .ok (.istore_n 3, 1) := by decide +kernel
theorem dX8_firstUndoable_68 : decode cX8_firstUndoable 68 = .ok (.iload 4, 2) := by decide +kernel
theorem dX8_firstUndoable_70 : decode cX8_firstUndoable 70 = .ok (.aload_n 0, 1) := by decide +kernel
theorem dX8_firstUndoable_71 : decode cX8_firstUndoable 71 = .ok (.getfield 15, 3) := by decide +kernel
theorem dX8_firstUndoable_74 : decode cX8_firstUndoable 74 = .ok (.iload 5, 2) := by decide +kernel
theorem dX8_firstUndoable_76 : decode cX8_firstUndoable 76 = .ok (.iaload, 1) := by decide +kernel
theorem dX8_firstUndoable_77 : decode cX8_firstUndoable 77 = .ok (.bipush 98, 2) := by decide +kernel
theorem dX8_firstUndoable_79 : decode cX8_firstUndoable 79 = .ok (.if_icmp .ne 7, 3) := by decide +kernel
theorem dX8_firstUndoable_82 : decode cX8_firstUndoable 82 = .ok (.iconst 1, 1) := by decide +kernel
theorem dX8_firstUndoable_83 : decode cX8_firstUndoable 83 = .ok (.goto 4, 3) := by decide +kernel
theorem dX8_firstUndoable_86 : decode cX8_firstUndoable 86 = .ok (.iconst 0, 1) := by decide +kernel
theorem dX8_firstUndoable_87 : decode cX8_firstUndoable 87 = .ok (.iadd, 1) := by decide +kernel
theorem dX8_firstUndoable_88 : decode cX8_firstUndoable 88 = .ok (.istore 4, 2) := by decide +kernel
theorem dX8_firstUndoable_90 : decode cX8_firstUndoable 90 = .ok (.iload_n 2, 1) := by decide +kernel
theorem dX8_firstUndoable_91 : decode cX8_firstUndoable 91 = .ok (.bipush 9, 2) := by decide +kernel
theorem dX8_firstUndoable_93 : decode cX8_firstUndoable 93 = .ok (.if_icmp .gt 20, 3) := by decide +kernel
theorem dX8_firstUndoable_96 : decode cX8_firstUndoable 96 = .ok (.iload_n 3, 1) := by decide +kernel
theorem dX8_firstUndoable_97 : decode cX8_firstUndoable 97 = .ok (.bipush 6, 2) := by decide +kernel
theorem dX8_firstUndoable_99 : decode cX8_firstUndoable 99 = .ok (.if_icmp .gt 14, 3) := by decide +kernel
theorem dX8_firstUndoable_102 : decode cX8_firstUndoable 102 = .ok (.iload 4, 2) := by decide +kernel
theorem dX8_firstUndoable_104 : decode cX8_firstUndoable 104 = .ok (.bipush 7, 2) := by decide +kernel
theorem dX8_firstUndoable_106 : decode cX8_firstUndoable 106 = .ok (.if_icmp .gt 7, 3) := by decide +kernel
theorem dX8_firstUndoable_109 : decode cX8_firstUndoable 109 = .ok (.iconst 1, 1) := by decide +kernel
theorem dX8_firstUndoable_110 : decode cX8_firstUndoable 110 = .ok (.goto 4, 3) := by decide +kernel
theorem dX8_firstUndoable_113 : decode cX8_firstUndoable 113 = .ok (.iconst 0, 1) := by decide +kernel
theorem dX8_firstUndoable_114 : decode cX8_firstUndoable 114 = .ok (.istore 6, 2) := by decide +kernel
theorem dX8_firstUndoable_116 : decode cX8_firstUndoable 116 = .ok (.iload 6, 2) := by decide +kernel
theorem dX8_firstUndoable_118 : decode cX8_firstUndoable 118 = .ok (.ifCond .eq 23, 3) := by decide +kernel
theorem dX8_firstUndoable_121 : decode cX8_firstUndoable 121 = .ok (.aload_n 0, 1) := by decide +kernel
theorem dX8_firstUndoable_122 : decode cX8_firstUndoable 122 = .ok (.getfield 15, 3) := by decide +kernel
theorem dX8_firstUndoable_125 : decode cX8_firstUndoable 125 = .ok (.iload 5, 2) := by decide +kernel
theorem dX8_firstUndoable_127 : decode cX8_firstUndoable 127 = .ok (.iaload, 1) := by decide +kernel
theorem dX8_firstUndoable_128 : decode cX8_firstUndoable 128 = .ok (.aload_n 0, 1) := by decide +kernel
theorem dX8_firstUndoable_129 : decode cX8_firstUndoable 129 = .ok (.getfield 24, 3) := by decide +kernel
theorem dX8_firstUndoable_132 : decode cX8_firstUndoable 132 = .ok (.iload 5, 2) := by decide +kernel
theorem dX8_firstUndoable_134 : decode cX8_firstUndoable 134 = .ok (.aaload, 1) := by decide +kernel
theorem dX8_firstUndoable_135 : decode cX8_firstUndoable 135 = .ok (.invokestatic 71, 3) := by decide +kernel
theorem dX8_firstUndoable_138 : decode cX8_firstUndoable 138 = .ok (.ifCond .ne 11, 3) := by decide +kernel
theorem dX8_firstUndoable_141 : decode cX8_firstUndoable 141 = .ok (.aload_n 0, 1) := by decide +kernel
theorem dX8_firstUndoable_142 : decode cX8_firstUndoable 142 = .ok (.getfield 19, 3) := by decide +kernel
theorem dX8_firstUndoable_145 : decode cX8_firstUndoable 145 = .ok (.iload 5, 2) := by decide +kernel
theorem dX8_firstUndoable_147 : decode cX8_firstUndoable 147 = .ok (.iaload, 1) := by decide +kernel
theorem dX8_firstUndoable_148 : decode cX8_firstUndoable 148 = .ok (.ireturn, 1) := by decide +kernel
theorem dX8_firstUndoable_149 : decode cX8_firstUndoable 149 = .ok (.iinc 5 1, 3) := by decide +kernel
theorem dX8_firstUndoable_152 : decode cX8_firstUndoable 152 = .ok (.goto (-133), 3) := by decide +kernel
theorem dX8_firstUndoable_155 : decode cX8_firstUndoable 155 = .ok (.iconst (-1), 1) := by decide +kernel
theorem dX8_firstUndoable_156 : decode cX8_firstUndoable 156 = .ok (.ireturn, 1) := by decide +kernel
theorem dX8_isInBounds_0 : decode cX8_isInBounds 0 = .ok (.iload_n 0, 1) := by decide +kernel
theorem dX8_isInBounds_1 : decode cX8_isInBounds 1 = .ok (.lookupswitch 87 #[(98, 72), (103, 79), (104, 59), (115, 43)], 43) := by decide +kernel
theorem dX8_isInBounds_44 : decode cX8_isInBounds 44 = .ok (.aload_n 1, 1) := by decide +kernel
theorem dX8_isInBounds_45 : decode cX8_isInBounds 45 = .ok (.iconst 0, 1) := by decide +kernel
theorem dX8_isInBounds_46 : decode cX8_isInBounds 46 = .ok (.iaload, 1) := by decide +kernel
theorem dX8_isInBounds_47 : decode cX8_isInBounds 47 = .ok (.aload_n 1, 1) := by decide +kernel
theorem dX8_isInBounds_48 : decode cX8_isInBounds 48 = .ok (.iconst 1, 1) := by decide +kernel
theorem dX8_isInBounds_49 : decode cX8_isInBounds 49 = .ok (.iaload, 1) := by decide +kernel
theorem dX8_isInBounds_50 : decode cX8_isInBounds 50 = .ok (.aload_n 1, 1) := by decide +kernel
theorem dX8_isInBounds_51 : decode cX8_isInBounds 51 = .ok (.iconst 2, 1) := by decide +kernel
theorem dX8_isInBounds_52 : decode cX8_isInBounds 52 = .ok (.iaload, 1) := by decide +kernel
theorem dX8_isInBounds_53 : decode cX8_isInBounds 53 = .ok (.aload_n 1, 1) := by decide +kernel
theorem dX8_isInBounds_54 : decode cX8_isInBounds 54 = .ok (.iconst 3, 1) := by decide +kernel
theorem dX8_isInBounds_55 : decode cX8_isInBounds 55 = .ok (.iaload, 1) := by decide +kernel
theorem dX8_isInBounds_56 : decode cX8_isInBounds 56 = .ok (.invokestatic 75, 3) := by decide +kernel
theorem dX8_isInBounds_59 : decode cX8_isInBounds 59 = .ok (.ireturn, 1) := by decide +kernel
theorem dX8_isInBounds_60 : decode cX8_isInBounds 60 = .ok (.aload_n 1, 1) := by decide +kernel
theorem dX8_isInBounds_61 : decode cX8_isInBounds 61 = .ok (.iconst 0, 1) := by decide +kernel
theorem dX8_isInBounds_62 : decode cX8_isInBounds 62 = .ok (.iaload, 1) := by decide +kernel
theorem dX8_isInBounds_63 : decode cX8_isInBounds 63 = .ok (.aload_n 1, 1) := by decide +kernel
theorem dX8_isInBounds_64 : decode cX8_isInBounds 64 = .ok (.iconst 1, 1) := by decide +kernel
theorem dX8_isInBounds_65 : decode cX8_isInBounds 65 = .ok (.iaload, 1) := by decide +kernel
theorem dX8_isInBounds_66 : decode cX8_isInBounds 66 = .ok (.aload_n 1, 1) := by decide +kernel
theorem dX8_isInBounds_67 : decode cX8_isInBounds 67 = .ok (.iconst 2, 1) := by decide +kernel
theorem dX8_isInBounds_68 : decode cX8_isInBounds 68 = .ok (.iaload, 1) := by decide +kernel
theorem dX8_isInBounds_69 : decode cX8_isInBounds 69 = .ok (.invokestatic 81, 3) := by decide +kernel
theorem dX8_isInBounds_72 : decode cX8_isInBounds 72 = .ok (.ireturn, 1) := by decide +kernel
theorem dX8_isInBounds_73 : decode cX8_isInBounds 73 = .ok (.aload_n 1, 1) := by decide +kernel
theorem dX8_isInBounds_74 : decode cX8_isInBounds 74 = .ok (.iconst 0, 1) := by decide +kernel
theorem dX8_isInBounds_75 : decode cX8_isInBounds 75 = .ok (.iaload, 1) := by decide +kernel
theorem dX8_isInBounds_76 : decode cX8_isInBounds 76 = .ok (.invokestatic 85, 3) := by decide +kernel
theorem dX8_isInBounds_79 : decode cX8_isInBounds 79 = .ok (.ireturn, 1) := by decide +kernel
theorem dX8_isInBounds_80 : decode cX8_isInBounds 80 = .ok (.iconst 0, 1) := by decide +kernel
theorem dX8_isInBounds_81 : decode cX8_isInBounds 81 = .ok (.aload_n 1, 1) := by decide +kernel
theorem dX8_isInBounds_82 : decode cX8_isInBounds 82 = .ok (.iconst 0, 1) := by decide +kernel
theorem dX8_isInBounds_83 : decode cX8_isInBounds 83 = .ok (.iaload, 1) := by decide +kernel
theorem dX8_isInBounds_84 : decode cX8_isInBounds 84 = .ok (.invokestatic 89, 3) := by decide +kernel
theorem dX8_isInBounds_87 : decode cX8_isInBounds 87 = .ok (.ireturn, 1) := by decide +kernel
theorem dX8_isInBounds_88 : decode cX8_isInBounds 88 = .ok (.iconst 2, 1) := by decide +kernel
theorem dX8_isInBounds_89 : decode cX8_isInBounds 89 = .ok (.aload_n 1, 1) := by decide +kernel
theorem dX8_isInBounds_90 : decode cX8_isInBounds 90 = .ok (.iconst 0, 1) := by decide +kernel
theorem dX8_isInBounds_91 : decode cX8_isInBounds 91 = .ok (.iaload, 1) := by decide +kernel
theorem dX8_isInBounds_92 : decode cX8_isInBounds 92 = .ok (.invokestatic 89, 3) := by decide +kernel
theorem dX8_isInBounds_95 : decode cX8_isInBounds 95 = .ok (.ireturn, 1) := by decide +kernel
theorem dX8_carryOut_0 : decode cX8_carryOut 0 = .ok (.iconst 0, 1) := by decide +kernel
theorem dX8_carryOut_1 : decode cX8_carryOut 1 = .ok (.istore_n 2, 1) := by decide +kernel
theorem dX8_carryOut_2 : decode cX8_carryOut 2 = .ok (.iload_n 2, 1) := by decide +kernel
theorem dX8_carryOut_3 : decode cX8_carryOut 3 = .ok (.aload_n 0, 1) := by decide +kernel
theorem dX8_carryOut_4 : decode cX8_carryOut 4 = .ok (.getfield 34, 3) := by decide +kernel
theorem dX8_carryOut_7 : decode cX8_carryOut 7 = .ok (.if_icmp .ge 153, 3) := by decide +kernel
theorem dX8_carryOut_10 : decode cX8_carryOut 10 = .ok (.aload_n 0, 1) := by decide +kernel
theorem dX8_carryOut_11 : decode cX8_carryOut 11 = .ok (.getfield 24, 3) := by decide +kernel
theorem dX8_carryOut_14 : decode cX8_carryOut 14 = .ok (.iload_n 2, 1) := by decide +kernel
theorem dX8_carryOut_15 : decode cX8_carryOut 15 = .ok (.aaload, 1) := by decide +kernel
theorem dX8_carryOut_16 : decode cX8_carryOut 16 = .ok (.astore_n 3, 1) := by decide +kernel
theorem dX8_carryOut_17 : decode cX8_carryOut 17 = .ok (.aload_n 0, 1) := by decide +kernel
theorem dX8_carryOut_18 : decode cX8_carryOut 18 = .ok (.getfield 15, 3) := by decide +kernel
theorem dX8_carryOut_21 : decode cX8_carryOut 21 = .ok (.iload_n 2, 1) := by decide +kernel
theorem dX8_carryOut_22 : decode cX8_carryOut 22 = .ok (.iaload, 1) := by decide +kernel
theorem dX8_carryOut_23 : decode cX8_carryOut 23 = .ok (.lookupswitch 122 #[(98, 92), (103, 110), (104, 68), (115, 41)], 41) := by decide +kernel
theorem dX8_carryOut_64 : decode cX8_carryOut 64 = .ok (.aload_n 1, 1) := by decide +kernel
theorem dX8_carryOut_65 : decode cX8_carryOut 65 = .ok (.new 76, 3) := by decide +kernel
theorem dX8_carryOut_68 : decode cX8_carryOut 68 = .ok (.dup, 1) := by decide +kernel
theorem dX8_carryOut_69 : decode cX8_carryOut 69 = .ok (.aload_n 3, 1) := by decide +kernel
theorem dX8_carryOut_70 : decode cX8_carryOut 70 = .ok (.iconst 0, 1) := by decide +kernel
theorem dX8_carryOut_71 : decode cX8_carryOut 71 = .ok (.iaload, 1) := by decide +kernel
theorem dX8_carryOut_72 : decode cX8_carryOut 72 = .ok (.aload_n 3, 1) := by decide +kernel
theorem dX8_carryOut_73 : decode cX8_carryOut 73 = .ok (.iconst 1, 1) := by decide +kernel
theorem dX8_carryOut_74 : decode cX8_carryOut 74 = .ok (.iaload, 1) := by decide +kernel
theorem dX8_carryOut_75 : decode cX8_carryOut 75 = .ok (.aload_n 3, 1) := by decide +kernel
theorem dX8_carryOut_76 : decode cX8_carryOut 76 = .ok (.iconst 2, 1) := by decide +kernel
theorem dX8_carryOut_77 : decode cX8_carryOut 77 = .ok (.iaload, 1) := by decide +kernel
theorem dX8_carryOut_78 : decode cX8_carryOut 78 = .ok (.aload_n 3, 1) := by decide +kernel
theorem dX8_carryOut_79 : decode cX8_carryOut 79 = .ok (.iconst 3, 1) := by decide +kernel
theorem dX8_carryOut_80 : decode cX8_carryOut 80 = .ok (.iaload, 1) := by decide +kernel
theorem dX8_carryOut_81 : decode cX8_carryOut 81 = .ok (.invokespecial 92, 3) := by decide +kernel
theorem dX8_carryOut_84 : decode cX8_carryOut 84 = .ok (.invokevirtual 95, 3) := by decide +kernel
theorem dX8_carryOut_87 : decode cX8_carryOut 87 = .ok (.pop, 1) := by decide +kernel
theorem dX8_carryOut_88 : decode cX8_carryOut 88 = .ok (.goto 66, 3) := by decide +kernel
theorem dX8_carryOut_91 : decode cX8_carryOut 91 = .ok (.aload_n 1, 1) := by decide +kernel
theorem dX8_carryOut_92 : decode cX8_carryOut 92 = .ok (.new 82, 3) := by decide +kernel
theorem dX8_carryOut_95 : decode cX8_carryOut 95 = .ok (.dup, 1) := by decide +kernel
theorem dX8_carryOut_96 : decode cX8_carryOut 96 = .ok (.aload_n 3, 1) := by decide +kernel
theorem dX8_carryOut_97 : decode cX8_carryOut 97 = .ok (.iconst 0, 1) := by decide +kernel
theorem dX8_carryOut_98 : decode cX8_carryOut 98 = .ok (.iaload, 1) := by decide +kernel
theorem dX8_carryOut_99 : decode cX8_carryOut 99 = .ok (.aload_n 3, 1) := by decide +kernel
theorem dX8_carryOut_100 : decode cX8_carryOut 100 = .ok (.iconst 1, 1) := by decide +kernel
theorem dX8_carryOut_101 : decode cX8_carryOut 101 = .ok (.iaload, 1) := by decide +kernel
theorem dX8_carryOut_102 : decode cX8_carryOut 102 = .ok (.aload_n 3, 1) := by decide +kernel
theorem dX8_carryOut_103 : decode cX8_carryOut 103 = .ok (.iconst 2, 1) := by decide +kernel
theorem dX8_carryOut_104 : decode cX8_carryOut 104 = .ok (.iaload, 1) := by decide +kernel
theorem dX8_carryOut_105 : decode cX8_carryOut 105 = .ok (.invokespecial 99, 3) := by decide +kernel
theorem dX8_carryOut_108 : decode cX8_carryOut 108 = .ok (.invokevirtual 102, 3) := by decide +kernel
theorem dX8_carryOut_111 : decode cX8_carryOut 111 = .ok (.pop, 1) := by decide +kernel
theorem dX8_carryOut_112 : decode cX8_carryOut 112 = .ok (.goto 42, 3) := by decide +kernel
theorem dX8_carryOut_115 : decode cX8_carryOut 115 = .ok (.aload_n 1, 1) := by decide +kernel
theorem dX8_carryOut_116 : decode cX8_carryOut 116 = .ok (.new 86, 3) := by decide +kernel
theorem dX8_carryOut_119 : decode cX8_carryOut 119 = .ok (.dup, 1) := by decide +kernel
theorem dX8_carryOut_120 : decode cX8_carryOut 120 = .ok (.aload_n 3, 1) := by decide +kernel
theorem dX8_carryOut_121 : decode cX8_carryOut 121 = .ok (.iconst 0, 1) := by decide +kernel
theorem dX8_carryOut_122 : decode cX8_carryOut 122 = .ok (.iaload, 1) := by decide +kernel
theorem dX8_carryOut_123 : decode cX8_carryOut 123 = .ok (.invokespecial 106, 3) := by decide +kernel
theorem dX8_carryOut_126 : decode cX8_carryOut 126 = .ok (.invokevirtual 109, 3) := by decide +kernel
theorem dX8_carryOut_129 : decode cX8_carryOut 129 = .ok (.pop, 1) := by decide +kernel
theorem dX8_carryOut_130 : decode cX8_carryOut 130 = .ok (.goto 24, 3) := by decide +kernel
theorem dX8_carryOut_133 : decode cX8_carryOut 133 = .ok (.aload_n 1, 1) := by decide +kernel
theorem dX8_carryOut_134 : decode cX8_carryOut 134 = .ok (.getfield 113, 3) := by decide +kernel
theorem dX8_carryOut_137 : decode cX8_carryOut 137 = .ok (.iconst 0, 1) := by decide +kernel
theorem dX8_carryOut_138 : decode cX8_carryOut 138 = .ok (.aload_n 3, 1) := by decide +kernel
theorem dX8_carryOut_139 : decode cX8_carryOut 139 = .ok (.iconst 0, 1) := by decide +kernel
theorem dX8_carryOut_140 : decode cX8_carryOut 140 = .ok (.iaload, 1) := by decide +kernel
theorem dX8_carryOut_141 : decode cX8_carryOut 141 = .ok (.iastore, 1) := by decide +kernel
theorem dX8_carryOut_142 : decode cX8_carryOut 142 = .ok (.goto 12, 3) := by decide +kernel
theorem dX8_carryOut_145 : decode cX8_carryOut 145 = .ok (.aload_n 1, 1) := by decide +kernel
theorem dX8_carryOut_146 : decode cX8_carryOut 146 = .ok (.getfield 113, 3) := by decide +kernel
theorem dX8_carryOut_149 : decode cX8_carryOut 149 = .ok (.iconst 2, 1) := by decide +kernel
theorem dX8_carryOut_150 : decode cX8_carryOut 150 = .ok (.aload_n 3, 1) := by decide +kernel
theorem dX8_carryOut_151 : decode cX8_carryOut 151 = .ok (.iconst 0, 1) := by decide +kernel
theorem dX8_carryOut_152 : decode cX8_carryOut 152 = .ok (.iaload, 1) := by decide +kernel
theorem dX8_carryOut_153 : decode cX8_carryOut 153 = .ok (.iastore, 1) := by decide +kernel
theorem dX8_carryOut_154 : decode cX8_carryOut 154 = .ok (.iinc 2 1, 3) := by decide +kernel
theorem dX8_carryOut_157 : decode cX8_carryOut 157 = .ok (.goto (-155), 3) := by decide +kernel
theorem dX8_carryOut_160 : decode cX8_carryOut 160 = .ok (.return_, 1) := by decide +kernel
theorem dX9_init_0 : decode cX9_init 0 = .ok (.aload_n 0, 1) := by decide +kernel
theorem dX9_init_1 : decode cX9_init 1 = .ok (.invokespecial 1, 3) := by decide +kernel
theorem dX9_init_4 : decode cX9_init 4 = .ok (.return_, 1) := by decide +kernel
theorem dX10_init_0 : decode cX10_init 0 = .ok (.aload_n 0, 1) := by decide +kernel
theorem dX10_init_1 : decode cX10_init 1 = .ok (.invokespecial 3, 3) := by decide +kernel
theorem dX10_init_4 : decode cX10_init 4 = .ok (.aload_n 0, 1) := by decide +kernel
theorem dX10_init_5 : decode cX10_init 5 = .ok (.iload_n 1, 1) := by decide +kernel
theorem dX10_init_6 : decode cX10_init 6 = .ok (.putfield 9, 3) := by decide +kernel
theorem dX10_init_9 : decode cX10_init 9 = .ok (.aload_n 0, 1) := by decide +kernel
theorem dX10_init_10 : decode cX10_init 10 = .ok (.iconst 0, 1) := by decide +kernel
theorem dX10_init_11 : decode cX10_init 11 = .ok (.iload_n 2, 1) := by decide +kernel
theorem dX10_init_12 : decode cX10_init 12 = .ok (.bipush 30, 2) := by decide +kernel
theorem dX10_init_14 : decode cX10_init 14 = .ok (.invokestatic 15, 3) := by decide +kernel
theorem dX10_init_17 : decode cX10_init 17 = .ok (.invokestatic 21, 3) := by decide +kernel
theorem dX10_init_20 : decode cX10_init 20 = .ok (.newarray .long, 2) := by decide +kernel
theorem dX10_init_22 : decode cX10_init 22 = .ok (.putfield 24, 3) := by decide +kernel
theorem dX10_init_25 : decode cX10_init 25 = .ok (.return_, 1) := by decide +kernel
theorem dX10_toldAs_0 : decode cX10_toldAs 0 = .ok (.aload_n 0, 1) := by decide +kernel
theorem dX10_toldAs_1 : decode cX10_toldAs 1 = .ok (.getfield 9, 3) := by decide +kernel
theorem dX10_toldAs_4 : decode cX10_toldAs 4 = .ok (.ifCond .ne 7, 3) := by decide +kernel
theorem dX10_toldAs_7 : decode cX10_toldAs 7 = .ok (.iconst 4, 1) := by decide +kernel
theorem dX10_toldAs_8 : decode cX10_toldAs 8 = .ok (.goto 4, 3) := by decide +kernel
theorem dX10_toldAs_11 : decode cX10_toldAs 11 = .ok (.iconst 5, 1) := by decide +kernel
theorem dX10_toldAs_12 : decode cX10_toldAs 12 = .ok (.ireturn, 1) := by decide +kernel
theorem dX10_hasItem_0 : decode cX10_hasItem 0 = .ok (.iload_n 1, 1) := by decide +kernel
theorem dX10_hasItem_1 : decode cX10_hasItem 1 = .ok (.ifCond .lt 16, 3) := by decide +kernel
theorem dX10_hasItem_4 : decode cX10_hasItem 4 = .ok (.iload_n 1, 1) := by decide +kernel
theorem dX10_hasItem_5 : decode cX10_hasItem 5 = .ok (.aload_n 0, 1) := by decide +kernel
theorem dX10_hasItem_6 : decode cX10_hasItem 6 = .ok (.getfield 24, 3) := by decide +kernel
theorem dX10_hasItem_9 : decode cX10_hasItem 9 = .ok (.arraylength, 1) := by decide +kernel
theorem dX10_hasItem_10 : decode cX10_hasItem 10 = .ok (.if_icmp .ge 7, 3) := by decide +kernel
theorem dX10_hasItem_13 : decode cX10_hasItem 13 = .ok (.iconst 1, 1) := by decide +kernel
theorem dX10_hasItem_14 : decode cX10_hasItem 14 = .ok (.goto 4, 3) := by decide +kernel
theorem dX10_hasItem_17 : decode cX10_hasItem 17 = .ok (.iconst 0, 1) := by decide +kernel
theorem dX10_hasItem_18 : decode cX10_hasItem 18 = .ok (.ireturn, 1) := by decide +kernel
theorem dX10_hasRun_0 : decode cX10_hasRun 0 = .ok (.iload_n 2, 1) := by decide +kernel
theorem dX10_hasRun_1 : decode cX10_hasRun 1 = .ok (.ifCond .lt 31, 3) := by decide +kernel
theorem dX10_hasRun_4 : decode cX10_hasRun 4 = .ok (.iload_n 2, 1) := by decide +kernel
theorem dX10_hasRun_5 : decode cX10_hasRun 5 = .ok (.aload_n 0, 1) := by decide +kernel
theorem dX10_hasRun_6 : decode cX10_hasRun 6 = .ok (.getfield 24, 3) := by decide +kernel
theorem dX10_hasRun_9 : decode cX10_hasRun 9 = .ok (.arraylength, 1) := by decide +kernel
theorem dX10_hasRun_10 : decode cX10_hasRun 10 = .ok (.if_icmp .gt 22, 3) := by decide +kernel
theorem dX10_hasRun_13 : decode cX10_hasRun 13 = .ok (.iload_n 1, 1) := by decide +kernel
theorem dX10_hasRun_14 : decode cX10_hasRun 14 = .ok (.ifCond .lt 18, 3) := by decide +kernel
theorem dX10_hasRun_17 : decode cX10_hasRun 17 = .ok (.iload_n 1, 1) := by decide +kernel
theorem dX10_hasRun_18 : decode cX10_hasRun 18 = .ok (.aload_n 0, 1) := by decide +kernel
theorem dX10_hasRun_19 : decode cX10_hasRun 19 = .ok (.getfield 24, 3) := by decide +kernel
theorem dX10_hasRun_22 : decode cX10_hasRun 22 = .ok (.arraylength, 1) := by decide +kernel
theorem dX10_hasRun_23 : decode cX10_hasRun 23 = .ok (.iload_n 2, 1) := by decide +kernel
theorem dX10_hasRun_24 : decode cX10_hasRun 24 = .ok (.isub, 1) := by decide +kernel
theorem dX10_hasRun_25 : decode cX10_hasRun 25 = .ok (.if_icmp .gt 7, 3) := by decide +kernel
theorem dX10_hasRun_28 : decode cX10_hasRun 28 = .ok (.iconst 1, 1) := by decide +kernel
theorem dX10_hasRun_29 : decode cX10_hasRun 29 = .ok (.goto 4, 3) := by decide +kernel
theorem dX10_hasRun_32 : decode cX10_hasRun 32 = .ok (.iconst 0, 1) := by decide +kernel
theorem dX10_hasRun_33 : decode cX10_hasRun 33 = .ok (.ireturn, 1) := by decide +kernel
theorem dX10_lay_0 : decode cX10_lay 0 = .ok (.aload_n 0, 1) := by decide +kernel
theorem dX10_lay_1 : decode cX10_lay 1 = .ok (.iload_n 1, 1) := by decide +kernel
theorem dX10_lay_2 : decode cX10_lay 2 = .ok (.invokevirtual 28, 3) := by decide +kernel
theorem dX10_lay_5 : decode cX10_lay 5 = .ok (.ifCond .eq 24, 3) := by decide +kernel
theorem dX10_lay_8 : decode cX10_lay 8 = .ok (.aload_n 0, 1) := by decide +kernel
theorem dX10_lay_9 : decode cX10_lay 9 = .ok (.getfield 24, 3) := by decide +kernel
theorem dX10_lay_12 : decode cX10_lay 12 = .ok (.iload_n 1, 1) := by decide +kernel
theorem dX10_lay_13 : decode cX10_lay 13 = .ok (.aload_n 0, 1) := by decide +kernel
theorem dX10_lay_14 : decode cX10_lay 14 = .ok (.getfield 9, 3) := by decide +kernel
theorem dX10_lay_17 : decode cX10_lay 17 = .ok (.ifCond .ne 10, 3) := by decide +kernel
theorem dX10_lay_20 : decode cX10_lay 20 = .ok (.lload_n 2, 1) := by decide +kernel
theorem dX10_lay_21 : decode cX10_lay 21 = .ok (.l2i, 1) := by decide +kernel
theorem dX10_lay_22 : decode cX10_lay 22 = .ok (.i2b, 1) := by decide +kernel
theorem dX10_lay_23 : decode cX10_lay 23 = .ok (.i2l, 1) := by decide +kernel
theorem dX10_lay_24 : decode cX10_lay 24 = .ok (.goto 4, 3) := by decide +kernel
theorem dX10_lay_27 : decode cX10_lay 27 = .ok (.lload_n 2, 1) := by decide +kernel
theorem dX10_lay_28 : decode cX10_lay 28 = .ok (.lastore, 1) := by decide +kernel
theorem dX10_lay_29 : decode cX10_lay 29 = .ok (.return_, 1) := by decide +kernel
theorem dX11_init_0 : decode cX11_init 0 = .ok (.aload_n 0, 1) := by decide +kernel
theorem dX11_init_1 : decode cX11_init 1 = .ok (.invokespecial 3, 3) := by decide +kernel
theorem dX11_init_4 : decode cX11_init 4 = .ok (.aload_n 0, 1) := by decide +kernel
theorem dX11_init_5 : decode cX11_init 5 = .ok (.new 9, 3) := by decide +kernel
theorem dX11_init_8 : decode cX11_init 8 = .ok (.dup, 1) := by decide +kernel
theorem dX11_init_9 : decode cX11_init 9 = .ok (.invokespecial 11, 3) := by decide +kernel
theorem dX11_init_12 : decode cX11_init 12 = .ok (.putfield 12, 3) := by decide +kernel
theorem dX11_init_15 : decode cX11_init 15 = .ok (.aload_n 0, 1) := by decide +kernel
theorem dX11_init_16 : decode cX11_init 16 = .ok (.new 9, 3) := by decide +kernel
theorem dX11_init_19 : decode cX11_init 19 = .ok (.dup, 1) := by decide +kernel
theorem dX11_init_20 : decode cX11_init 20 = .ok (.invokespecial 11, 3) := by decide +kernel
theorem dX11_init_23 : decode cX11_init 23 = .ok (.putfield 18, 3) := by decide +kernel
theorem dX11_init_26 : decode cX11_init 26 = .ok (.aload_n 0, 1) := by decide +kernel
theorem dX11_init_27 : decode cX11_init 27 = .ok (.iconst 0, 1) := by decide +kernel
theorem dX11_init_28 : decode cX11_init 28 = .ok (.putfield 21, 3) := by decide +kernel
theorem dX11_init_31 : decode cX11_init 31 = .ok (.aload_n 0, 1) := by decide +kernel
theorem dX11_init_32 : decode cX11_init 32 = .ok (.bipush 6, 2) := by decide +kernel
theorem dX11_init_34 : decode cX11_init 34 = .ok (.anewarray 25, 3) := by decide +kernel
theorem dX11_init_37 : decode cX11_init 37 = .ok (.putfield 27, 3) := by decide +kernel
theorem dX11_init_40 : decode cX11_init 40 = .ok (.aload_n 0, 1) := by decide +kernel
theorem dX11_init_41 : decode cX11_init 41 = .ok (.new 31, 3) := by decide +kernel
theorem dX11_init_44 : decode cX11_init 44 = .ok (.dup, 1) := by decide +kernel
theorem dX11_init_45 : decode cX11_init 45 = .ok (.invokespecial 33, 3) := by decide +kernel
theorem dX11_init_48 : decode cX11_init 48 = .ok (.putfield 34, 3) := by decide +kernel
theorem dX11_init_51 : decode cX11_init 51 = .ok (.aload_n 0, 1) := by decide +kernel
theorem dX11_init_52 : decode cX11_init 52 = .ok (.iconst 0, 1) := by decide +kernel
theorem dX11_init_53 : decode cX11_init 53 = .ok (.putfield 38, 3) := by decide +kernel
theorem dX11_init_56 : decode cX11_init 56 = .ok (.aload_n 0, 1) := by decide +kernel
theorem dX11_init_57 : decode cX11_init 57 = .ok (.new 42, 3) := by decide +kernel
theorem dX11_init_60 : decode cX11_init 60 = .ok (.dup, 1) := by decide +kernel
theorem dX11_init_61 : decode cX11_init 61 = .ok (.invokespecial 44, 3) := by decide +kernel
theorem dX11_init_64 : decode cX11_init 64 = .ok (.putfield 45, 3) := by decide +kernel
theorem dX11_init_67 : decode cX11_init 67 = .ok (.aload_n 0, 1) := by decide +kernel
theorem dX11_init_68 : decode cX11_init 68 = .ok (.new 49, 3) := by decide +kernel
theorem dX11_init_71 : decode cX11_init 71 = .ok (.dup, 1) := by decide +kernel
theorem dX11_init_72 : decode cX11_init 72 = .ok (.invokespecial 51, 3) := by decide +kernel
theorem dX11_init_75 : decode cX11_init 75 = .ok (.putfield 52, 3) := by decide +kernel
theorem dX11_init_78 : decode cX11_init 78 = .ok (.aload_n 0, 1) := by decide +kernel
theorem dX11_init_79 : decode cX11_init 79 = .ok (.new 56, 3) := by decide +kernel
theorem dX11_init_82 : decode cX11_init 82 = .ok (.dup, 1) := by decide +kernel
theorem dX11_init_83 : decode cX11_init 83 = .ok (.invokespecial 58, 3) := by decide +kernel
theorem dX11_init_86 : decode cX11_init 86 = .ok (.putfield 59, 3) := by decide +kernel
theorem dX11_init_89 : decode cX11_init 89 = .ok (.aload_n 0, 1) := by decide +kernel
theorem dX11_init_90 : decode cX11_init 90 = .ok (.new 63, 3) := by decide +kernel
theorem dX11_init_93 : decode cX11_init 93 = .ok (.dup, 1) := by decide +kernel
theorem dX11_init_94 : decode cX11_init 94 = .ok (.invokespecial 65, 3) := by decide +kernel
theorem dX11_init_97 : decode cX11_init 97 = .ok (.putfield 66, 3) := by decide +kernel
theorem dX11_init_100 : decode cX11_init 100 = .ok (.return_, 1) := by decide +kernel
theorem dX11_stave_0 : decode cX11_stave 0 = .ok (.iload_n 1, 1) := by decide +kernel
theorem dX11_stave_1 : decode cX11_stave 1 = .ok (.iload_n 2, 1) := by decide +kernel
theorem dX11_stave_2 : decode cX11_stave 2 = .ok (.iload_n 3, 1) := by decide +kernel
theorem dX11_stave_3 : decode cX11_stave 3 = .ok (.iload 4, 2) := by decide +kernel
theorem dX11_stave_5 : decode cX11_stave 5 = .ok (.invokestatic 70, 3) := by decide +kernel
theorem dX11_stave_8 : decode cX11_stave 8 = .ok (.ifCond .ne 6, 3) := by decide +kernel
theorem dX11_stave_11 : decode cX11_stave 11 = .ok (.bipush (-2), 2) := by decide +kernel
theorem dX11_stave_13 : decode cX11_stave 13 = .ok (.ireturn, 1) := by decide +kernel
theorem dX11_stave_14 : decode cX11_stave 14 = .ok (.aload_n 0, 1) := by decide +kernel
theorem dX11_stave_15 : decode cX11_stave 15 = .ok (.getfield 12, 3) := by decide +kernel
theorem dX11_stave_18 : decode cX11_stave 18 = .ok (.new 71, 3) := by decide +kernel
theorem dX11_stave_21 : decode cX11_stave 21 = .ok (.dup, 1) := by decide +kernel
theorem dX11_stave_22 : decode cX11_stave 22 = .ok (.iload_n 1, 1) := by decide +kernel
theorem dX11_stave_23 : decode cX11_stave 23 = .ok (.iload_n 2, 1) := by decide +kernel
theorem dX11_stave_24 : decode cX11_stave 24 = .ok (.iload_n 3, 1) := by decide +kernel
theorem dX11_stave_25 : decode cX11_stave 25 = .ok (.iload 4, 2) := by decide +kernel
theorem dX11_stave_27 : decode cX11_stave 27 = .ok (.invokespecial 76, 3) := by decide +kernel
theorem dX11_stave_30 : decode cX11_stave 30 = .ok (.invokevirtual 79, 3) := by decide +kernel
theorem dX11_stave_33 : decode cX11_stave 33 = .ok (.ireturn, 1) := by decide +kernel
theorem dX11_hoop_0 : decode cX11_hoop 0 = .ok (.iload_n 1, 1) := by decide +kernel
theorem dX11_hoop_1 : decode cX11_hoop 1 = .ok (.iload_n 2, 1) := by decide +kernel
theorem dX11_hoop_2 : decode cX11_hoop 2 = .ok (.iload_n 3, 1) := by decide +kernel
theorem dX11_hoop_3 : decode cX11_hoop 3 = .ok (.invokestatic 83, 3) := by decide +kernel
theorem dX11_hoop_6 : decode cX11_hoop 6 = .ok (.ifCond .ne 6, 3) := by decide +kernel
theorem dX11_hoop_9 : decode cX11_hoop 9 = .ok (.bipush (-2), 2) := by decide +kernel
theorem dX11_hoop_11 : decode cX11_hoop 11 = .ok (.ireturn, 1) := by decide +kernel
theorem dX11_hoop_12 : decode cX11_hoop 12 = .ok (.aload_n 0, 1) := by decide +kernel
theorem dX11_hoop_13 : decode cX11_hoop 13 = .ok (.getfield 12, 3) := by decide +kernel
theorem dX11_hoop_16 : decode cX11_hoop 16 = .ok (.new 84, 3) := by decide +kernel
theorem dX11_hoop_19 : decode cX11_hoop 19 = .ok (.dup, 1) := by decide +kernel
theorem dX11_hoop_20 : decode cX11_hoop 20 = .ok (.iload_n 1, 1) := by decide +kernel
theorem dX11_hoop_21 : decode cX11_hoop 21 = .ok (.iload_n 2, 1) := by decide +kernel
theorem dX11_hoop_22 : decode cX11_hoop 22 = .ok (.iload_n 3, 1) := by decide +kernel
theorem dX11_hoop_23 : decode cX11_hoop 23 = .ok (.invokespecial 88, 3) := by decide +kernel
theorem dX11_hoop_26 : decode cX11_hoop 26 = .ok (.invokevirtual 91, 3) := by decide +kernel
theorem dX11_hoop_29 : decode cX11_hoop 29 = .ok (.ireturn, 1) := by decide +kernel
theorem dX11_board_0 : decode cX11_board 0 = .ok (.iload_n 1, 1) := by decide +kernel
theorem dX11_board_1 : decode cX11_board 1 = .ok (.invokestatic 95, 3) := by decide +kernel
theorem dX11_board_4 : decode cX11_board 4 = .ok (.ifCond .ne 6, 3) := by decide +kernel
theorem dX11_board_7 : decode cX11_board 7 = .ok (.bipush (-2), 2) := by decide +kernel
theorem dX11_board_9 : decode cX11_board 9 = .ok (.ireturn, 1) := by decide +kernel
theorem dX11_board_10 : decode cX11_board 10 = .ok (.aload_n 0, 1) := by decide +kernel
theorem dX11_board_11 : decode cX11_board 11 = .ok (.getfield 12, 3) := by decide +kernel
theorem dX11_board_14 : decode cX11_board 14 = .ok (.new 96, 3) := by decide +kernel
theorem dX11_board_17 : decode cX11_board 17 = .ok (.dup, 1) := by decide +kernel
theorem dX11_board_18 : decode cX11_board 18 = .ok (.iload_n 1, 1) := by decide +kernel
theorem dX11_board_19 : decode cX11_board 19 = .ok (.invokespecial 100, 3) := by decide +kernel
theorem dX11_board_22 : decode cX11_board 22 = .ok (.invokevirtual 103, 3) := by decide +kernel
theorem dX11_board_25 : decode cX11_board 25 = .ok (.ireturn, 1) := by decide +kernel
theorem dX11_rule_0 : decode cX11_rule 0 = .ok (.iload_n 1, 1) := by decide +kernel
theorem dX11_rule_1 : decode cX11_rule 1 = .ok (.iconst 0, 1) := by decide +kernel
theorem dX11_rule_2 : decode cX11_rule 2 = .ok (.iconst 3, 1) := by decide +kernel
theorem dX11_rule_3 : decode cX11_rule 3 = .ok (.invokestatic 107, 3) := by decide +kernel
theorem dX11_rule_6 : decode cX11_rule 6 = .ok (.ifCond .ne 5, 3) := by decide +kernel
theorem dX11_rule_9 : decode cX11_rule 9 = .ok (.iconst (-1), 1) := by decide +kernel
theorem dX11_rule_10 : decode cX11_rule 10 = .ok (.ireturn, 1) := by decide +kernel
theorem dX11_rule_11 : decode cX11_rule 11 = .ok (.iload_n 1, 1) := by decide +kernel
theorem dX11_rule_12 : decode cX11_rule 12 = .ok (.iload_n 2, 1) := by decide +kernel
theorem dX11_rule_13 : decode cX11_rule 13 = .ok (.invokestatic 110, 3) := by decide +kernel
theorem dX11_rule_16 : decode cX11_rule 16 = .ok (.ifCond .ne 6, 3) := by decide +kernel
theorem dX11_rule_19 : decode cX11_rule 19 = .ok (.bipush (-2), 2) := by decide +kernel
theorem dX11_rule_21 : decode cX11_rule 21 = .ok (.ireturn, 1) := by decide +kernel
theorem dX11_rule_22 : decode cX11_rule 22 = .ok (.aload_n 0, 1) := by decide +kernel
theorem dX11_rule_23 : decode cX11_rule 23 = .ok (.getfield 12, 3) := by decide +kernel
theorem dX11_rule_26 : decode cX11_rule 26 = .ok (.getfield 114, 3) := by decide +kernel
theorem dX11_rule_29 : decode cX11_rule 29 = .ok (.iload_n 1, 1) := by decide +kernel
theorem dX11_rule_30 : decode cX11_rule 30 = .ok (.iload_n 2, 1) := by decide +kernel
theorem dX11_rule_31 : decode cX11_rule 31 = .ok (.iastore, 1) := by decide +kernel
theorem dX11_rule_32 : decode cX11_rule 32 = .ok (.iconst 1, 1) := by decide +kernel
theorem dX11_rule_33 : decode cX11_rule 33 = .ok (.ireturn, 1) := by decide +kernel
theorem dX11_told_0 : decode cX11_told 0 = .ok (.iload_n 1, 1) := by decide +kernel
theorem dX11_told_1 : decode cX11_told 1 = .ok (.tableswitch 131 0 8 #[51, 61, 71, 81, 94, 102, 110, 118, 126], 51) := by decide +kernel
theorem dX11_told_52 : decode cX11_told 52 = .ok (.aload_n 0, 1) := by decide +kernel
theorem dX11_told_53 : decode cX11_told 53 = .ok (.getfield 12, 3) := by decide +kernel
theorem dX11_told_56 : decode cX11_told 56 = .ok (.getfield 114, 3) := by decide +kernel
theorem dX11_told_59 : decode cX11_told 59 = .ok (.iconst 0, 1) := by decide +kernel
theorem dX11_told_60 : decode cX11_told 60 = .ok (.iaload, 1) := by decide +kernel
theorem dX11_told_61 : decode cX11_told 61 = .ok (.ireturn, 1) := by decide +kernel
theorem dX11_told_62 : decode cX11_told 62 = .ok (.aload_n 0, 1) := by decide +kernel
theorem dX11_told_63 : decode cX11_told 63 = .ok (.getfield 12, 3) := by decide +kernel
theorem dX11_told_66 : decode cX11_told 66 = .ok (.getfield 114, 3) := by decide +kernel
theorem dX11_told_69 : decode cX11_told 69 = .ok (.iconst 1, 1) := by decide +kernel
theorem dX11_told_70 : decode cX11_told 70 = .ok (.iaload, 1) := by decide +kernel
theorem dX11_told_71 : decode cX11_told 71 = .ok (.ireturn, 1) := by decide +kernel
theorem dX11_told_72 : decode cX11_told 72 = .ok (.aload_n 0, 1) := by decide +kernel
theorem dX11_told_73 : decode cX11_told 73 = .ok (.getfield 12, 3) := by decide +kernel
theorem dX11_told_76 : decode cX11_told 76 = .ok (.getfield 114, 3) := by decide +kernel
theorem dX11_told_79 : decode cX11_told 79 = .ok (.iconst 2, 1) := by decide +kernel
theorem dX11_told_80 : decode cX11_told 80 = .ok (.iaload, 1) := by decide +kernel
theorem dX11_told_81 : decode cX11_told 81 = .ok (.ireturn, 1) := by decide +kernel
theorem dX11_told_82 : decode cX11_told 82 = .ok (.aload_n 0, 1) := by decide +kernel
theorem dX11_told_83 : decode cX11_told 83 = .ok (.getfield 12, 3) := by decide +kernel
theorem dX11_told_86 : decode cX11_told 86 = .ok (.getfield 114, 3) := by decide +kernel
theorem dX11_told_89 : decode cX11_told 89 = .ok (.iconst 3, 1) := by decide +kernel
theorem dX11_told_90 : decode cX11_told 90 = .ok (.iaload, 1) := by decide +kernel
theorem dX11_told_91 : decode cX11_told 91 = .ok (.bipush 100, 2) := by decide +kernel
theorem dX11_told_93 : decode cX11_told 93 = .ok (.iadd, 1) := by decide +kernel
theorem dX11_told_94 : decode cX11_told 94 = .ok (.ireturn, 1) := by decide +kernel
theorem dX11_told_95 : decode cX11_told 95 = .ok (.aload_n 0, 1) := by decide +kernel
theorem dX11_told_96 : decode cX11_told 96 = .ok (.getfield 12, 3) := by decide +kernel
theorem dX11_told_99 : decode cX11_told 99 = .ok (.getfield 118, 3) := by decide +kernel
theorem dX11_told_102 : decode cX11_told 102 = .ok (.ireturn, 1) := by decide +kernel
theorem dX11_told_103 : decode cX11_told 103 = .ok (.aload_n 0, 1) := by decide +kernel
theorem dX11_told_104 : decode cX11_told 104 = .ok (.getfield 12, 3) := by decide +kernel
theorem dX11_told_107 : decode cX11_told 107 = .ok (.getfield 121, 3) := by decide +kernel
theorem dX11_told_110 : decode cX11_told 110 = .ok (.ireturn, 1) := by decide +kernel
theorem dX11_told_111 : decode cX11_told 111 = .ok (.aload_n 0, 1) := by decide +kernel
theorem dX11_told_112 : decode cX11_told 112 = .ok (.getfield 12, 3) := by decide +kernel
theorem dX11_told_115 : decode cX11_told 115 = .ok (.getfield 124, 3) := by decide +kernel
theorem dX11_told_118 : decode cX11_told 118 = .ok (.ireturn, 1) := by decide +kernel
theorem dX11_told_119 : decode cX11_told 119 = .ok (.aload_n 0, 1) := by decide +kernel
theorem dX11_told_120 : decode cX11_told 120 = .ok (.getfield 34, 3) := by decide +kernel
theorem dX11_told_123 : decode cX11_told 123 = .ok (.getfield 127, 3) := by decide +kernel
theorem dX11_told_126 : decode cX11_told 126 = .ok (.ireturn, 1) := by decide +kernel
theorem dX11_told_127 : decode cX11_told 127 = .ok (.aload_n 0, 1) := by decide +kernel
theorem dX11_told_128 : decode cX11_told 128 = .ok (.getfield 38, 3) := by decide +kernel
theorem dX11_told_131 : decode cX11_told 131 = .ok (.ireturn, 1) := by decide +kernel
theorem dX11_told_132 : decode cX11_told 132 = .ok (.iconst (-1), 1) := by decide +kernel
theorem dX11_told_133 : decode cX11_told 133 = .ok (.ireturn, 1) := by decide +kernel
theorem dX11_ofStave_0 : decode cX11_ofStave 0 = .ok (.aload_n 0, 1) := by decide +kernel
theorem dX11_ofStave_1 : decode cX11_ofStave 1 = .ok (.getfield 12, 3) := by decide +kernel
theorem dX11_ofStave_4 : decode cX11_ofStave 4 = .ok (.iload_n 1, 1) := by decide +kernel
theorem dX11_ofStave_5 : decode cX11_ofStave 5 = .ok (.invokevirtual 130, 3) := by decide +kernel
theorem dX11_ofStave_8 : decode cX11_ofStave 8 = .ok (.astore_n 3, 1) := by decide +kernel
theorem dX11_ofStave_9 : decode cX11_ofStave 9 = .ok (.aload_n 3, 1) := by decide +kernel
theorem dX11_ofStave_10 : decode cX11_ofStave 10 = .ok (.ifnonnull 5, 3) := by decide +kernel
theorem dX11_ofStave_13 : decode cX11_ofStave 13 = .ok (.iconst (-1), 1) := by decide +kernel
theorem dX11_ofStave_14 : decode cX11_ofStave 14 = .ok (.ireturn, 1) := by decide +kernel
theorem dX11_ofStave_15 : decode cX11_ofStave 15 = .ok (.iload_n 2, 1) := by decide +kernel
theorem dX11_ofStave_16 : decode cX11_ofStave 16 = .ok (.tableswitch 106 0 7 #[48, 53, 58, 63, 71, 76, 84, 89], 48) := by decide +kernel
theorem dX11_ofStave_64 : decode cX11_ofStave 64 = .ok (.aload_n 3, 1) := by decide +kernel
theorem dX11_ofStave_65 : decode cX11_ofStave 65 = .ok (.getfield 134, 3) := by decide +kernel
theorem dX11_ofStave_68 : decode cX11_ofStave 68 = .ok (.ireturn, 1) := by decide +kernel
theorem dX11_ofStave_69 : decode cX11_ofStave 69 = .ok (.aload_n 3, 1) := by decide +kernel
theorem dX11_ofStave_70 : decode cX11_ofStave 70 = .ok (.getfield 137, 3) := by decide +kernel
theorem dX11_ofStave_73 : decode cX11_ofStave 73 = .ok (.ireturn, 1) := by decide +kernel
theorem dX11_ofStave_74 : decode cX11_ofStave 74 = .ok (.aload_n 3, 1) := by decide +kernel
theorem dX11_ofStave_75 : decode cX11_ofStave 75 = .ok (.getfield 140, 3) := by decide +kernel
theorem dX11_ofStave_78 : decode cX11_ofStave 78 = .ok (.ireturn, 1) := by decide +kernel
theorem dX11_ofStave_79 : decode cX11_ofStave 79 = .ok (.aload_n 3, 1) := by decide +kernel
theorem dX11_ofStave_80 : decode cX11_ofStave 80 = .ok (.getfield 143, 3) := by decide +kernel
theorem dX11_ofStave_83 : decode cX11_ofStave 83 = .ok (.bipush 100, 2) := by decide +kernel
theorem dX11_ofStave_85 : decode cX11_ofStave 85 = .ok (.iadd, 1) := by decide +kernel
theorem dX11_ofStave_86 : decode cX11_ofStave 86 = .ok (.ireturn, 1) := by decide +kernel
theorem dX11_ofStave_87 : decode cX11_ofStave 87 = .ok (.aload_n 3, 1) := by decide +kernel
theorem dX11_ofStave_88 : decode cX11_ofStave 88 = .ok (.invokevirtual 146, 3) := by decide +kernel
theorem dX11_ofStave_91 : decode cX11_ofStave 91 = .ok (.ireturn, 1) := by decide +kernel
theorem dX11_ofStave_92 : decode cX11_ofStave 92 = .ok (.aload_n 3, 1) := by decide +kernel
theorem dX11_ofStave_93 : decode cX11_ofStave 93 = .ok (.invokevirtual 150, 3) := by decide +kernel
theorem dX11_ofStave_96 : decode cX11_ofStave 96 = .ok (.bipush 100, 2) := by decide +kernel
theorem dX11_ofStave_98 : decode cX11_ofStave 98 = .ok (.iadd, 1) := by decide +kernel
theorem dX11_ofStave_99 : decode cX11_ofStave 99 = .ok (.ireturn, 1) := by decide +kernel
theorem dX11_ofStave_100 : decode cX11_ofStave 100 = .ok (.aload_n 3, 1) := by decide +kernel
theorem dX11_ofStave_101 : decode cX11_ofStave 101 = .ok (.invokevirtual 153, 3) := by decide +kernel
theorem dX11_ofStave_104 : decode cX11_ofStave 104 = .ok (.ireturn, 1) := by decide +kernel
theorem dX11_ofStave_105 : decode cX11_ofStave 105 = .ok (.aload_n 3, 1) := by decide +kernel
theorem dX11_ofStave_106 : decode cX11_ofStave 106 = .ok (.invokevirtual 146, 3) := by decide +kernel
theorem dX11_ofStave_109 : decode cX11_ofStave 109 = .ok (.aload_n 0, 1) := by decide +kernel
theorem dX11_ofStave_110 : decode cX11_ofStave 110 = .ok (.getfield 12, 3) := by decide +kernel
theorem dX11_ofStave_113 : decode cX11_ofStave 113 = .ok (.getfield 114, 3) := by decide +kernel
theorem dX11_ofStave_116 : decode cX11_ofStave 116 = .ok (.iconst 0, 1) := by decide +kernel
theorem dX11_ofStave_117 : decode cX11_ofStave 117 = .ok (.iaload, 1) := by decide +kernel
theorem dX11_ofStave_118 : decode cX11_ofStave 118 = .ok (.invokestatic 156, 3) := by decide +kernel
theorem dX11_ofStave_121 : decode cX11_ofStave 121 = .ok (.ireturn, 1) := by decide +kernel
theorem dX11_ofStave_122 : decode cX11_ofStave 122 = .ok (.iconst (-1), 1) := by decide +kernel
theorem dX11_ofStave_123 : decode cX11_ofStave 123 = .ok (.ireturn, 1) := by decide +kernel
theorem dX11_takes_0 : decode cX11_takes 0 = .ok (.iload_n 1, 1) := by decide +kernel
theorem dX11_takes_1 : decode cX11_takes 1 = .ok (.tableswitch 51 0 2 #[27, 35, 43], 27) := by decide +kernel
theorem dX11_takes_28 : decode cX11_takes 28 = .ok (.aload_n 0, 1) := by decide +kernel
theorem dX11_takes_29 : decode cX11_takes 29 = .ok (.getfield 12, 3) := by decide +kernel
theorem dX11_takes_32 : decode cX11_takes 32 = .ok (.invokevirtual 160, 3) := by decide +kernel
theorem dX11_takes_35 : decode cX11_takes 35 = .ok (.ireturn, 1) := by decide +kernel
theorem dX11_takes_36 : decode cX11_takes 36 = .ok (.aload_n 0, 1) := by decide +kernel
theorem dX11_takes_37 : decode cX11_takes 37 = .ok (.getfield 12, 3) := by decide +kernel
theorem dX11_takes_40 : decode cX11_takes 40 = .ok (.invokevirtual 163, 3) := by decide +kernel
theorem dX11_takes_43 : decode cX11_takes 43 = .ok (.ireturn, 1) := by decide +kernel
theorem dX11_takes_44 : decode cX11_takes 44 = .ok (.aload_n 0, 1) := by decide +kernel
theorem dX11_takes_45 : decode cX11_takes 45 = .ok (.getfield 12, 3) := by decide +kernel
theorem dX11_takes_48 : decode cX11_takes 48 = .ok (.invokevirtual 166, 3) := by decide +kernel
theorem dX11_takes_51 : decode cX11_takes 51 = .ok (.ireturn, 1) := by decide +kernel
theorem dX11_takes_52 : decode cX11_takes 52 = .ok (.bipush (-2), 2) := by decide +kernel
theorem dX11_takes_54 : decode cX11_takes 54 = .ok (.ireturn, 1) := by decide +kernel
theorem dX11_shave_0 : decode cX11_shave 0 = .ok (.aload_n 0, 1) := by decide +kernel
theorem dX11_shave_1 : decode cX11_shave 1 = .ok (.getfield 12, 3) := by decide +kernel
theorem dX11_shave_4 : decode cX11_shave 4 = .ok (.iload_n 1, 1) := by decide +kernel
theorem dX11_shave_5 : decode cX11_shave 5 = .ok (.invokevirtual 130, 3) := by decide +kernel
theorem dX11_shave_8 : decode cX11_shave 8 = .ok (.astore_n 3, 1) := by decide +kernel
theorem dX11_shave_9 : decode cX11_shave 9 = .ok (.aload_n 3, 1) := by decide +kernel
theorem dX11_shave_10 : decode cX11_shave 10 = .ok (.ifnonnull 5, 3) := by decide +kernel
theorem dX11_shave_13 : decode cX11_shave 13 = .ok (.iconst (-1), 1) := by decide +kernel
theorem dX11_shave_14 : decode cX11_shave 14 = .ok (.ireturn, 1) := by decide +kernel
theorem dX11_shave_15 : decode cX11_shave 15 = .ok (.iload_n 2, 1) := by decide +kernel
theorem dX11_shave_16 : decode cX11_shave 16 = .ok (.iconst 1, 1) := by decide +kernel
theorem dX11_shave_17 : decode cX11_shave 17 = .ok (.aload_n 3, 1) := by decide +kernel
theorem dX11_shave_18 : decode cX11_shave 18 = .ok (.getfield 137, 3) := by decide +kernel
theorem dX11_shave_21 : decode cX11_shave 21 = .ok (.invokestatic 107, 3) := by decide +kernel
theorem dX11_shave_24 : decode cX11_shave 24 = .ok (.ifCond .ne 6, 3) := by decide +kernel
theorem dX11_shave_27 : decode cX11_shave 27 = .ok (.bipush (-2), 2) := by decide +kernel
theorem dX11_shave_29 : decode cX11_shave 29 = .ok (.ireturn, 1) := by decide +kernel
theorem dX11_shave_30 : decode cX11_shave 30 = .ok (.aload_n 3, 1) := by decide +kernel
theorem dX11_shave_31 : decode cX11_shave 31 = .ok (.getfield 137, 3) := by decide +kernel
theorem dX11_shave_34 : decode cX11_shave 34 = .ok (.istore 4, 2) := by decide +kernel
theorem dX11_shave_36 : decode cX11_shave 36 = .ok (.aload_n 3, 1) := by decide +kernel
theorem dX11_shave_37 : decode cX11_shave 37 = .ok (.iload_n 2, 1) := by decide +kernel
theorem dX11_shave_38 : decode cX11_shave 38 = .ok (.putfield 137, 3) := by decide +kernel
theorem dX11_shave_41 : decode cX11_shave 41 = .ok (.iload 4, 2) := by decide +kernel
theorem dX11_shave_43 : decode cX11_shave 43 = .ok (.ireturn, 1) := by decide +kernel
theorem dX11_fits_0 : decode cX11_fits 0 = .ok (.iload_n 1, 1) := by decide +kernel
theorem dX11_fits_1 : decode cX11_fits 1 = .ok (.iconst 0, 1) := by decide +kernel
theorem dX11_fits_2 : decode cX11_fits 2 = .ok (.iconst 3, 1) := by decide +kernel
theorem dX11_fits_3 : decode cX11_fits 3 = .ok (.invokestatic 107, 3) := by decide +kernel
theorem dX11_fits_6 : decode cX11_fits 6 = .ok (.ifCond .ne 6, 3) := by decide +kernel
theorem dX11_fits_9 : decode cX11_fits 9 = .ok (.bipush (-2), 2) := by decide +kernel
theorem dX11_fits_11 : decode cX11_fits 11 = .ok (.ireturn, 1) := by decide +kernel
theorem dX11_fits_12 : decode cX11_fits 12 = .ok (.aload_n 0, 1) := by decide +kernel
theorem dX11_fits_13 : decode cX11_fits 13 = .ok (.getfield 45, 3) := by decide +kernel
theorem dX11_fits_16 : decode cX11_fits 16 = .ok (.aload_n 0, 1) := by decide +kernel
theorem dX11_fits_17 : decode cX11_fits 17 = .ok (.getfield 12, 3) := by decide +kernel
theorem dX11_fits_20 : decode cX11_fits 20 = .ok (.invokevirtual 169, 3) := by decide +kernel
theorem dX11_fits_23 : decode cX11_fits 23 = .ok (.aload_n 0, 1) := by decide +kernel
theorem dX11_fits_24 : decode cX11_fits 24 = .ok (.getfield 12, 3) := by decide +kernel
theorem dX11_fits_27 : decode cX11_fits 27 = .ok (.getfield 114, 3) := by decide +kernel
theorem dX11_fits_30 : decode cX11_fits 30 = .ok (.iconst 0, 1) := by decide +kernel
theorem dX11_fits_31 : decode cX11_fits 31 = .ok (.iaload, 1) := by decide +kernel
theorem dX11_fits_32 : decode cX11_fits 32 = .ok (.istore_n 2, 1) := by decide +kernel
theorem dX11_fits_33 : decode cX11_fits 33 = .ok (.iload_n 2, 1) := by decide +kernel
theorem dX11_fits_34 : decode cX11_fits 34 = .ok (.aload_n 0, 1) := by decide +kernel
theorem dX11_fits_35 : decode cX11_fits 35 = .ok (.getfield 12, 3) := by decide +kernel
theorem dX11_fits_38 : decode cX11_fits 38 = .ok (.getfield 114, 3) := by decide +kernel
theorem dX11_fits_41 : decode cX11_fits 41 = .ok (.iconst 1, 1) := by decide +kernel
theorem dX11_fits_42 : decode cX11_fits 42 = .ok (.iaload, 1) := by decide +kernel
theorem dX11_fits_43 : decode cX11_fits 43 = .ok (.iadd, 1) := by decide +kernel
theorem dX11_fits_44 : decode cX11_fits 44 = .ok (.istore_n 3, 1) := by decide +kernel
theorem dX11_fits_45 : decode cX11_fits 45 = .ok (.iload_n 1, 1) := by decide +kernel
theorem dX11_fits_46 : decode cX11_fits 46 = .ok (.ifCond .ne 13, 3) := by decide +kernel
theorem dX11_fits_49 : decode cX11_fits 49 = .ok (.aload_n 0, 1) := by decide +kernel
theorem dX11_fits_50 : decode cX11_fits 50 = .ok (.getfield 45, 3) := by decide +kernel
theorem dX11_fits_53 : decode cX11_fits 53 = .ok (.iload_n 2, 1) := by decide +kernel
theorem dX11_fits_54 : decode cX11_fits 54 = .ok (.iload_n 3, 1) := by decide +kernel
theorem dX11_fits_55 : decode cX11_fits 55 = .ok (.invokevirtual 173, 3) := by decide +kernel
theorem dX11_fits_58 : decode cX11_fits 58 = .ok (.ireturn, 1) := by decide +kernel
theorem dX11_fits_59 : decode cX11_fits 59 = .ok (.aload_n 0, 1) := by decide +kernel
theorem dX11_fits_60 : decode cX11_fits 60 = .ok (.getfield 45, 3) := by decide +kernel
theorem dX11_fits_63 : decode cX11_fits 63 = .ok (.iload_n 2, 1) := by decide +kernel
theorem dX11_fits_64 : decode cX11_fits 64 = .ok (.iload_n 3, 1) := by decide +kernel
theorem dX11_fits_65 : decode cX11_fits 65 = .ok (.invokevirtual 176, 3) := by decide +kernel
theorem dX11_fits_68 : decode cX11_fits 68 = .ok (.istore 4, 2) := by decide +kernel
theorem dX11_fits_70 : decode cX11_fits 70 = .ok (.iload 4, 2) := by decide +kernel
theorem dX11_fits_72 : decode cX11_fits 72 = .ok (.bipush (-5), 2) := by decide +kernel
theorem dX11_fits_74 : decode cX11_fits 74 = .ok (.if_icmp .eq 8, 3) := by decide +kernel
theorem dX11_fits_77 : decode cX11_fits 77 = .ok (.iload_n 1, 1) := by decide +kernel
theorem dX11_fits_78 : decode cX11_fits 78 = .ok (.iconst 1, 1) := by decide +kernel
theorem dX11_fits_79 : decode cX11_fits 79 = .ok (.if_icmp .ne 6, 3) := by decide +kernel
theorem dX11_fits_82 : decode cX11_fits 82 = .ok (.iload 4, 2) := by decide +kernel
theorem dX11_fits_84 : decode cX11_fits 84 = .ok (.ireturn, 1) := by decide +kernel
theorem dX11_fits_85 : decode cX11_fits 85 = .ok (.iload_n 1, 1) := by decide +kernel
theorem dX11_fits_86 : decode cX11_fits 86 = .ok (.iconst 2, 1) := by decide +kernel
theorem dX11_fits_87 : decode cX11_fits 87 = .ok (.if_icmp .ne 16, 3) := by decide +kernel
theorem dX11_fits_90 : decode cX11_fits 90 = .ok (.aload_n 0, 1) := by decide +kernel
theorem dX11_fits_91 : decode cX11_fits 91 = .ok (.getfield 45, 3) := by decide +kernel
theorem dX11_fits_94 : decode cX11_fits 94 = .ok (.getfield 179, 3) := by decide +kernel
theorem dX11_fits_97 : decode cX11_fits 97 = .ok (.iload 4, 2) := by decide +kernel
theorem dX11_fits_99 : decode cX11_fits 99 = .ok (.iaload, 1) := by decide +kernel
theorem dX11_fits_100 : decode cX11_fits 100 = .ok (.goto 13, 3) := by decide +kernel
theorem dX11_fits_103 : decode cX11_fits 103 = .ok (.aload_n 0, 1) := by decide +kernel
theorem dX11_fits_104 : decode cX11_fits 104 = .ok (.getfield 45, 3) := by decide +kernel
theorem dX11_fits_107 : decode cX11_fits 107 = .ok (.getfield 181, 3) := by decide +kernel
theorem dX11_fits_110 : decode cX11_fits 110 = .ok (.iload 4, 2) := by decide +kernel
theorem dX11_fits_112 : decode cX11_fits 112 = .ok (.iaload, 1) := by decide +kernel
theorem dX11_fits_113 : decode cX11_fits 113 = .ok (.ireturn, 1) := by decide +kernel
theorem dX11_sums_0 : decode cX11_sums 0 = .ok (.iload_n 1, 1) := by decide +kernel
theorem dX11_sums_1 : decode cX11_sums 1 = .ok (.iconst 0, 1) := by decide +kernel
theorem dX11_sums_2 : decode cX11_sums 2 = .ok (.sipush 999, 3) := by decide +kernel
theorem dX11_sums_5 : decode cX11_sums 5 = .ok (.invokestatic 107, 3) := by decide +kernel
theorem dX11_sums_8 : decode cX11_sums 8 = .ok (.ifCond .ne 6, 3) := by decide +kernel
theorem dX11_sums_11 : decode cX11_sums 11 = .ok (.bipush (-2), 2) := by decide +kernel
theorem dX11_sums_13 : decode cX11_sums 13 = .ok (.ireturn, 1) := by decide +kernel
theorem dX11_sums_14 : decode cX11_sums 14 = .ok (.aload_n 0, 1) := by decide +kernel
theorem dX11_sums_15 : decode cX11_sums 15 = .ok (.getfield 45, 3) := by decide +kernel
theorem dX11_sums_18 : decode cX11_sums 18 = .ok (.aload_n 0, 1) := by decide +kernel
theorem dX11_sums_19 : decode cX11_sums 19 = .ok (.getfield 12, 3) := by decide +kernel
theorem dX11_sums_22 : decode cX11_sums 22 = .ok (.invokevirtual 169, 3) := by decide +kernel
theorem dX11_sums_25 : decode cX11_sums 25 = .ok (.aload_n 0, 1) := by decide +kernel
theorem dX11_sums_26 : decode cX11_sums 26 = .ok (.getfield 45, 3) := by decide +kernel
theorem dX11_sums_29 : decode cX11_sums 29 = .ok (.iload_n 1, 1) := by decide +kernel
theorem dX11_sums_30 : decode cX11_sums 30 = .ok (.iload_n 1, 1) := by decide +kernel
theorem dX11_sums_31 : decode cX11_sums 31 = .ok (.invokevirtual 173, 3) := by decide +kernel
theorem dX11_sums_34 : decode cX11_sums 34 = .ok (.ireturn, 1) := by decide +kernel
theorem dX11_nearest_0 : decode cX11_nearest 0 = .ok (.iload_n 1, 1) := by decide +kernel
theorem dX11_nearest_1 : decode cX11_nearest 1 = .ok (.iconst 0, 1) := by decide +kernel
theorem dX11_nearest_2 : decode cX11_nearest 2 = .ok (.sipush 999, 3) := by decide +kernel
theorem dX11_nearest_5 : decode cX11_nearest 5 = .ok (.invokestatic 107, 3) := by decide +kernel
theorem dX11_nearest_8 : decode cX11_nearest 8 = .ok (.ifCond .ne 6, 3) := by decide +kernel
theorem dX11_nearest_11 : decode cX11_nearest 11 = .ok (.bipush (-2), 2) := by decide +kernel
theorem dX11_nearest_13 : decode cX11_nearest 13 = .ok (.ireturn, 1) := by decide +kernel
theorem dX11_nearest_14 : decode cX11_nearest 14 = .ok (.aload_n 0, 1) := by decide +kernel
theorem dX11_nearest_15 : decode cX11_nearest 15 = .ok (.getfield 12, 3) := by decide +kernel
theorem dX11_nearest_18 : decode cX11_nearest 18 = .ok (.getfield 118, 3) := by decide +kernel
theorem dX11_nearest_21 : decode cX11_nearest 21 = .ok (.ifCond .ne 6, 3) := by decide +kernel
theorem dX11_nearest_24 : decode cX11_nearest 24 = .ok (.bipush (-3), 2) := by decide +kernel
theorem dX11_nearest_26 : decode cX11_nearest 26 = .ok (.ireturn, 1) := by decide +kernel
theorem dX11_nearest_27 : decode cX11_nearest 27 = .ok (.aload_n 0, 1) := by decide +kernel
theorem dX11_nearest_28 : decode cX11_nearest 28 = .ok (.getfield 45, 3) := by decide +kernel
theorem dX11_nearest_31 : decode cX11_nearest 31 = .ok (.aload_n 0, 1) := by decide +kernel
theorem dX11_nearest_32 : decode cX11_nearest 32 = .ok (.getfield 12, 3) := by decide +kernel
theorem dX11_nearest_35 : decode cX11_nearest 35 = .ok (.invokevirtual 169, 3) := by decide +kernel
theorem dX11_nearest_38 : decode cX11_nearest 38 = .ok (.aload_n 0, 1) := by decide +kernel
theorem dX11_nearest_39 : decode cX11_nearest 39 = .ok (.getfield 45, 3) := by decide +kernel
theorem dX11_nearest_42 : decode cX11_nearest 42 = .ok (.iload_n 1, 1) := by decide +kernel
theorem dX11_nearest_43 : decode cX11_nearest 43 = .ok (.invokevirtual 184, 3) := by decide +kernel
theorem dX11_nearest_46 : decode cX11_nearest 46 = .ok (.ireturn, 1) := by decide +kernel
theorem dX11_least_0 : decode cX11_least 0 = .ok (.aload_n 0, 1) := by decide +kernel
theorem dX11_least_1 : decode cX11_least 1 = .ok (.iload_n 1, 1) := by decide +kernel
theorem dX11_least_2 : decode cX11_least 2 = .ok (.invokevirtual 188, 3) := by decide +kernel
theorem dX11_least_5 : decode cX11_least 5 = .ok (.ifCond .eq 19, 3) := by decide +kernel
theorem dX11_least_8 : decode cX11_least 8 = .ok (.iload_n 2, 1) := by decide +kernel
theorem dX11_least_9 : decode cX11_least 9 = .ok (.invokestatic 191, 3) := by decide +kernel
theorem dX11_least_12 : decode cX11_least 12 = .ok (.ifCond .eq 12, 3) := by decide +kernel
theorem dX11_least_15 : decode cX11_least 15 = .ok (.iload_n 3, 1) := by decide +kernel
theorem dX11_least_16 : decode cX11_least 16 = .ok (.iconst 0, 1) := by decide +kernel
theorem dX11_least_17 : decode cX11_least 17 = .ok (.iconst 1, 1) := by decide +kernel
theorem dX11_least_18 : decode cX11_least 18 = .ok (.invokestatic 107, 3) := by decide +kernel
theorem dX11_least_21 : decode cX11_least 21 = .ok (.ifCond .ne 6, 3) := by decide +kernel
theorem dX11_least_24 : decode cX11_least 24 = .ok (.bipush (-2), 2) := by decide +kernel
theorem dX11_least_26 : decode cX11_least 26 = .ok (.ireturn, 1) := by decide +kernel
theorem dX11_least_27 : decode cX11_least 27 = .ok (.aload_n 0, 1) := by decide +kernel
theorem dX11_least_28 : decode cX11_least 28 = .ok (.getfield 52, 3) := by decide +kernel
theorem dX11_least_31 : decode cX11_least 31 = .ok (.aload_n 0, 1) := by decide +kernel
theorem dX11_least_32 : decode cX11_least 32 = .ok (.getfield 12, 3) := by decide +kernel
theorem dX11_least_35 : decode cX11_least 35 = .ok (.iload_n 1, 1) := by decide +kernel
theorem dX11_least_36 : decode cX11_least 36 = .ok (.iload_n 2, 1) := by decide +kernel
theorem dX11_least_37 : decode cX11_least 37 = .ok (.invokevirtual 194, 3) := by decide +kernel
theorem dX11_least_40 : decode cX11_least 40 = .ok (.iload_n 3, 1) := by decide +kernel
theorem dX11_least_41 : decode cX11_least 41 = .ok (.ifCond .ne 14, 3) := by decide +kernel
theorem dX11_least_44 : decode cX11_least 44 = .ok (.aload_n 0, 1) := by decide +kernel
theorem dX11_least_45 : decode cX11_least 45 = .ok (.getfield 52, 3) := by decide +kernel
theorem dX11_least_48 : decode cX11_least 48 = .ok (.iload_n 2, 1) := by decide +kernel
theorem dX11_least_49 : decode cX11_least 49 = .ok (.invokevirtual 198, 3) := by decide +kernel
theorem dX11_least_52 : decode cX11_least 52 = .ok (.goto 10, 3) := by decide +kernel
theorem dX11_least_55 : decode cX11_least 55 = .ok (.aload_n 0, 1) := by decide +kernel
theorem dX11_least_56 : decode cX11_least 56 = .ok (.getfield 52, 3) := by decide +kernel
theorem dX11_least_59 : decode cX11_least 59 = .ok (.invokevirtual 201, 3) := by decide +kernel
theorem dX11_least_62 : decode cX11_least 62 = .ok (.ireturn, 1) := by decide +kernel
theorem dX11_leak_0 : decode cX11_leak 0 = .ok (.iload_n 2, 1) := by decide +kernel
theorem dX11_leak_1 : decode cX11_leak 1 = .ok (.invokestatic 191, 3) := by decide +kernel
theorem dX11_leak_4 : decode cX11_leak 4 = .ok (.ifCond .eq 18, 3) := by decide +kernel
theorem dX11_leak_7 : decode cX11_leak 7 = .ok (.aload_n 0, 1) := by decide +kernel
theorem dX11_leak_8 : decode cX11_leak 8 = .ok (.getfield 52, 3) := by decide +kernel
theorem dX11_leak_11 : decode cX11_leak 11 = .ok (.aload_n 0, 1) := by decide +kernel
theorem dX11_leak_12 : decode cX11_leak 12 = .ok (.getfield 12, 3) := by decide +kernel
theorem dX11_leak_15 : decode cX11_leak 15 = .ok (.iload_n 1, 1) := by decide +kernel
theorem dX11_leak_16 : decode cX11_leak 16 = .ok (.invokevirtual 204, 3) := by decide +kernel
theorem dX11_leak_19 : decode cX11_leak 19 = .ok (.ifCond .ne 6, 3) := by decide +kernel
theorem dX11_leak_22 : decode cX11_leak 22 = .ok (.bipush (-2), 2) := by decide +kernel
theorem dX11_leak_24 : decode cX11_leak 24 = .ok (.ireturn, 1) := by decide +kernel
theorem dX11_leak_25 : decode cX11_leak 25 = .ok (.aload_n 0, 1) := by decide +kernel
theorem dX11_leak_26 : decode cX11_leak 26 = .ok (.getfield 52, 3) := by decide +kernel
theorem dX11_leak_29 : decode cX11_leak 29 = .ok (.iload_n 2, 1) := by decide +kernel
theorem dX11_leak_30 : decode cX11_leak 30 = .ok (.invokevirtual 198, 3) := by decide +kernel
theorem dX11_leak_33 : decode cX11_leak 33 = .ok (.ireturn, 1) := by decide +kernel
theorem dX11_worst_0 : decode cX11_worst 0 = .ok (.iload_n 3, 1) := by decide +kernel
theorem dX11_worst_1 : decode cX11_worst 1 = .ok (.iconst 0, 1) := by decide +kernel
theorem dX11_worst_2 : decode cX11_worst 2 = .ok (.iconst 1, 1) := by decide +kernel
theorem dX11_worst_3 : decode cX11_worst 3 = .ok (.invokestatic 107, 3) := by decide +kernel
theorem dX11_worst_6 : decode cX11_worst 6 = .ok (.ifCond .eq 18, 3) := by decide +kernel
theorem dX11_worst_9 : decode cX11_worst 9 = .ok (.aload_n 0, 1) := by decide +kernel
theorem dX11_worst_10 : decode cX11_worst 10 = .ok (.getfield 52, 3) := by decide +kernel
theorem dX11_worst_13 : decode cX11_worst 13 = .ok (.aload_n 0, 1) := by decide +kernel
theorem dX11_worst_14 : decode cX11_worst 14 = .ok (.getfield 12, 3) := by decide +kernel
theorem dX11_worst_17 : decode cX11_worst 17 = .ok (.iload_n 1, 1) := by decide +kernel
theorem dX11_worst_18 : decode cX11_worst 18 = .ok (.invokevirtual 204, 3) := by decide +kernel
theorem dX11_worst_21 : decode cX11_worst 21 = .ok (.ifCond .ne 6, 3) := by decide +kernel
theorem dX11_worst_24 : decode cX11_worst 24 = .ok (.bipush (-2), 2) := by decide +kernel
theorem dX11_worst_26 : decode cX11_worst 26 = .ok (.ireturn, 1) := by decide +kernel
theorem dX11_worst_27 : decode cX11_worst 27 = .ok (.aload_n 0, 1) := by decide +kernel
theorem dX11_worst_28 : decode cX11_worst 28 = .ok (.getfield 52, 3) := by decide +kernel
theorem dX11_worst_31 : decode cX11_worst 31 = .ok (.iload_n 2, 1) := by decide +kernel
theorem dX11_worst_32 : decode cX11_worst 32 = .ok (.invokevirtual 208, 3) := by decide +kernel
theorem dX11_worst_35 : decode cX11_worst 35 = .ok (.istore 4, 2) := by decide +kernel
theorem dX11_worst_37 : decode cX11_worst 37 = .ok (.iload 4, 2) := by decide +kernel
theorem dX11_worst_39 : decode cX11_worst 39 = .ok (.iconst (-1), 1) := by decide +kernel
theorem dX11_worst_40 : decode cX11_worst 40 = .ok (.if_icmp .ne 5, 3) := by decide +kernel
theorem dX11_worst_43 : decode cX11_worst 43 = .ok (.iconst (-1), 1) := by decide +kernel
theorem dX11_worst_44 : decode cX11_worst 44 = .ok (.ireturn, 1) := by decide +kernel
theorem dX11_worst_45 : decode cX11_worst 45 = .ok (.iload_n 3, 1) := by decide +kernel
theorem dX11_worst_46 : decode cX11_worst 46 = .ok (.ifCond .ne 8, 3) := by decide +kernel
theorem dX11_worst_49 : decode cX11_worst 49 = .ok (.iload 4, 2) := by decide +kernel
theorem dX11_worst_51 : decode cX11_worst 51 = .ok (.goto 13, 3) := by decide +kernel
theorem dX11_worst_54 : decode cX11_worst 54 = .ok (.aload_n 0, 1) := by decide +kernel
theorem dX11_worst_55 : decode cX11_worst 55 = .ok (.getfield 52, 3) := by decide +kernel
theorem dX11_worst_58 : decode cX11_worst 58 = .ok (.getfield 211, 3) := by decide +kernel
theorem dX11_worst_61 : decode cX11_worst 61 = .ok (.iload 4, 2) := by decide +kernel
theorem dX11_worst_63 : decode cX11_worst 63 = .ok (.iaload, 1) := by decide +kernel
theorem dX11_worst_64 : decode cX11_worst 64 = .ok (.ireturn, 1) := by decide +kernel
theorem dX11_rings_0 : decode cX11_rings 0 = .ok (.aload_n 0, 1) := by decide +kernel
theorem dX11_rings_1 : decode cX11_rings 1 = .ok (.iload_n 1, 1) := by decide +kernel
theorem dX11_rings_2 : decode cX11_rings 2 = .ok (.invokevirtual 188, 3) := by decide +kernel
theorem dX11_rings_5 : decode cX11_rings 5 = .ok (.ifCond .eq 21, 3) := by decide +kernel
theorem dX11_rings_8 : decode cX11_rings 8 = .ok (.iload_n 2, 1) := by decide +kernel
theorem dX11_rings_9 : decode cX11_rings 9 = .ok (.invokestatic 191, 3) := by decide +kernel
theorem dX11_rings_12 : decode cX11_rings 12 = .ok (.ifCond .eq 14, 3) := by decide +kernel
theorem dX11_rings_15 : decode cX11_rings 15 = .ok (.iload_n 3, 1) := by decide +kernel
theorem dX11_rings_16 : decode cX11_rings 16 = .ok (.iconst 0, 1) := by decide +kernel
theorem dX11_rings_17 : decode cX11_rings 17 = .ok (.sipush 9999, 3) := by decide +kernel
theorem dX11_rings_20 : decode cX11_rings 20 = .ok (.invokestatic 107, 3) := by decide +kernel
theorem dX11_rings_23 : decode cX11_rings 23 = .ok (.ifCond .ne 6, 3) := by decide +kernel
theorem dX11_rings_26 : decode cX11_rings 26 = .ok (.bipush (-2), 2) := by decide +kernel
theorem dX11_rings_28 : decode cX11_rings 28 = .ok (.ireturn, 1) := by decide +kernel
theorem dX11_rings_29 : decode cX11_rings 29 = .ok (.aload_n 0, 1) := by decide +kernel
theorem dX11_rings_30 : decode cX11_rings 30 = .ok (.getfield 52, 3) := by decide +kernel
theorem dX11_rings_33 : decode cX11_rings 33 = .ok (.aload_n 0, 1) := by decide +kernel
theorem dX11_rings_34 : decode cX11_rings 34 = .ok (.getfield 12, 3) := by decide +kernel
theorem dX11_rings_37 : decode cX11_rings 37 = .ok (.iload_n 1, 1) := by decide +kernel
theorem dX11_rings_38 : decode cX11_rings 38 = .ok (.iload_n 2, 1) := by decide +kernel
theorem dX11_rings_39 : decode cX11_rings 39 = .ok (.iload_n 3, 1) := by decide +kernel
theorem dX11_rings_40 : decode cX11_rings 40 = .ok (.invokevirtual 214, 3) := by decide +kernel
theorem dX11_rings_43 : decode cX11_rings 43 = .ok (.ireturn, 1) := by decide +kernel
theorem dX11_girth_0 : decode cX11_girth 0 = .ok (.iload_n 1, 1) := by decide +kernel
theorem dX11_girth_1 : decode cX11_girth 1 = .ok (.invokestatic 218, 3) := by decide +kernel
theorem dX11_girth_4 : decode cX11_girth 4 = .ok (.ifCond .eq 14, 3) := by decide +kernel
theorem dX11_girth_7 : decode cX11_girth 7 = .ok (.aload_n 0, 1) := by decide +kernel
theorem dX11_girth_8 : decode cX11_girth 8 = .ok (.getfield 12, 3) := by decide +kernel
theorem dX11_girth_11 : decode cX11_girth 11 = .ok (.iload_n 1, 1) := by decide +kernel
theorem dX11_girth_12 : decode cX11_girth 12 = .ok (.invokestatic 221, 3) := by decide +kernel
theorem dX11_girth_15 : decode cX11_girth 15 = .ok (.goto 4, 3) := by decide +kernel
theorem dX11_girth_18 : decode cX11_girth 18 = .ok (.iconst (-1), 1) := by decide +kernel
theorem dX11_girth_19 : decode cX11_girth 19 = .ok (.ireturn, 1) := by decide +kernel
theorem dX11_ofHoop_0 : decode cX11_ofHoop 0 = .ok (.aload_n 0, 1) := by decide +kernel
theorem dX11_ofHoop_1 : decode cX11_ofHoop 1 = .ok (.getfield 12, 3) := by decide +kernel
theorem dX11_ofHoop_4 : decode cX11_ofHoop 4 = .ok (.iload_n 1, 1) := by decide +kernel
theorem dX11_ofHoop_5 : decode cX11_ofHoop 5 = .ok (.invokevirtual 225, 3) := by decide +kernel
theorem dX11_ofHoop_8 : decode cX11_ofHoop 8 = .ok (.astore_n 3, 1) := by decide +kernel
theorem dX11_ofHoop_9 : decode cX11_ofHoop 9 = .ok (.aload_n 3, 1) := by decide +kernel
theorem dX11_ofHoop_10 : decode cX11_ofHoop 10 = .ok (.ifnonnull 5, 3) := by decide +kernel
theorem dX11_ofHoop_13 : decode cX11_ofHoop 13 = .ok (.iconst (-1), 1) := by decide +kernel
theorem dX11_ofHoop_14 : decode cX11_ofHoop 14 = .ok (.ireturn, 1) := by decide +kernel
theorem dX11_ofHoop_15 : decode cX11_ofHoop 15 = .ok (.iload_n 2, 1) := by decide +kernel
theorem dX11_ofHoop_16 : decode cX11_ofHoop 16 = .ok (.tableswitch 63 0 5 #[40, 45, 50, 55, 55, 55], 40) := by decide +kernel
theorem dX11_ofHoop_56 : decode cX11_ofHoop 56 = .ok (.aload_n 3, 1) := by decide +kernel
theorem dX11_ofHoop_57 : decode cX11_ofHoop 57 = .ok (.getfield 229, 3) := by decide +kernel
theorem dX11_ofHoop_60 : decode cX11_ofHoop 60 = .ok (.ireturn, 1) := by decide +kernel
theorem dX11_ofHoop_61 : decode cX11_ofHoop 61 = .ok (.aload_n 3, 1) := by decide +kernel
theorem dX11_ofHoop_62 : decode cX11_ofHoop 62 = .ok (.getfield 230, 3) := by decide +kernel
theorem dX11_ofHoop_65 : decode cX11_ofHoop 65 = .ok (.ireturn, 1) := by decide +kernel
theorem dX11_ofHoop_66 : decode cX11_ofHoop 66 = .ok (.aload_n 3, 1) := by decide +kernel
theorem dX11_ofHoop_67 : decode cX11_ofHoop 67 = .ok (.getfield 231, 3) := by decide +kernel
theorem dX11_ofHoop_70 : decode cX11_ofHoop 70 = .ok (.ireturn, 1) := by decide +kernel
theorem dX11_ofHoop_71 : decode cX11_ofHoop 71 = .ok (.aload_n 0, 1) := by decide +kernel
theorem dX11_ofHoop_72 : decode cX11_ofHoop 72 = .ok (.aload_n 3, 1) := by decide +kernel
theorem dX11_ofHoop_73 : decode cX11_ofHoop 73 = .ok (.iload_n 1, 1) := by decide +kernel
theorem dX11_ofHoop_74 : decode cX11_ofHoop 74 = .ok (.iload_n 2, 1) := by decide +kernel
theorem dX11_ofHoop_75 : decode cX11_ofHoop 75 = .ok (.invokevirtual 234, 3) := by decide +kernel
theorem dX11_ofHoop_78 : decode cX11_ofHoop 78 = .ok (.ireturn, 1) := by decide +kernel
theorem dX11_ofHoop_79 : decode cX11_ofHoop 79 = .ok (.iconst (-1), 1) := by decide +kernel
theorem dX11_ofHoop_80 : decode cX11_ofHoop 80 = .ok (.ireturn, 1) := by decide +kernel
theorem dX11_press_0 : decode cX11_press 0 = .ok (.iload_n 1, 1) := by decide +kernel
theorem dX11_press_1 : decode cX11_press 1 = .ok (.invokestatic 218, 3) := by decide +kernel
theorem dX11_press_4 : decode cX11_press 4 = .ok (.ifCond .ne 5, 3) := by decide +kernel
theorem dX11_press_7 : decode cX11_press 7 = .ok (.iconst (-1), 1) := by decide +kernel
theorem dX11_press_8 : decode cX11_press 8 = .ok (.ireturn, 1) := by decide +kernel
theorem dX11_press_9 : decode cX11_press 9 = .ok (.aload_n 0, 1) := by decide +kernel
theorem dX11_press_10 : decode cX11_press 10 = .ok (.getfield 59, 3) := by decide +kernel
theorem dX11_press_13 : decode cX11_press 13 = .ok (.aload_n 0, 1) := by decide +kernel
theorem dX11_press_14 : decode cX11_press 14 = .ok (.getfield 12, 3) := by decide +kernel
theorem dX11_press_17 : decode cX11_press 17 = .ok (.invokevirtual 238, 3) := by decide +kernel
theorem dX11_press_20 : decode cX11_press 20 = .ok (.aload_n 0, 1) := by decide +kernel
theorem dX11_press_21 : decode cX11_press 21 = .ok (.getfield 59, 3) := by decide +kernel
theorem dX11_press_24 : decode cX11_press 24 = .ok (.getfield 241, 3) := by decide +kernel
theorem dX11_press_27 : decode cX11_press 27 = .ok (.iload_n 1, 1) := by decide +kernel
theorem dX11_press_28 : decode cX11_press 28 = .ok (.iaload, 1) := by decide +kernel
theorem dX11_press_29 : decode cX11_press 29 = .ok (.invokestatic 244, 3) := by decide +kernel
theorem dX11_press_32 : decode cX11_press 32 = .ok (.ireturn, 1) := by decide +kernel
theorem dX11_wet_0 : decode cX11_wet 0 = .ok (.aload_n 0, 1) := by decide +kernel
theorem dX11_wet_1 : decode cX11_wet 1 = .ok (.iload_n 1, 1) := by decide +kernel
theorem dX11_wet_2 : decode cX11_wet 2 = .ok (.invokevirtual 188, 3) := by decide +kernel
theorem dX11_wet_5 : decode cX11_wet 5 = .ok (.ifCond .ne 6, 3) := by decide +kernel
theorem dX11_wet_8 : decode cX11_wet 8 = .ok (.bipush (-2), 2) := by decide +kernel
theorem dX11_wet_10 : decode cX11_wet 10 = .ok (.ireturn, 1) := by decide +kernel
theorem dX11_wet_11 : decode cX11_wet 11 = .ok (.aload_n 0, 1) := by decide +kernel
theorem dX11_wet_12 : decode cX11_wet 12 = .ok (.getfield 59, 3) := by decide +kernel
theorem dX11_wet_15 : decode cX11_wet 15 = .ok (.aload_n 0, 1) := by decide +kernel
theorem dX11_wet_16 : decode cX11_wet 16 = .ok (.getfield 12, 3) := by decide +kernel
theorem dX11_wet_19 : decode cX11_wet 19 = .ok (.invokevirtual 238, 3) := by decide +kernel
theorem dX11_wet_22 : decode cX11_wet 22 = .ok (.aload_n 0, 1) := by decide +kernel
theorem dX11_wet_23 : decode cX11_wet 23 = .ok (.getfield 59, 3) := by decide +kernel
theorem dX11_wet_26 : decode cX11_wet 26 = .ok (.aload_n 0, 1) := by decide +kernel
theorem dX11_wet_27 : decode cX11_wet 27 = .ok (.getfield 52, 3) := by decide +kernel
theorem dX11_wet_30 : decode cX11_wet 30 = .ok (.aload_n 0, 1) := by decide +kernel
theorem dX11_wet_31 : decode cX11_wet 31 = .ok (.getfield 12, 3) := by decide +kernel
theorem dX11_wet_34 : decode cX11_wet 34 = .ok (.iload_n 1, 1) := by decide +kernel
theorem dX11_wet_35 : decode cX11_wet 35 = .ok (.invokevirtual 247, 3) := by decide +kernel
theorem dX11_wet_38 : decode cX11_wet 38 = .ok (.invokevirtual 250, 3) := by decide +kernel
theorem dX11_wet_41 : decode cX11_wet 41 = .ok (.ireturn, 1) := by decide +kernel
theorem dX11_driest_0 : decode cX11_driest 0 = .ok (.aload_n 0, 1) := by decide +kernel
theorem dX11_driest_1 : decode cX11_driest 1 = .ok (.iload_n 1, 1) := by decide +kernel
theorem dX11_driest_2 : decode cX11_driest 2 = .ok (.invokevirtual 188, 3) := by decide +kernel
theorem dX11_driest_5 : decode cX11_driest 5 = .ok (.ifCond .eq 14, 3) := by decide +kernel
theorem dX11_driest_8 : decode cX11_driest 8 = .ok (.iload_n 2, 1) := by decide +kernel
theorem dX11_driest_9 : decode cX11_driest 9 = .ok (.iconst 1, 1) := by decide +kernel
theorem dX11_driest_10 : decode cX11_driest 10 = .ok (.sipush 600, 3) := by decide +kernel
theorem dX11_driest_13 : decode cX11_driest 13 = .ok (.invokestatic 107, 3) := by decide +kernel
theorem dX11_driest_16 : decode cX11_driest 16 = .ok (.ifCond .ne 6, 3) := by decide +kernel
theorem dX11_driest_19 : decode cX11_driest 19 = .ok (.bipush (-2), 2) := by decide +kernel
theorem dX11_driest_21 : decode cX11_driest 21 = .ok (.ireturn, 1) := by decide +kernel
theorem dX11_driest_22 : decode cX11_driest 22 = .ok (.aload_n 0, 1) := by decide +kernel
theorem dX11_driest_23 : decode cX11_driest 23 = .ok (.getfield 12, 3) := by decide +kernel
theorem dX11_driest_26 : decode cX11_driest 26 = .ok (.getfield 121, 3) := by decide +kernel
