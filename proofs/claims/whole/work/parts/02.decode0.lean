theorem dX0_init_0 : decode cX0_init 0 = .ok (.aload_n 0, 1) := by decide +kernel
theorem dX0_init_1 : decode cX0_init 1 = .ok (.invokespecial 1, 3) := by decide +kernel
theorem dX0_init_4 : decode cX0_init 4 = .ok (.aload_n 0, 1) := by decide +kernel
theorem dX0_init_5 : decode cX0_init 5 = .ok (.iload_n 1, 1) := by decide +kernel
theorem dX0_init_6 : decode cX0_init 6 = .ok (.putfield 7, 3) := by decide +kernel
theorem dX0_init_9 : decode cX0_init 9 = .ok (.return_, 1) := by decide +kernel
theorem dX0_canBe_0 : decode cX0_canBe 0 = .ok (.iload_n 0, 1) := by decide +kernel
theorem dX0_canBe_1 : decode cX0_canBe 1 = .ok (.iconst 1, 1) := by decide +kernel
theorem dX0_canBe_2 : decode cX0_canBe 2 = .ok (.bipush 99, 2) := by decide +kernel
theorem dX0_canBe_4 : decode cX0_canBe 4 = .ok (.invokestatic 13, 3) := by decide +kernel
theorem dX0_canBe_7 : decode cX0_canBe 7 = .ok (.ireturn, 1) := by decide +kernel
theorem dX0_toldAs_0 : decode cX0_toldAs 0 = .ok (.iconst 3, 1) := by decide +kernel
theorem dX0_toldAs_1 : decode cX0_toldAs 1 = .ok (.ireturn, 1) := by decide +kernel
theorem dX1_init_0 : decode cX1_init 0 = .ok (.aload_n 0, 1) := by decide +kernel
theorem dX1_init_1 : decode cX1_init 1 = .ok (.invokespecial 3, 3) := by decide +kernel
theorem dX1_init_4 : decode cX1_init 4 = .ok (.aload_n 0, 1) := by decide +kernel
theorem dX1_init_5 : decode cX1_init 5 = .ok (.bipush 6, 2) := by decide +kernel
theorem dX1_init_7 : decode cX1_init 7 = .ok (.newarray .int, 2) := by decide +kernel
theorem dX1_init_9 : decode cX1_init 9 = .ok (.putfield 9, 3) := by decide +kernel
theorem dX1_init_12 : decode cX1_init 12 = .ok (.aload_n 0, 1) := by decide +kernel
theorem dX1_init_13 : decode cX1_init 13 = .ok (.bipush 9, 2) := by decide +kernel
theorem dX1_init_15 : decode cX1_init 15 = .ok (.newarray .int, 2) := by decide +kernel
theorem dX1_init_17 : decode cX1_init 17 = .ok (.putfield 15, 3) := by decide +kernel
theorem dX1_init_20 : decode cX1_init 20 = .ok (.return_, 1) := by decide +kernel
theorem dX1_girthAt_0 : decode cX1_girthAt 0 = .ok (.iconst 1, 1) := by decide +kernel
theorem dX1_girthAt_1 : decode cX1_girthAt 1 = .ok (.aload_n 0, 1) := by decide +kernel
theorem dX1_girthAt_2 : decode cX1_girthAt 2 = .ok (.getfield 18, 3) := by decide +kernel
theorem dX1_girthAt_5 : decode cX1_girthAt 5 = .ok (.iconst 0, 1) := by decide +kernel
theorem dX1_girthAt_6 : decode cX1_girthAt 6 = .ok (.iaload, 1) := by decide +kernel
theorem dX1_girthAt_7 : decode cX1_girthAt 7 = .ok (.aload_n 0, 1) := by decide +kernel
theorem dX1_girthAt_8 : decode cX1_girthAt 8 = .ok (.getfield 18, 3) := by decide +kernel
theorem dX1_girthAt_11 : decode cX1_girthAt 11 = .ok (.iconst 2, 1) := by decide +kernel
theorem dX1_girthAt_12 : decode cX1_girthAt 12 = .ok (.iaload, 1) := by decide +kernel
theorem dX1_girthAt_13 : decode cX1_girthAt 13 = .ok (.iload_n 1, 1) := by decide +kernel
theorem dX1_girthAt_14 : decode cX1_girthAt 14 = .ok (.iconst 4, 1) := by decide +kernel
theorem dX1_girthAt_15 : decode cX1_girthAt 15 = .ok (.isub, 1) := by decide +kernel
theorem dX1_girthAt_16 : decode cX1_girthAt 16 = .ok (.invokestatic 23, 3) := by decide +kernel
theorem dX1_girthAt_19 : decode cX1_girthAt 19 = .ok (.imul, 1) := by decide +kernel
theorem dX1_girthAt_20 : decode cX1_girthAt 20 = .ok (.isub, 1) := by decide +kernel
theorem dX1_girthAt_21 : decode cX1_girthAt 21 = .ok (.invokestatic 29, 3) := by decide +kernel
theorem dX1_girthAt_24 : decode cX1_girthAt 24 = .ok (.ireturn, 1) := by decide +kernel
theorem dX1_heightOf_0 : decode cX1_heightOf 0 = .ok (.iload_n 1, 1) := by decide +kernel
theorem dX1_heightOf_1 : decode cX1_heightOf 1 = .ok (.ifCond .ne 7, 3) := by decide +kernel
theorem dX1_heightOf_4 : decode cX1_heightOf 4 = .ok (.iload_n 0, 1) := by decide +kernel
theorem dX1_heightOf_5 : decode cX1_heightOf 5 = .ok (.goto 7, 3) := by decide +kernel
theorem dX1_heightOf_8 : decode cX1_heightOf 8 = .ok (.bipush 8, 2) := by decide +kernel
theorem dX1_heightOf_10 : decode cX1_heightOf 10 = .ok (.iload_n 0, 1) := by decide +kernel
theorem dX1_heightOf_11 : decode cX1_heightOf 11 = .ok (.isub, 1) := by decide +kernel
theorem dX1_heightOf_12 : decode cX1_heightOf 12 = .ok (.ireturn, 1) := by decide +kernel
theorem dX1_drive_0 : decode cX1_drive 0 = .ok (.aload_n 0, 1) := by decide +kernel
theorem dX1_drive_1 : decode cX1_drive 1 = .ok (.getfield 15, 3) := by decide +kernel
theorem dX1_drive_4 : decode cX1_drive 4 = .ok (.iconst 0, 1) := by decide +kernel
theorem dX1_drive_5 : decode cX1_drive 5 = .ok (.invokestatic 33, 3) := by decide +kernel
theorem dX1_drive_8 : decode cX1_drive 8 = .ok (.iconst 0, 1) := by decide +kernel
theorem dX1_drive_9 : decode cX1_drive 9 = .ok (.istore_n 2, 1) := by decide +kernel
theorem dX1_drive_10 : decode cX1_drive 10 = .ok (.iload_n 2, 1) := by decide +kernel
theorem dX1_drive_11 : decode cX1_drive 11 = .ok (.aload_n 1, 1) := by decide +kernel
theorem dX1_drive_12 : decode cX1_drive 12 = .ok (.getfield 39, 3) := by decide +kernel
theorem dX1_drive_15 : decode cX1_drive 15 = .ok (.if_icmp .ge 84, 3) := by decide +kernel
theorem dX1_drive_18 : decode cX1_drive 18 = .ok (.aload_n 1, 1) := by decide +kernel
theorem dX1_drive_19 : decode cX1_drive 19 = .ok (.iload_n 2, 1) := by decide +kernel
theorem dX1_drive_20 : decode cX1_drive 20 = .ok (.invokevirtual 43, 3) := by decide +kernel
theorem dX1_drive_23 : decode cX1_drive 23 = .ok (.astore_n 3, 1) := by decide +kernel
theorem dX1_drive_24 : decode cX1_drive 24 = .ok (.aload_n 0, 1) := by decide +kernel
theorem dX1_drive_25 : decode cX1_drive 25 = .ok (.getfield 9, 3) := by decide +kernel
theorem dX1_drive_28 : decode cX1_drive 28 = .ok (.iload_n 2, 1) := by decide +kernel
theorem dX1_drive_29 : decode cX1_drive 29 = .ok (.aload_n 3, 1) := by decide +kernel
theorem dX1_drive_30 : decode cX1_drive 30 = .ok (.ifnonnull 8, 3) := by decide +kernel
theorem dX1_drive_33 : decode cX1_drive 33 = .ok (.bipush (-5), 2) := by decide +kernel
theorem dX1_drive_35 : decode cX1_drive 35 = .ok (.goto 17, 3) := by decide +kernel
theorem dX1_drive_38 : decode cX1_drive 38 = .ok (.aload_n 0, 1) := by decide +kernel
theorem dX1_drive_39 : decode cX1_drive 39 = .ok (.aload_n 1, 1) := by decide +kernel
theorem dX1_drive_40 : decode cX1_drive 40 = .ok (.aload_n 3, 1) := by decide +kernel
theorem dX1_drive_41 : decode cX1_drive 41 = .ok (.getfield 47, 3) := by decide +kernel
theorem dX1_drive_44 : decode cX1_drive 44 = .ok (.aload_n 3, 1) := by decide +kernel
theorem dX1_drive_45 : decode cX1_drive 45 = .ok (.getfield 52, 3) := by decide +kernel
theorem dX1_drive_48 : decode cX1_drive 48 = .ok (.iload_n 2, 1) := by decide +kernel
theorem dX1_drive_49 : decode cX1_drive 49 = .ok (.invokevirtual 55, 3) := by decide +kernel
theorem dX1_drive_52 : decode cX1_drive 52 = .ok (.iastore, 1) := by decide +kernel
theorem dX1_drive_53 : decode cX1_drive 53 = .ok (.aload_n 3, 1) := by decide +kernel
theorem dX1_drive_54 : decode cX1_drive 54 = .ok (.ifnull 39, 3) := by decide +kernel
theorem dX1_drive_57 : decode cX1_drive 57 = .ok (.aload_n 0, 1) := by decide +kernel
theorem dX1_drive_58 : decode cX1_drive 58 = .ok (.getfield 9, 3) := by decide +kernel
theorem dX1_drive_61 : decode cX1_drive 61 = .ok (.iload_n 2, 1) := by decide +kernel
theorem dX1_drive_62 : decode cX1_drive 62 = .ok (.iaload, 1) := by decide +kernel
theorem dX1_drive_63 : decode cX1_drive 63 = .ok (.bipush (-5), 2) := by decide +kernel
theorem dX1_drive_65 : decode cX1_drive 65 = .ok (.if_icmp .eq 28, 3) := by decide +kernel
theorem dX1_drive_68 : decode cX1_drive 68 = .ok (.aload_n 0, 1) := by decide +kernel
theorem dX1_drive_69 : decode cX1_drive 69 = .ok (.aload_n 3, 1) := by decide +kernel
theorem dX1_drive_70 : decode cX1_drive 70 = .ok (.aload_n 0, 1) := by decide +kernel
theorem dX1_drive_71 : decode cX1_drive 71 = .ok (.getfield 9, 3) := by decide +kernel
theorem dX1_drive_74 : decode cX1_drive 74 = .ok (.iload_n 2, 1) := by decide +kernel
theorem dX1_drive_75 : decode cX1_drive 75 = .ok (.iaload, 1) := by decide +kernel
theorem dX1_drive_76 : decode cX1_drive 76 = .ok (.aload_n 1, 1) := by decide +kernel
theorem dX1_drive_77 : decode cX1_drive 77 = .ok (.aload_n 0, 1) := by decide +kernel
theorem dX1_drive_78 : decode cX1_drive 78 = .ok (.getfield 9, 3) := by decide +kernel
theorem dX1_drive_81 : decode cX1_drive 81 = .ok (.iload_n 2, 1) := by decide +kernel
theorem dX1_drive_82 : decode cX1_drive 82 = .ok (.iaload, 1) := by decide +kernel
theorem dX1_drive_83 : decode cX1_drive 83 = .ok (.aload_n 3, 1) := by decide +kernel
theorem dX1_drive_84 : decode cX1_drive 84 = .ok (.getfield 47, 3) := by decide +kernel
theorem dX1_drive_87 : decode cX1_drive 87 = .ok (.invokestatic 59, 3) := by decide +kernel
theorem dX1_drive_90 : decode cX1_drive 90 = .ok (.invokevirtual 63, 3) := by decide +kernel
theorem dX1_drive_93 : decode cX1_drive 93 = .ok (.iinc 2 1, 3) := by decide +kernel
theorem dX1_drive_96 : decode cX1_drive 96 = .ok (.goto (-86), 3) := by decide +kernel
theorem dX1_drive_99 : decode cX1_drive 99 = .ok (.return_, 1) := by decide +kernel
theorem dX1_addPress_0 : decode cX1_addPress 0 = .ok (.iload_n 2, 1) := by decide +kernel
theorem dX1_addPress_1 : decode cX1_addPress 1 = .ok (.aload_n 1, 1) := by decide +kernel
theorem dX1_addPress_2 : decode cX1_addPress 2 = .ok (.getfield 52, 3) := by decide +kernel
theorem dX1_addPress_5 : decode cX1_addPress 5 = .ok (.invokestatic 67, 3) := by decide +kernel
theorem dX1_addPress_8 : decode cX1_addPress 8 = .ok (.istore 4, 2) := by decide +kernel
theorem dX1_addPress_10 : decode cX1_addPress 10 = .ok (.aload_n 1, 1) := by decide +kernel
theorem dX1_addPress_11 : decode cX1_addPress 11 = .ok (.getfield 70, 3) := by decide +kernel
theorem dX1_addPress_14 : decode cX1_addPress 14 = .ok (.iload_n 3, 1) := by decide +kernel
theorem dX1_addPress_15 : decode cX1_addPress 15 = .ok (.invokestatic 73, 3) := by decide +kernel
theorem dX1_addPress_18 : decode cX1_addPress 18 = .ok (.istore 5, 2) := by decide +kernel
theorem dX1_addPress_20 : decode cX1_addPress 20 = .ok (.iconst 0, 1) := by decide +kernel
theorem dX1_addPress_21 : decode cX1_addPress 21 = .ok (.istore 6, 2) := by decide +kernel
theorem dX1_addPress_23 : decode cX1_addPress 23 = .ok (.iload 6, 2) := by decide +kernel
theorem dX1_addPress_25 : decode cX1_addPress 25 = .ok (.bipush 9, 2) := by decide +kernel
theorem dX1_addPress_27 : decode cX1_addPress 27 = .ok (.if_icmp .ge 28, 3) := by decide +kernel
theorem dX1_addPress_30 : decode cX1_addPress 30 = .ok (.aload_n 0, 1) := by decide +kernel
theorem dX1_addPress_31 : decode cX1_addPress 31 = .ok (.getfield 15, 3) := by decide +kernel
theorem dX1_addPress_34 : decode cX1_addPress 34 = .ok (.iload 6, 2) := by decide +kernel
theorem dX1_addPress_36 : decode cX1_addPress 36 = .ok (.dup2, 1) := by decide +kernel
theorem dX1_addPress_37 : decode cX1_addPress 37 = .ok (.iaload, 1) := by decide +kernel
theorem dX1_addPress_38 : decode cX1_addPress 38 = .ok (.iload 4, 2) := by decide +kernel
theorem dX1_addPress_40 : decode cX1_addPress 40 = .ok (.iload 5, 2) := by decide +kernel
theorem dX1_addPress_42 : decode cX1_addPress 42 = .ok (.iload 6, 2) := by decide +kernel
theorem dX1_addPress_44 : decode cX1_addPress 44 = .ok (.invokestatic 76, 3) := by decide +kernel
theorem dX1_addPress_47 : decode cX1_addPress 47 = .ok (.iadd, 1) := by decide +kernel
theorem dX1_addPress_48 : decode cX1_addPress 48 = .ok (.iastore, 1) := by decide +kernel
theorem dX1_addPress_49 : decode cX1_addPress 49 = .ok (.iinc 6 1, 3) := by decide +kernel
theorem dX1_addPress_52 : decode cX1_addPress 52 = .ok (.goto (-29), 3) := by decide +kernel
theorem dX1_addPress_55 : decode cX1_addPress 55 = .ok (.return_, 1) := by decide +kernel
theorem dX1_restDepth_0 : decode cX1_restDepth 0 = .ok (.iconst 5, 1) := by decide +kernel
theorem dX1_restDepth_1 : decode cX1_restDepth 1 = .ok (.istore 5, 2) := by decide +kernel
theorem dX1_restDepth_3 : decode cX1_restDepth 3 = .ok (.iconst 0, 1) := by decide +kernel
theorem dX1_restDepth_4 : decode cX1_restDepth 4 = .ok (.istore 6, 2) := by decide +kernel
theorem dX1_restDepth_6 : decode cX1_restDepth 6 = .ok (.iload 6, 2) := by decide +kernel
theorem dX1_restDepth_8 : decode cX1_restDepth 8 = .ok (.iload 4, 2) := by decide +kernel
theorem dX1_restDepth_10 : decode cX1_restDepth 10 = .ok (.if_icmp .ge 57, 3) := by decide +kernel
theorem dX1_restDepth_13 : decode cX1_restDepth 13 = .ok (.aload_n 1, 1) := by decide +kernel
theorem dX1_restDepth_14 : decode cX1_restDepth 14 = .ok (.iload 6, 2) := by decide +kernel
theorem dX1_restDepth_16 : decode cX1_restDepth 16 = .ok (.invokevirtual 43, 3) := by decide +kernel
theorem dX1_restDepth_19 : decode cX1_restDepth 19 = .ok (.astore 7, 2) := by decide +kernel
theorem dX1_restDepth_21 : decode cX1_restDepth 21 = .ok (.aload 7, 2) := by decide +kernel
theorem dX1_restDepth_23 : decode cX1_restDepth 23 = .ok (.ifnull 38, 3) := by decide +kernel
theorem dX1_restDepth_26 : decode cX1_restDepth 26 = .ok (.aload 7, 2) := by decide +kernel
theorem dX1_restDepth_28 : decode cX1_restDepth 28 = .ok (.getfield 52, 3) := by decide +kernel
theorem dX1_restDepth_31 : decode cX1_restDepth 31 = .ok (.iload_n 3, 1) := by decide +kernel
theorem dX1_restDepth_32 : decode cX1_restDepth 32 = .ok (.if_icmp .ne 29, 3) := by decide +kernel
theorem dX1_restDepth_35 : decode cX1_restDepth 35 = .ok (.aload_n 0, 1) := by decide +kernel
theorem dX1_restDepth_36 : decode cX1_restDepth 36 = .ok (.getfield 9, 3) := by decide +kernel
theorem dX1_restDepth_39 : decode cX1_restDepth 39 = .ok (.iload 6, 2) := by decide +kernel
theorem dX1_restDepth_41 : decode cX1_restDepth 41 = .ok (.iaload, 1) := by decide +kernel
theorem dX1_restDepth_42 : decode cX1_restDepth 42 = .ok (.bipush (-5), 2) := by decide +kernel
theorem dX1_restDepth_44 : decode cX1_restDepth 44 = .ok (.if_icmp .eq 17, 3) := by decide +kernel
theorem dX1_restDepth_47 : decode cX1_restDepth 47 = .ok (.iload 5, 2) := by decide +kernel
theorem dX1_restDepth_49 : decode cX1_restDepth 49 = .ok (.aload_n 0, 1) := by decide +kernel
theorem dX1_restDepth_50 : decode cX1_restDepth 50 = .ok (.getfield 9, 3) := by decide +kernel
theorem dX1_restDepth_53 : decode cX1_restDepth 53 = .ok (.iload 6, 2) := by decide +kernel
theorem dX1_restDepth_55 : decode cX1_restDepth 55 = .ok (.iaload, 1) := by decide +kernel
theorem dX1_restDepth_56 : decode cX1_restDepth 56 = .ok (.invokestatic 80, 3) := by decide +kernel
theorem dX1_restDepth_59 : decode cX1_restDepth 59 = .ok (.istore 5, 2) := by decide +kernel
theorem dX1_restDepth_61 : decode cX1_restDepth 61 = .ok (.iinc 6 1, 3) := by decide +kernel
theorem dX1_restDepth_64 : decode cX1_restDepth 64 = .ok (.goto (-58), 3) := by decide +kernel
theorem dX1_restDepth_67 : decode cX1_restDepth 67 = .ok (.iconst 0, 1) := by decide +kernel
theorem dX1_restDepth_68 : decode cX1_restDepth 68 = .ok (.istore 6, 2) := by decide +kernel
theorem dX1_restDepth_70 : decode cX1_restDepth 70 = .ok (.iload 6, 2) := by decide +kernel
theorem dX1_restDepth_72 : decode cX1_restDepth 72 = .ok (.iconst 4, 1) := by decide +kernel
theorem dX1_restDepth_73 : decode cX1_restDepth 73 = .ok (.if_icmp .gt 29, 3) := by decide +kernel
theorem dX1_restDepth_76 : decode cX1_restDepth 76 = .ok (.iload 6, 2) := by decide +kernel
theorem dX1_restDepth_78 : decode cX1_restDepth 78 = .ok (.iload 5, 2) := by decide +kernel
theorem dX1_restDepth_80 : decode cX1_restDepth 80 = .ok (.if_icmp .eq 13, 3) := by decide +kernel
theorem dX1_restDepth_83 : decode cX1_restDepth 83 = .ok (.aload_n 1, 1) := by decide +kernel
theorem dX1_restDepth_84 : decode cX1_restDepth 84 = .ok (.iload 6, 2) := by decide +kernel
theorem dX1_restDepth_86 : decode cX1_restDepth 86 = .ok (.invokestatic 83, 3) := by decide +kernel
theorem dX1_restDepth_89 : decode cX1_restDepth 89 = .ok (.iload_n 2, 1) := by decide +kernel
theorem dX1_restDepth_90 : decode cX1_restDepth 90 = .ok (.if_icmp .lt 6, 3) := by decide +kernel
theorem dX1_restDepth_93 : decode cX1_restDepth 93 = .ok (.iload 6, 2) := by decide +kernel
theorem dX1_restDepth_95 : decode cX1_restDepth 95 = .ok (.ireturn, 1) := by decide +kernel
theorem dX1_restDepth_96 : decode cX1_restDepth 96 = .ok (.iinc 6 1, 3) := by decide +kernel
theorem dX1_restDepth_99 : decode cX1_restDepth 99 = .ok (.goto (-29), 3) := by decide +kernel
theorem dX1_restDepth_102 : decode cX1_restDepth 102 = .ok (.bipush (-5), 2) := by decide +kernel
theorem dX1_restDepth_104 : decode cX1_restDepth 104 = .ok (.ireturn, 1) := by decide +kernel
theorem dX1_gripAt_0 : decode cX1_gripAt 0 = .ok (.iconst 0, 1) := by decide +kernel
theorem dX1_gripAt_1 : decode cX1_gripAt 1 = .ok (.aload_n 0, 1) := by decide +kernel
theorem dX1_gripAt_2 : decode cX1_gripAt 2 = .ok (.iload_n 1, 1) := by decide +kernel
theorem dX1_gripAt_3 : decode cX1_gripAt 3 = .ok (.invokestatic 83, 3) := by decide +kernel
theorem dX1_gripAt_6 : decode cX1_gripAt 6 = .ok (.iload_n 2, 1) := by decide +kernel
theorem dX1_gripAt_7 : decode cX1_gripAt 7 = .ok (.isub, 1) := by decide +kernel
theorem dX1_gripAt_8 : decode cX1_gripAt 8 = .ok (.invokestatic 29, 3) := by decide +kernel
theorem dX1_gripAt_11 : decode cX1_gripAt 11 = .ok (.ireturn, 1) := by decide +kernel
theorem dX1_pressFrom_0 : decode cX1_pressFrom 0 = .ok (.iconst 0, 1) := by decide +kernel
theorem dX1_pressFrom_1 : decode cX1_pressFrom 1 = .ok (.iload_n 1, 1) := by decide +kernel
theorem dX1_pressFrom_2 : decode cX1_pressFrom 2 = .ok (.iconst 2, 1) := by decide +kernel
theorem dX1_pressFrom_3 : decode cX1_pressFrom 3 = .ok (.iload_n 2, 1) := by decide +kernel
theorem dX1_pressFrom_4 : decode cX1_pressFrom 4 = .ok (.iload_n 0, 1) := by decide +kernel
theorem dX1_pressFrom_5 : decode cX1_pressFrom 5 = .ok (.isub, 1) := by decide +kernel
theorem dX1_pressFrom_6 : decode cX1_pressFrom 6 = .ok (.invokestatic 23, 3) := by decide +kernel
theorem dX1_pressFrom_9 : decode cX1_pressFrom 9 = .ok (.imul, 1) := by decide +kernel
theorem dX1_pressFrom_10 : decode cX1_pressFrom 10 = .ok (.isub, 1) := by decide +kernel
theorem dX1_pressFrom_11 : decode cX1_pressFrom 11 = .ok (.invokestatic 29, 3) := by decide +kernel
theorem dX1_pressFrom_14 : decode cX1_pressFrom 14 = .ok (.ireturn, 1) := by decide +kernel
theorem dX1_capped_0 : decode cX1_capped 0 = .ok (.iload_n 0, 1) := by decide +kernel
theorem dX1_capped_1 : decode cX1_capped 1 = .ok (.bipush 99, 2) := by decide +kernel
theorem dX1_capped_3 : decode cX1_capped 3 = .ok (.invokestatic 80, 3) := by decide +kernel
theorem dX1_capped_6 : decode cX1_capped 6 = .ok (.ireturn, 1) := by decide +kernel
theorem dX1_wetBelow_0 : decode cX1_wetBelow 0 = .ok (.iconst 0, 1) := by decide +kernel
theorem dX1_wetBelow_1 : decode cX1_wetBelow 1 = .ok (.istore_n 2, 1) := by decide +kernel
theorem dX1_wetBelow_2 : decode cX1_wetBelow 2 = .ok (.iconst 0, 1) := by decide +kernel
theorem dX1_wetBelow_3 : decode cX1_wetBelow 3 = .ok (.istore_n 3, 1) := by decide +kernel
theorem dX1_wetBelow_4 : decode cX1_wetBelow 4 = .ok (.iload_n 3, 1) := by decide +kernel
theorem dX1_wetBelow_5 : decode cX1_wetBelow 5 = .ok (.bipush 9, 2) := by decide +kernel
theorem dX1_wetBelow_7 : decode cX1_wetBelow 7 = .ok (.if_icmp .ge 28, 3) := by decide +kernel
theorem dX1_wetBelow_10 : decode cX1_wetBelow 10 = .ok (.aload_n 0, 1) := by decide +kernel
theorem dX1_wetBelow_11 : decode cX1_wetBelow 11 = .ok (.getfield 15, 3) := by decide +kernel
theorem dX1_wetBelow_14 : decode cX1_wetBelow 14 = .ok (.iload_n 3, 1) := by decide +kernel
theorem dX1_wetBelow_15 : decode cX1_wetBelow 15 = .ok (.iaload, 1) := by decide +kernel
theorem dX1_wetBelow_16 : decode cX1_wetBelow 16 = .ok (.invokestatic 87, 3) := by decide +kernel
theorem dX1_wetBelow_19 : decode cX1_wetBelow 19 = .ok (.iload_n 1, 1) := by decide +kernel
theorem dX1_wetBelow_20 : decode cX1_wetBelow 20 = .ok (.if_icmp .ge 9, 3) := by decide +kernel
theorem dX1_wetBelow_23 : decode cX1_wetBelow 23 = .ok (.iload_n 2, 1) := by decide +kernel
theorem dX1_wetBelow_24 : decode cX1_wetBelow 24 = .ok (.iconst 1, 1) := by decide +kernel
theorem dX1_wetBelow_25 : decode cX1_wetBelow 25 = .ok (.iload_n 3, 1) := by decide +kernel
theorem dX1_wetBelow_26 : decode cX1_wetBelow 26 = .ok (.ishl, 1) := by decide +kernel
theorem dX1_wetBelow_27 : decode cX1_wetBelow 27 = .ok (.ior, 1) := by decide +kernel
theorem dX1_wetBelow_28 : decode cX1_wetBelow 28 = .ok (.istore_n 2, 1) := by decide +kernel
theorem dX1_wetBelow_29 : decode cX1_wetBelow 29 = .ok (.iinc 3 1, 3) := by decide +kernel
theorem dX1_wetBelow_32 : decode cX1_wetBelow 32 = .ok (.goto (-28), 3) := by decide +kernel
theorem dX1_wetBelow_35 : decode cX1_wetBelow 35 = .ok (.iload_n 2, 1) := by decide +kernel
theorem dX1_wetBelow_36 : decode cX1_wetBelow 36 = .ok (.ireturn, 1) := by decide +kernel
theorem dX1_driestSize_0 : decode cX1_driestSize 0 = .ok (.bipush (-5), 2) := by decide +kernel
theorem dX1_driestSize_2 : decode cX1_driestSize 2 = .ok (.istore 4, 2) := by decide +kernel
theorem dX1_driestSize_4 : decode cX1_driestSize 4 = .ok (.aload_n 0, 1) := by decide +kernel
theorem dX1_driestSize_5 : decode cX1_driestSize 5 = .ok (.iload_n 3, 1) := by decide +kernel
theorem dX1_driestSize_6 : decode cX1_driestSize 6 = .ok (.invokevirtual 90, 3) := by decide +kernel
theorem dX1_driestSize_9 : decode cX1_driestSize 9 = .ok (.invokestatic 93, 3) := by decide +kernel
theorem dX1_driestSize_12 : decode cX1_driestSize 12 = .ok (.istore 5, 2) := by decide +kernel
theorem dX1_driestSize_14 : decode cX1_driestSize 14 = .ok (.iconst 1, 1) := by decide +kernel
theorem dX1_driestSize_15 : decode cX1_driestSize 15 = .ok (.istore 6, 2) := by decide +kernel
theorem dX1_driestSize_17 : decode cX1_driestSize 17 = .ok (.iload 6, 2) := by decide +kernel
theorem dX1_driestSize_19 : decode cX1_driestSize 19 = .ok (.iload_n 2, 1) := by decide +kernel
theorem dX1_driestSize_20 : decode cX1_driestSize 20 = .ok (.if_icmp .gt 67, 3) := by decide +kernel
theorem dX1_driestSize_23 : decode cX1_driestSize 23 = .ok (.aload_n 0, 1) := by decide +kernel
theorem dX1_driestSize_24 : decode cX1_driestSize 24 = .ok (.aload_n 1, 1) := by decide +kernel
theorem dX1_driestSize_25 : decode cX1_driestSize 25 = .ok (.iload 6, 2) := by decide +kernel
theorem dX1_driestSize_27 : decode cX1_driestSize 27 = .ok (.iconst 0, 1) := by decide +kernel
theorem dX1_driestSize_28 : decode cX1_driestSize 28 = .ok (.aload_n 1, 1) := by decide +kernel
theorem dX1_driestSize_29 : decode cX1_driestSize 29 = .ok (.getfield 39, 3) := by decide +kernel
theorem dX1_driestSize_32 : decode cX1_driestSize 32 = .ok (.invokevirtual 55, 3) := by decide +kernel
theorem dX1_driestSize_35 : decode cX1_driestSize 35 = .ok (.istore 7, 2) := by decide +kernel
theorem dX1_driestSize_37 : decode cX1_driestSize 37 = .ok (.iload 7, 2) := by decide +kernel
theorem dX1_driestSize_39 : decode cX1_driestSize 39 = .ok (.bipush (-5), 2) := by decide +kernel
theorem dX1_driestSize_41 : decode cX1_driestSize 41 = .ok (.if_icmp .ne 8, 3) := by decide +kernel
theorem dX1_driestSize_44 : decode cX1_driestSize 44 = .ok (.iload 5, 2) := by decide +kernel
theorem dX1_driestSize_46 : decode cX1_driestSize 46 = .ok (.goto 18, 3) := by decide +kernel
theorem dX1_driestSize_49 : decode cX1_driestSize 49 = .ok (.aload_n 0, 1) := by decide +kernel
theorem dX1_driestSize_50 : decode cX1_driestSize 50 = .ok (.iload 7, 2) := by decide +kernel
theorem dX1_driestSize_52 : decode cX1_driestSize 52 = .ok (.aload_n 1, 1) := by decide +kernel
theorem dX1_driestSize_53 : decode cX1_driestSize 53 = .ok (.iload 7, 2) := by decide +kernel
theorem dX1_driestSize_55 : decode cX1_driestSize 55 = .ok (.iload 6, 2) := by decide +kernel
theorem dX1_driestSize_57 : decode cX1_driestSize 57 = .ok (.invokestatic 59, 3) := by decide +kernel
theorem dX1_driestSize_60 : decode cX1_driestSize 60 = .ok (.iload_n 3, 1) := by decide +kernel
theorem dX1_driestSize_61 : decode cX1_driestSize 61 = .ok (.invokevirtual 98, 3) := by decide +kernel
theorem dX1_driestSize_64 : decode cX1_driestSize 64 = .ok (.istore 8, 2) := by decide +kernel
theorem dX1_driestSize_66 : decode cX1_driestSize 66 = .ok (.iload 8, 2) := by decide +kernel
theorem dX1_driestSize_68 : decode cX1_driestSize 68 = .ok (.iload 5, 2) := by decide +kernel
theorem dX1_driestSize_70 : decode cX1_driestSize 70 = .ok (.if_icmp .ge 11, 3) := by decide +kernel
theorem dX1_driestSize_73 : decode cX1_driestSize 73 = .ok (.iload 8, 2) := by decide +kernel
theorem dX1_driestSize_75 : decode cX1_driestSize 75 = .ok (.istore 5, 2) := by decide +kernel
theorem dX1_driestSize_77 : decode cX1_driestSize 77 = .ok (.iload 6, 2) := by decide +kernel
theorem dX1_driestSize_79 : decode cX1_driestSize 79 = .ok (.istore 4, 2) := by decide +kernel
theorem dX1_driestSize_81 : decode cX1_driestSize 81 = .ok (.iinc 6 1, 3) := by decide +kernel
theorem dX1_driestSize_84 : decode cX1_driestSize 84 = .ok (.goto (-67), 3) := by decide +kernel
theorem dX1_driestSize_87 : decode cX1_driestSize 87 = .ok (.iload 4, 2) := by decide +kernel
theorem dX1_driestSize_89 : decode cX1_driestSize 89 = .ok (.ireturn, 1) := by decide +kernel
theorem dX1_howManyWetWith_0 : decode cX1_howManyWetWith 0 = .ok (.iconst 0, 1) := by decide +kernel
theorem dX1_howManyWetWith_1 : decode cX1_howManyWetWith 1 = .ok (.istore 4, 2) := by decide +kernel
theorem dX1_howManyWetWith_3 : decode cX1_howManyWetWith 3 = .ok (.iconst 0, 1) := by decide +kernel
theorem dX1_howManyWetWith_4 : decode cX1_howManyWetWith 4 = .ok (.istore 5, 2) := by decide +kernel
theorem dX1_howManyWetWith_6 : decode cX1_howManyWetWith 6 = .ok (.iload 5, 2) := by decide +kernel
theorem dX1_howManyWetWith_8 : decode cX1_howManyWetWith 8 = .ok (.bipush 9, 2) := by decide +kernel
theorem dX1_howManyWetWith_10 : decode cX1_howManyWetWith 10 = .ok (.if_icmp .ge 34, 3) := by decide +kernel
theorem dX1_howManyWetWith_13 : decode cX1_howManyWetWith 13 = .ok (.aload_n 0, 1) := by decide +kernel
theorem dX1_howManyWetWith_14 : decode cX1_howManyWetWith 14 = .ok (.getfield 15, 3) := by decide +kernel
theorem dX1_howManyWetWith_17 : decode cX1_howManyWetWith 17 = .ok (.iload 5, 2) := by decide +kernel
theorem dX1_howManyWetWith_19 : decode cX1_howManyWetWith 19 = .ok (.iaload, 1) := by decide +kernel
theorem dX1_howManyWetWith_20 : decode cX1_howManyWetWith 20 = .ok (.iload_n 1, 1) := by decide +kernel
theorem dX1_howManyWetWith_21 : decode cX1_howManyWetWith 21 = .ok (.iload_n 2, 1) := by decide +kernel
theorem dX1_howManyWetWith_22 : decode cX1_howManyWetWith 22 = .ok (.iload 5, 2) := by decide +kernel
theorem dX1_howManyWetWith_24 : decode cX1_howManyWetWith 24 = .ok (.invokestatic 76, 3) := by decide +kernel
theorem dX1_howManyWetWith_27 : decode cX1_howManyWetWith 27 = .ok (.iadd, 1) := by decide +kernel
theorem dX1_howManyWetWith_28 : decode cX1_howManyWetWith 28 = .ok (.invokestatic 87, 3) := by decide +kernel
theorem dX1_howManyWetWith_31 : decode cX1_howManyWetWith 31 = .ok (.iload_n 3, 1) := by decide +kernel
theorem dX1_howManyWetWith_32 : decode cX1_howManyWetWith 32 = .ok (.if_icmp .ge 6, 3) := by decide +kernel
theorem dX1_howManyWetWith_35 : decode cX1_howManyWetWith 35 = .ok (.iinc 4 1, 3) := by decide +kernel
theorem dX1_howManyWetWith_38 : decode cX1_howManyWetWith 38 = .ok (.iinc 5 1, 3) := by decide +kernel
theorem dX1_howManyWetWith_41 : decode cX1_howManyWetWith 41 = .ok (.goto (-35), 3) := by decide +kernel
theorem dX1_howManyWetWith_44 : decode cX1_howManyWetWith 44 = .ok (.iload 4, 2) := by decide +kernel
theorem dX1_howManyWetWith_46 : decode cX1_howManyWetWith 46 = .ok (.ireturn, 1) := by decide +kernel
theorem dX2_init_0 : decode cX2_init 0 = .ok (.aload_n 0, 1) := by decide +kernel
theorem dX2_init_1 : decode cX2_init 1 = .ok (.invokespecial 3, 3) := by decide +kernel
theorem dX2_init_4 : decode cX2_init 4 = .ok (.aload_n 0, 1) := by decide +kernel
theorem dX2_init_5 : decode cX2_init 5 = .ok (.bipush 7, 2) := by decide +kernel
theorem dX2_init_7 : decode cX2_init 7 = .ok (.newarray .int, 2) := by decide +kernel
theorem dX2_init_9 : decode cX2_init 9 = .ok (.putfield 9, 3) := by decide +kernel
theorem dX2_init_12 : decode cX2_init 12 = .ok (.aload_n 0, 1) := by decide +kernel
theorem dX2_init_13 : decode cX2_init 13 = .ok (.bipush 7, 2) := by decide +kernel
theorem dX2_init_15 : decode cX2_init 15 = .ok (.newarray .int, 2) := by decide +kernel
theorem dX2_init_17 : decode cX2_init 17 = .ok (.putfield 15, 3) := by decide +kernel
theorem dX2_init_20 : decode cX2_init 20 = .ok (.aload_n 0, 1) := by decide +kernel
theorem dX2_init_21 : decode cX2_init 21 = .ok (.sipush 128, 3) := by decide +kernel
theorem dX2_init_24 : decode cX2_init 24 = .ok (.newarray .int, 2) := by decide +kernel
theorem dX2_init_26 : decode cX2_init 26 = .ok (.putfield 18, 3) := by decide +kernel
theorem dX2_init_29 : decode cX2_init 29 = .ok (.aload_n 0, 1) := by decide +kernel
theorem dX2_init_30 : decode cX2_init 30 = .ok (.sipush 128, 3) := by decide +kernel
theorem dX2_init_33 : decode cX2_init 33 = .ok (.newarray .int, 2) := by decide +kernel
theorem dX2_init_35 : decode cX2_init 35 = .ok (.putfield 21, 3) := by decide +kernel
theorem dX2_init_38 : decode cX2_init 38 = .ok (.return_, 1) := by decide +kernel
theorem dX2_measure_0 : decode cX2_measure 0 = .ok (.aload_n 0, 1) := by decide +kernel
theorem dX2_measure_1 : decode cX2_measure 1 = .ok (.iload_n 2, 1) := by decide +kernel
theorem dX2_measure_2 : decode cX2_measure 2 = .ok (.putfield 24, 3) := by decide +kernel
theorem dX2_measure_5 : decode cX2_measure 5 = .ok (.aload_n 0, 1) := by decide +kernel
theorem dX2_measure_6 : decode cX2_measure 6 = .ok (.aload_n 1, 1) := by decide +kernel
theorem dX2_measure_7 : decode cX2_measure 7 = .ok (.getfield 28, 3) := by decide +kernel
theorem dX2_measure_10 : decode cX2_measure 10 = .ok (.putfield 33, 3) := by decide +kernel
theorem dX2_measure_13 : decode cX2_measure 13 = .ok (.aload_n 0, 1) := by decide +kernel
theorem dX2_measure_14 : decode cX2_measure 14 = .ok (.getfield 18, 3) := by decide +kernel
theorem dX2_measure_17 : decode cX2_measure 17 = .ok (.iconst 0, 1) := by decide +kernel
theorem dX2_measure_18 : decode cX2_measure 18 = .ok (.iconst 0, 1) := by decide +kernel
theorem dX2_measure_19 : decode cX2_measure 19 = .ok (.iastore, 1) := by decide +kernel
theorem dX2_measure_20 : decode cX2_measure 20 = .ok (.iconst 0, 1) := by decide +kernel
theorem dX2_measure_21 : decode cX2_measure 21 = .ok (.istore_n 3, 1) := by decide +kernel
theorem dX2_measure_22 : decode cX2_measure 22 = .ok (.iload_n 3, 1) := by decide +kernel
theorem dX2_measure_23 : decode cX2_measure 23 = .ok (.aload_n 0, 1) := by decide +kernel
theorem dX2_measure_24 : decode cX2_measure 24 = .ok (.getfield 33, 3) := by decide +kernel
theorem dX2_measure_27 : decode cX2_measure 27 = .ok (.if_icmp .ge 81, 3) := by decide +kernel
theorem dX2_measure_30 : decode cX2_measure 30 = .ok (.aload_n 1, 1) := by decide +kernel
theorem dX2_measure_31 : decode cX2_measure 31 = .ok (.iload_n 3, 1) := by decide +kernel
theorem dX2_measure_32 : decode cX2_measure 32 = .ok (.invokevirtual 36, 3) := by decide +kernel
theorem dX2_measure_35 : decode cX2_measure 35 = .ok (.astore 4, 2) := by decide +kernel
theorem dX2_measure_37 : decode cX2_measure 37 = .ok (.aload_n 0, 1) := by decide +kernel
theorem dX2_measure_38 : decode cX2_measure 38 = .ok (.getfield 9, 3) := by decide +kernel
theorem dX2_measure_41 : decode cX2_measure 41 = .ok (.iload_n 3, 1) := by decide +kernel
theorem dX2_measure_42 : decode cX2_measure 42 = .ok (.aload 4, 2) := by decide +kernel
theorem dX2_measure_44 : decode cX2_measure 44 = .ok (.ifnonnull 7, 3) := by decide +kernel
theorem dX2_measure_47 : decode cX2_measure 47 = .ok (.iconst 0, 1) := by decide +kernel
theorem dX2_measure_48 : decode cX2_measure 48 = .ok (.goto 8, 3) := by decide +kernel
theorem dX2_measure_51 : decode cX2_measure 51 = .ok (.aload 4, 2) := by decide +kernel
theorem dX2_measure_53 : decode cX2_measure 53 = .ok (.getfield 40, 3) := by decide +kernel
theorem dX2_measure_56 : decode cX2_measure 56 = .ok (.iastore, 1) := by decide +kernel
theorem dX2_measure_57 : decode cX2_measure 57 = .ok (.iconst 1, 1) := by decide +kernel
theorem dX2_measure_58 : decode cX2_measure 58 = .ok (.iload_n 3, 1) := by decide +kernel
theorem dX2_measure_59 : decode cX2_measure 59 = .ok (.ishl, 1) := by decide +kernel
theorem dX2_measure_60 : decode cX2_measure 60 = .ok (.istore 5, 2) := by decide +kernel
theorem dX2_measure_62 : decode cX2_measure 62 = .ok (.iconst 0, 1) := by decide +kernel
theorem dX2_measure_63 : decode cX2_measure 63 = .ok (.istore 6, 2) := by decide +kernel
theorem dX2_measure_65 : decode cX2_measure 65 = .ok (.iload 6, 2) := by decide +kernel
theorem dX2_measure_67 : decode cX2_measure 67 = .ok (.iload 5, 2) := by decide +kernel
theorem dX2_measure_69 : decode cX2_measure 69 = .ok (.if_icmp .ge 33, 3) := by decide +kernel
theorem dX2_measure_72 : decode cX2_measure 72 = .ok (.aload_n 0, 1) := by decide +kernel
theorem dX2_measure_73 : decode cX2_measure 73 = .ok (.getfield 18, 3) := by decide +kernel
theorem dX2_measure_76 : decode cX2_measure 76 = .ok (.iload 5, 2) := by decide +kernel
theorem dX2_measure_78 : decode cX2_measure 78 = .ok (.iload 6, 2) := by decide +kernel
theorem dX2_measure_80 : decode cX2_measure 80 = .ok (.iadd, 1) := by decide +kernel
theorem dX2_measure_81 : decode cX2_measure 81 = .ok (.aload_n 0, 1) := by decide +kernel
theorem dX2_measure_82 : decode cX2_measure 82 = .ok (.getfield 18, 3) := by decide +kernel
theorem dX2_measure_85 : decode cX2_measure 85 = .ok (.iload 6, 2) := by decide +kernel
theorem dX2_measure_87 : decode cX2_measure 87 = .ok (.iaload, 1) := by decide +kernel
theorem dX2_measure_88 : decode cX2_measure 88 = .ok (.aload_n 0, 1) := by decide +kernel
theorem dX2_measure_89 : decode cX2_measure 89 = .ok (.getfield 9, 3) := by decide +kernel
theorem dX2_measure_92 : decode cX2_measure 92 = .ok (.iload_n 3, 1) := by decide +kernel
theorem dX2_measure_93 : decode cX2_measure 93 = .ok (.iaload, 1) := by decide +kernel
theorem dX2_measure_94 : decode cX2_measure 94 = .ok (.iadd, 1) := by decide +kernel
theorem dX2_measure_95 : decode cX2_measure 95 = .ok (.iastore, 1) := by decide +kernel
theorem dX2_measure_96 : decode cX2_measure 96 = .ok (.iinc 6 1, 3) := by decide +kernel
theorem dX2_measure_99 : decode cX2_measure 99 = .ok (.goto (-34), 3) := by decide +kernel
theorem dX2_measure_102 : decode cX2_measure 102 = .ok (.iinc 3 1, 3) := by decide +kernel
theorem dX2_measure_105 : decode cX2_measure 105 = .ok (.goto (-83), 3) := by decide +kernel
theorem dX2_measure_108 : decode cX2_measure 108 = .ok (.return_, 1) := by decide +kernel
theorem dX2_isDone_0 : decode cX2_isDone 0 = .ok (.iload_n 1, 1) := by decide +kernel
theorem dX2_isDone_1 : decode cX2_isDone 1 = .ok (.iconst 2, 1) := by decide +kernel
theorem dX2_isDone_2 : decode cX2_isDone 2 = .ok (.aload_n 0, 1) := by decide +kernel
theorem dX2_isDone_3 : decode cX2_isDone 3 = .ok (.getfield 24, 3) := by decide +kernel
theorem dX2_isDone_6 : decode cX2_isDone 6 = .ok (.imul, 1) := by decide +kernel
theorem dX2_isDone_7 : decode cX2_isDone 7 = .ok (.if_icmp .lt 7, 3) := by decide +kernel
theorem dX2_isDone_10 : decode cX2_isDone 10 = .ok (.iconst 1, 1) := by decide +kernel
theorem dX2_isDone_11 : decode cX2_isDone 11 = .ok (.goto 4, 3) := by decide +kernel
theorem dX2_isDone_14 : decode cX2_isDone 14 = .ok (.iconst 0, 1) := by decide +kernel
theorem dX2_isDone_15 : decode cX2_isDone 15 = .ok (.ireturn, 1) := by decide +kernel
theorem dX2_spentOn_0 : decode cX2_spentOn 0 = .ok (.aload_n 0, 1) := by decide +kernel
theorem dX2_spentOn_1 : decode cX2_spentOn 1 = .ok (.getfield 9, 3) := by decide +kernel
theorem dX2_spentOn_4 : decode cX2_spentOn 4 = .ok (.iload_n 1, 1) := by decide +kernel
theorem dX2_spentOn_5 : decode cX2_spentOn 5 = .ok (.iaload, 1) := by decide +kernel
theorem dX2_spentOn_6 : decode cX2_spentOn 6 = .ok (.istore_n 3, 1) := by decide +kernel
theorem dX2_spentOn_7 : decode cX2_spentOn 7 = .ok (.iconst 0, 1) := by decide +kernel
theorem dX2_spentOn_8 : decode cX2_spentOn 8 = .ok (.iload_n 2, 1) := by decide +kernel
theorem dX2_spentOn_9 : decode cX2_spentOn 9 = .ok (.aload_n 0, 1) := by decide +kernel
theorem dX2_spentOn_10 : decode cX2_spentOn 10 = .ok (.getfield 24, 3) := by decide +kernel
theorem dX2_spentOn_13 : decode cX2_spentOn 13 = .ok (.isub, 1) := by decide +kernel
theorem dX2_spentOn_14 : decode cX2_spentOn 14 = .ok (.aload_n 0, 1) := by decide +kernel
theorem dX2_spentOn_15 : decode cX2_spentOn 15 = .ok (.getfield 24, 3) := by decide +kernel
theorem dX2_spentOn_18 : decode cX2_spentOn 18 = .ok (.iload_n 2, 1) := by decide +kernel
theorem dX2_spentOn_19 : decode cX2_spentOn 19 = .ok (.iload_n 3, 1) := by decide +kernel
theorem dX2_spentOn_20 : decode cX2_spentOn 20 = .ok (.iadd, 1) := by decide +kernel
theorem dX2_spentOn_21 : decode cX2_spentOn 21 = .ok (.isub, 1) := by decide +kernel
theorem dX2_spentOn_22 : decode cX2_spentOn 22 = .ok (.invokestatic 45, 3) := by decide +kernel
theorem dX2_spentOn_25 : decode cX2_spentOn 25 = .ok (.invokestatic 45, 3) := by decide +kernel
theorem dX2_spentOn_28 : decode cX2_spentOn 28 = .ok (.istore 4, 2) := by decide +kernel
theorem dX2_spentOn_30 : decode cX2_spentOn 30 = .ok (.aload_n 0, 1) := by decide +kernel
theorem dX2_spentOn_31 : decode cX2_spentOn 31 = .ok (.getfield 24, 3) := by decide +kernel
theorem dX2_spentOn_34 : decode cX2_spentOn 34 = .ok (.aload_n 0, 1) := by decide +kernel
theorem dX2_spentOn_35 : decode cX2_spentOn 35 = .ok (.getfield 24, 3) := by decide +kernel
theorem dX2_spentOn_38 : decode cX2_spentOn 38 = .ok (.imul, 1) := by decide +kernel
theorem dX2_spentOn_39 : decode cX2_spentOn 39 = .ok (.iload 4, 2) := by decide +kernel
theorem dX2_spentOn_41 : decode cX2_spentOn 41 = .ok (.iload 4, 2) := by decide +kernel
theorem dX2_spentOn_43 : decode cX2_spentOn 43 = .ok (.imul, 1) := by decide +kernel
theorem dX2_spentOn_44 : decode cX2_spentOn 44 = .ok (.isub, 1) := by decide +kernel
theorem dX2_spentOn_45 : decode cX2_spentOn 45 = .ok (.istore 5, 2) := by decide +kernel
theorem dX2_spentOn_47 : decode cX2_spentOn 47 = .ok (.iload 5, 2) := by decide +kernel
theorem dX2_spentOn_49 : decode cX2_spentOn 49 = .ok (.invokestatic 51, 3) := by decide +kernel
theorem dX2_spentOn_52 : decode cX2_spentOn 52 = .ok (.istore 6, 2) := by decide +kernel
theorem dX2_spentOn_54 : decode cX2_spentOn 54 = .ok (.iload_n 3, 1) := by decide +kernel
theorem dX2_spentOn_55 : decode cX2_spentOn 55 = .ok (.iconst 2, 1) := by decide +kernel
theorem dX2_spentOn_56 : decode cX2_spentOn 56 = .ok (.imul, 1) := by decide +kernel
theorem dX2_spentOn_57 : decode cX2_spentOn 57 = .ok (.iload 6, 2) := by decide +kernel
theorem dX2_spentOn_59 : decode cX2_spentOn 59 = .ok (.iload 6, 2) := by decide +kernel
theorem dX2_spentOn_61 : decode cX2_spentOn 61 = .ok (.imul, 1) := by decide +kernel
theorem dX2_spentOn_62 : decode cX2_spentOn 62 = .ok (.iload 5, 2) := by decide +kernel
theorem dX2_spentOn_64 : decode cX2_spentOn 64 = .ok (.if_icmp .ge 10, 3) := by decide +kernel
theorem dX2_spentOn_67 : decode cX2_spentOn 67 = .ok (.iload 6, 2) := by decide +kernel
theorem dX2_spentOn_69 : decode cX2_spentOn 69 = .ok (.iconst 1, 1) := by decide +kernel
theorem dX2_spentOn_70 : decode cX2_spentOn 70 = .ok (.iadd, 1) := by decide +kernel
theorem dX2_spentOn_71 : decode cX2_spentOn 71 = .ok (.goto 5, 3) := by decide +kernel
theorem dX2_spentOn_74 : decode cX2_spentOn 74 = .ok (.iload 6, 2) := by decide +kernel
theorem dX2_spentOn_76 : decode cX2_spentOn 76 = .ok (.imul, 1) := by decide +kernel
theorem dX2_spentOn_77 : decode cX2_spentOn 77 = .ok (.ireturn, 1) := by decide +kernel
theorem dX2_leastSpent_0 : decode cX2_leastSpent 0 = .ok (.iconst 1, 1) := by decide +kernel
theorem dX2_leastSpent_1 : decode cX2_leastSpent 1 = .ok (.aload_n 0, 1) := by decide +kernel
theorem dX2_leastSpent_2 : decode cX2_leastSpent 2 = .ok (.getfield 33, 3) := by decide +kernel
theorem dX2_leastSpent_5 : decode cX2_leastSpent 5 = .ok (.ishl, 1) := by decide +kernel
theorem dX2_leastSpent_6 : decode cX2_leastSpent 6 = .ok (.iconst 1, 1) := by decide +kernel
theorem dX2_leastSpent_7 : decode cX2_leastSpent 7 = .ok (.isub, 1) := by decide +kernel
theorem dX2_leastSpent_8 : decode cX2_leastSpent 8 = .ok (.istore_n 1, 1) := by decide +kernel
theorem dX2_leastSpent_9 : decode cX2_leastSpent 9 = .ok (.iload_n 1, 1) := by decide +kernel
theorem dX2_leastSpent_10 : decode cX2_leastSpent 10 = .ok (.ifCond .lt 37, 3) := by decide +kernel
theorem dX2_leastSpent_13 : decode cX2_leastSpent 13 = .ok (.aload_n 0, 1) := by decide +kernel
theorem dX2_leastSpent_14 : decode cX2_leastSpent 14 = .ok (.getfield 21, 3) := by decide +kernel
theorem dX2_leastSpent_17 : decode cX2_leastSpent 17 = .ok (.iload_n 1, 1) := by decide +kernel
theorem dX2_leastSpent_18 : decode cX2_leastSpent 18 = .ok (.aload_n 0, 1) := by decide +kernel
theorem dX2_leastSpent_19 : decode cX2_leastSpent 19 = .ok (.aload_n 0, 1) := by decide +kernel
theorem dX2_leastSpent_20 : decode cX2_leastSpent 20 = .ok (.getfield 18, 3) := by decide +kernel
theorem dX2_leastSpent_23 : decode cX2_leastSpent 23 = .ok (.iload_n 1, 1) := by decide +kernel
theorem dX2_leastSpent_24 : decode cX2_leastSpent 24 = .ok (.iaload, 1) := by decide +kernel
theorem dX2_leastSpent_25 : decode cX2_leastSpent 25 = .ok (.invokevirtual 55, 3) := by decide +kernel
theorem dX2_leastSpent_28 : decode cX2_leastSpent 28 = .ok (.ifCond .eq 7, 3) := by decide +kernel
theorem dX2_leastSpent_31 : decode cX2_leastSpent 31 = .ok (.iconst 0, 1) := by decide +kernel
theorem dX2_leastSpent_32 : decode cX2_leastSpent 32 = .ok (.goto 8, 3) := by decide +kernel
theorem dX2_leastSpent_35 : decode cX2_leastSpent 35 = .ok (.aload_n 0, 1) := by decide +kernel
theorem dX2_leastSpent_36 : decode cX2_leastSpent 36 = .ok (.iload_n 1, 1) := by decide +kernel
theorem dX2_leastSpent_37 : decode cX2_leastSpent 37 = .ok (.invokevirtual 59, 3) := by decide +kernel
theorem dX2_leastSpent_40 : decode cX2_leastSpent 40 = .ok (.iastore, 1) := by decide +kernel
theorem dX2_leastSpent_41 : decode cX2_leastSpent 41 = .ok (.iinc 1 (-1), 3) := by decide +kernel
theorem dX2_leastSpent_44 : decode cX2_leastSpent 44 = .ok (.goto (-35), 3) := by decide +kernel
theorem dX2_leastSpent_47 : decode cX2_leastSpent 47 = .ok (.aload_n 0, 1) := by decide +kernel
theorem dX2_leastSpent_48 : decode cX2_leastSpent 48 = .ok (.getfield 21, 3) := by decide +kernel
theorem dX2_leastSpent_51 : decode cX2_leastSpent 51 = .ok (.iconst 0, 1) := by decide +kernel
theorem dX2_leastSpent_52 : decode cX2_leastSpent 52 = .ok (.iaload, 1) := by decide +kernel
theorem dX2_leastSpent_53 : decode cX2_leastSpent 53 = .ok (.ireturn, 1) := by decide +kernel
theorem dX2_leastOnward_0 : decode cX2_leastOnward 0 = .ok (.bipush (-5), 2) := by decide +kernel
theorem dX2_leastOnward_2 : decode cX2_leastOnward 2 = .ok (.istore_n 2, 1) := by decide +kernel
theorem dX2_leastOnward_3 : decode cX2_leastOnward 3 = .ok (.iconst 0, 1) := by decide +kernel
theorem dX2_leastOnward_4 : decode cX2_leastOnward 4 = .ok (.istore_n 3, 1) := by decide +kernel
theorem dX2_leastOnward_5 : decode cX2_leastOnward 5 = .ok (.iload_n 3, 1) := by decide +kernel
theorem dX2_leastOnward_6 : decode cX2_leastOnward 6 = .ok (.aload_n 0, 1) := by decide +kernel
theorem dX2_leastOnward_7 : decode cX2_leastOnward 7 = .ok (.getfield 33, 3) := by decide +kernel
theorem dX2_leastOnward_10 : decode cX2_leastOnward 10 = .ok (.if_icmp .ge 52, 3) := by decide +kernel
theorem dX2_leastOnward_13 : decode cX2_leastOnward 13 = .ok (.iload_n 1, 1) := by decide +kernel
theorem dX2_leastOnward_14 : decode cX2_leastOnward 14 = .ok (.iload_n 3, 1) := by decide +kernel
theorem dX2_leastOnward_15 : decode cX2_leastOnward 15 = .ok (.invokestatic 62, 3) := by decide +kernel
theorem dX2_leastOnward_18 : decode cX2_leastOnward 18 = .ok (.ifCond .eq 8, 3) := by decide +kernel
theorem dX2_leastOnward_21 : decode cX2_leastOnward 21 = .ok (.bipush (-5), 2) := by decide +kernel
theorem dX2_leastOnward_23 : decode cX2_leastOnward 23 = .ok (.goto 9, 3) := by decide +kernel
theorem dX2_leastOnward_26 : decode cX2_leastOnward 26 = .ok (.aload_n 0, 1) := by decide +kernel
theorem dX2_leastOnward_27 : decode cX2_leastOnward 27 = .ok (.iload_n 1, 1) := by decide +kernel
theorem dX2_leastOnward_28 : decode cX2_leastOnward 28 = .ok (.iload_n 3, 1) := by decide +kernel
theorem dX2_leastOnward_29 : decode cX2_leastOnward 29 = .ok (.invokevirtual 66, 3) := by decide +kernel
theorem dX2_leastOnward_32 : decode cX2_leastOnward 32 = .ok (.istore 4, 2) := by decide +kernel
theorem dX2_leastOnward_34 : decode cX2_leastOnward 34 = .ok (.iload 4, 2) := by decide +kernel
theorem dX2_leastOnward_36 : decode cX2_leastOnward 36 = .ok (.bipush (-5), 2) := by decide +kernel
theorem dX2_leastOnward_38 : decode cX2_leastOnward 38 = .ok (.if_icmp .eq 18, 3) := by decide +kernel
theorem dX2_leastOnward_41 : decode cX2_leastOnward 41 = .ok (.iload_n 2, 1) := by decide +kernel
theorem dX2_leastOnward_42 : decode cX2_leastOnward 42 = .ok (.bipush (-5), 2) := by decide +kernel
theorem dX2_leastOnward_44 : decode cX2_leastOnward 44 = .ok (.if_icmp .eq 9, 3) := by decide +kernel
theorem dX2_leastOnward_47 : decode cX2_leastOnward 47 = .ok (.iload 4, 2) := by decide +kernel
theorem dX2_leastOnward_49 : decode cX2_leastOnward 49 = .ok (.iload_n 2, 1) := by decide +kernel
theorem dX2_leastOnward_50 : decode cX2_leastOnward 50 = .ok (.if_icmp .ge 6, 3) := by decide +kernel
theorem dX2_leastOnward_53 : decode cX2_leastOnward 53 = .ok (.iload 4, 2) := by decide +kernel
theorem dX2_leastOnward_55 : decode cX2_leastOnward 55 = .ok (.istore_n 2, 1) := by decide +kernel
theorem dX2_leastOnward_56 : decode cX2_leastOnward 56 = .ok (.iinc 3 1, 3) := by decide +kernel
theorem dX2_leastOnward_59 : decode cX2_leastOnward 59 = .ok (.goto (-54), 3) := by decide +kernel
theorem dX2_leastOnward_62 : decode cX2_leastOnward 62 = .ok (.iload_n 2, 1) := by decide +kernel
theorem dX2_leastOnward_63 : decode cX2_leastOnward 63 = .ok (.ireturn, 1) := by decide +kernel
theorem dX2_spentFrom_0 : decode cX2_spentFrom 0 = .ok (.aload_n 0, 1) := by decide +kernel
theorem dX2_spentFrom_1 : decode cX2_spentFrom 1 = .ok (.getfield 21, 3) := by decide +kernel
theorem dX2_spentFrom_4 : decode cX2_spentFrom 4 = .ok (.iload_n 1, 1) := by decide +kernel
theorem dX2_spentFrom_5 : decode cX2_spentFrom 5 = .ok (.iconst 1, 1) := by decide +kernel
theorem dX2_spentFrom_6 : decode cX2_spentFrom 6 = .ok (.iload_n 2, 1) := by decide +kernel
theorem dX2_spentFrom_7 : decode cX2_spentFrom 7 = .ok (.ishl, 1) := by decide +kernel
theorem dX2_spentFrom_8 : decode cX2_spentFrom 8 = .ok (.ior, 1) := by decide +kernel
theorem dX2_spentFrom_9 : decode cX2_spentFrom 9 = .ok (.iaload, 1) := by decide +kernel
theorem dX2_spentFrom_10 : decode cX2_spentFrom 10 = .ok (.istore_n 3, 1) := by decide +kernel
theorem dX2_spentFrom_11 : decode cX2_spentFrom 11 = .ok (.iload_n 3, 1) := by decide +kernel
theorem dX2_spentFrom_12 : decode cX2_spentFrom 12 = .ok (.bipush (-5), 2) := by decide +kernel
theorem dX2_spentFrom_14 : decode cX2_spentFrom 14 = .ok (.if_icmp .ne 8, 3) := by decide +kernel
theorem dX2_spentFrom_17 : decode cX2_spentFrom 17 = .ok (.bipush (-5), 2) := by decide +kernel
theorem dX2_spentFrom_19 : decode cX2_spentFrom 19 = .ok (.goto 16, 3) := by decide +kernel
theorem dX2_spentFrom_22 : decode cX2_spentFrom 22 = .ok (.aload_n 0, 1) := by decide +kernel
theorem dX2_spentFrom_23 : decode cX2_spentFrom 23 = .ok (.iload_n 2, 1) := by decide +kernel
theorem dX2_spentFrom_24 : decode cX2_spentFrom 24 = .ok (.aload_n 0, 1) := by decide +kernel
theorem dX2_spentFrom_25 : decode cX2_spentFrom 25 = .ok (.getfield 18, 3) := by decide +kernel
theorem dX2_spentFrom_28 : decode cX2_spentFrom 28 = .ok (.iload_n 1, 1) := by decide +kernel
theorem dX2_spentFrom_29 : decode cX2_spentFrom 29 = .ok (.iaload, 1) := by decide +kernel
theorem dX2_spentFrom_30 : decode cX2_spentFrom 30 = .ok (.invokevirtual 69, 3) := by decide +kernel
theorem dX2_spentFrom_33 : decode cX2_spentFrom 33 = .ok (.iload_n 3, 1) := by decide +kernel
theorem dX2_spentFrom_34 : decode cX2_spentFrom 34 = .ok (.iadd, 1) := by decide +kernel
theorem dX2_spentFrom_35 : decode cX2_spentFrom 35 = .ok (.ireturn, 1) := by decide +kernel
theorem dX2_leastDigits_0 : decode cX2_leastDigits 0 = .ok (.iconst 0, 1) := by decide +kernel
theorem dX2_leastDigits_1 : decode cX2_leastDigits 1 = .ok (.istore_n 1, 1) := by decide +kernel
theorem dX2_leastDigits_2 : decode cX2_leastDigits 2 = .ok (.iconst 0, 1) := by decide +kernel
theorem dX2_leastDigits_3 : decode cX2_leastDigits 3 = .ok (.istore_n 2, 1) := by decide +kernel
theorem dX2_leastDigits_4 : decode cX2_leastDigits 4 = .ok (.iconst 0, 1) := by decide +kernel
theorem dX2_leastDigits_5 : decode cX2_leastDigits 5 = .ok (.istore_n 3, 1) := by decide +kernel
theorem dX2_leastDigits_6 : decode cX2_leastDigits 6 = .ok (.iload_n 3, 1) := by decide +kernel
theorem dX2_leastDigits_7 : decode cX2_leastDigits 7 = .ok (.aload_n 0, 1) := by decide +kernel
theorem dX2_leastDigits_8 : decode cX2_leastDigits 8 = .ok (.getfield 33, 3) := by decide +kernel
theorem dX2_leastDigits_11 : decode cX2_leastDigits 11 = .ok (.if_icmp .ge 46, 3) := by decide +kernel
theorem dX2_leastDigits_14 : decode cX2_leastDigits 14 = .ok (.aload_n 0, 1) := by decide +kernel
theorem dX2_leastDigits_15 : decode cX2_leastDigits 15 = .ok (.aload_n 0, 1) := by decide +kernel
theorem dX2_leastDigits_16 : decode cX2_leastDigits 16 = .ok (.getfield 18, 3) := by decide +kernel
theorem dX2_leastDigits_19 : decode cX2_leastDigits 19 = .ok (.iload_n 1, 1) := by decide +kernel
theorem dX2_leastDigits_20 : decode cX2_leastDigits 20 = .ok (.iaload, 1) := by decide +kernel
theorem dX2_leastDigits_21 : decode cX2_leastDigits 21 = .ok (.invokevirtual 55, 3) := by decide +kernel
theorem dX2_leastDigits_24 : decode cX2_leastDigits 24 = .ok (.ifCond .ne 33, 3) := by decide +kernel
theorem dX2_leastDigits_27 : decode cX2_leastDigits 27 = .ok (.aload_n 0, 1) := by decide +kernel
theorem dX2_leastDigits_28 : decode cX2_leastDigits 28 = .ok (.iload_n 1, 1) := by decide +kernel
theorem dX2_leastDigits_29 : decode cX2_leastDigits 29 = .ok (.invokevirtual 72, 3) := by decide +kernel
theorem dX2_leastDigits_32 : decode cX2_leastDigits 32 = .ok (.istore 4, 2) := by decide +kernel
theorem dX2_leastDigits_34 : decode cX2_leastDigits 34 = .ok (.iload_n 2, 1) := by decide +kernel
theorem dX2_leastDigits_35 : decode cX2_leastDigits 35 = .ok (.bipush 10, 2) := by decide +kernel
theorem dX2_leastDigits_37 : decode cX2_leastDigits 37 = .ok (.imul, 1) := by decide +kernel
theorem dX2_leastDigits_38 : decode cX2_leastDigits 38 = .ok (.iload 4, 2) := by decide +kernel
theorem dX2_leastDigits_40 : decode cX2_leastDigits 40 = .ok (.iadd, 1) := by decide +kernel
theorem dX2_leastDigits_41 : decode cX2_leastDigits 41 = .ok (.iconst 1, 1) := by decide +kernel
theorem dX2_leastDigits_42 : decode cX2_leastDigits 42 = .ok (.iadd, 1) := by decide +kernel
theorem dX2_leastDigits_43 : decode cX2_leastDigits 43 = .ok (.istore_n 2, 1) := by decide +kernel
theorem dX2_leastDigits_44 : decode cX2_leastDigits 44 = .ok (.iload_n 1, 1) := by decide +kernel
theorem dX2_leastDigits_45 : decode cX2_leastDigits 45 = .ok (.iconst 1, 1) := by decide +kernel
theorem dX2_leastDigits_46 : decode cX2_leastDigits 46 = .ok (.iload 4, 2) := by decide +kernel
theorem dX2_leastDigits_48 : decode cX2_leastDigits 48 = .ok (.ishl, 1) := by decide +kernel
theorem dX2_leastDigits_49 : decode cX2_leastDigits 49 = .ok (.ior, 1) := by decide +kernel
theorem dX2_leastDigits_50 : decode cX2_leastDigits 50 = .ok (.istore_n 1, 1) := by decide +kernel
theorem dX2_leastDigits_51 : decode cX2_leastDigits 51 = .ok (.iinc 3 1, 3) := by decide +kernel
theorem dX2_leastDigits_54 : decode cX2_leastDigits 54 = .ok (.goto (-48), 3) := by decide +kernel
theorem dX2_leastDigits_57 : decode cX2_leastDigits 57 = .ok (.iload_n 2, 1) := by decide +kernel
theorem dX2_leastDigits_58 : decode cX2_leastDigits 58 = .ok (.ireturn, 1) := by decide +kernel
theorem dX2_firstOfLeast_0 : decode cX2_firstOfLeast 0 = .ok (.iconst 0, 1) := by decide +kernel
theorem dX2_firstOfLeast_1 : decode cX2_firstOfLeast 1 = .ok (.istore_n 2, 1) := by decide +kernel
theorem dX2_firstOfLeast_2 : decode cX2_firstOfLeast 2 = .ok (.iload_n 2, 1) := by decide +kernel
theorem dX2_firstOfLeast_3 : decode cX2_firstOfLeast 3 = .ok (.aload_n 0, 1) := by decide +kernel
theorem dX2_firstOfLeast_4 : decode cX2_firstOfLeast 4 = .ok (.getfield 33, 3) := by decide +kernel
theorem dX2_firstOfLeast_7 : decode cX2_firstOfLeast 7 = .ok (.if_icmp .ge 34, 3) := by decide +kernel
theorem dX2_firstOfLeast_10 : decode cX2_firstOfLeast 10 = .ok (.iload_n 1, 1) := by decide +kernel
theorem dX2_firstOfLeast_11 : decode cX2_firstOfLeast 11 = .ok (.iload_n 2, 1) := by decide +kernel
theorem dX2_firstOfLeast_12 : decode cX2_firstOfLeast 12 = .ok (.invokestatic 62, 3) := by decide +kernel
theorem dX2_firstOfLeast_15 : decode cX2_firstOfLeast 15 = .ok (.ifCond .ne 20, 3) := by decide +kernel
theorem dX2_firstOfLeast_18 : decode cX2_firstOfLeast 18 = .ok (.aload_n 0, 1) := by decide +kernel
theorem dX2_firstOfLeast_19 : decode cX2_firstOfLeast 19 = .ok (.iload_n 1, 1) := by decide +kernel
theorem dX2_firstOfLeast_20 : decode cX2_firstOfLeast 20 = .ok (.iload_n 2, 1) := by decide +kernel
theorem dX2_firstOfLeast_21 : decode cX2_firstOfLeast 21 = .ok (.invokevirtual 66, 3) := by decide +kernel
theorem dX2_firstOfLeast_24 : decode cX2_firstOfLeast 24 = .ok (.aload_n 0, 1) := by decide +kernel
theorem dX2_firstOfLeast_25 : decode cX2_firstOfLeast 25 = .ok (.getfield 21, 3) := by decide +kernel
theorem dX2_firstOfLeast_28 : decode cX2_firstOfLeast 28 = .ok (.iload_n 1, 1) := by decide +kernel
theorem dX2_firstOfLeast_29 : decode cX2_firstOfLeast 29 = .ok (.iaload, 1) := by decide +kernel
theorem dX2_firstOfLeast_30 : decode cX2_firstOfLeast 30 = .ok (.if_icmp .ne 5, 3) := by decide +kernel
theorem dX2_firstOfLeast_33 : decode cX2_firstOfLeast 33 = .ok (.iload_n 2, 1) := by decide +kernel
theorem dX2_firstOfLeast_34 : decode cX2_firstOfLeast 34 = .ok (.ireturn, 1) := by decide +kernel
theorem dX2_firstOfLeast_35 : decode cX2_firstOfLeast 35 = .ok (.iinc 2 1, 3) := by decide +kernel
theorem dX2_firstOfLeast_38 : decode cX2_firstOfLeast 38 = .ok (.goto (-36), 3) := by decide +kernel
theorem dX2_firstOfLeast_41 : decode cX2_firstOfLeast 41 = .ok (.iconst 0, 1) := by decide +kernel
theorem dX2_firstOfLeast_42 : decode cX2_firstOfLeast 42 = .ok (.ireturn, 1) := by decide +kernel
theorem dX2_spentBy_0 : decode cX2_spentBy 0 = .ok (.iload_n 1, 1) := by decide +kernel
theorem dX2_spentBy_1 : decode cX2_spentBy 1 = .ok (.aload_n 0, 1) := by decide +kernel
theorem dX2_spentBy_2 : decode cX2_spentBy 2 = .ok (.getfield 33, 3) := by decide +kernel
theorem dX2_spentBy_5 : decode cX2_spentBy 5 = .ok (.aload_n 0, 1) := by decide +kernel
theorem dX2_spentBy_6 : decode cX2_spentBy 6 = .ok (.getfield 15, 3) := by decide +kernel
theorem dX2_spentBy_9 : decode cX2_spentBy 9 = .ok (.invokestatic 75, 3) := by decide +kernel
theorem dX2_spentBy_12 : decode cX2_spentBy 12 = .ok (.istore_n 2, 1) := by decide +kernel
theorem dX2_spentBy_13 : decode cX2_spentBy 13 = .ok (.iconst 0, 1) := by decide +kernel
theorem dX2_spentBy_14 : decode cX2_spentBy 14 = .ok (.istore_n 3, 1) := by decide +kernel
theorem dX2_spentBy_15 : decode cX2_spentBy 15 = .ok (.iconst 0, 1) := by decide +kernel
theorem dX2_spentBy_16 : decode cX2_spentBy 16 = .ok (.istore 4, 2) := by decide +kernel
theorem dX2_spentBy_18 : decode cX2_spentBy 18 = .ok (.iconst 0, 1) := by decide +kernel
theorem dX2_spentBy_19 : decode cX2_spentBy 19 = .ok (.istore 5, 2) := by decide +kernel
theorem dX2_spentBy_21 : decode cX2_spentBy 21 = .ok (.iload 5, 2) := by decide +kernel
theorem dX2_spentBy_23 : decode cX2_spentBy 23 = .ok (.iload_n 2, 1) := by decide +kernel
theorem dX2_spentBy_24 : decode cX2_spentBy 24 = .ok (.if_icmp .ge 54, 3) := by decide +kernel
theorem dX2_spentBy_27 : decode cX2_spentBy 27 = .ok (.aload_n 0, 1) := by decide +kernel
theorem dX2_spentBy_28 : decode cX2_spentBy 28 = .ok (.iload 4, 2) := by decide +kernel
theorem dX2_spentBy_30 : decode cX2_spentBy 30 = .ok (.invokevirtual 55, 3) := by decide +kernel
theorem dX2_spentBy_33 : decode cX2_spentBy 33 = .ok (.ifCond .eq 6, 3) := by decide +kernel
theorem dX2_spentBy_36 : decode cX2_spentBy 36 = .ok (.bipush (-2), 2) := by decide +kernel
theorem dX2_spentBy_38 : decode cX2_spentBy 38 = .ok (.ireturn, 1) := by decide +kernel
theorem dX2_spentBy_39 : decode cX2_spentBy 39 = .ok (.iload_n 3, 1) := by decide +kernel
theorem dX2_spentBy_40 : decode cX2_spentBy 40 = .ok (.aload_n 0, 1) := by decide +kernel
theorem dX2_spentBy_41 : decode cX2_spentBy 41 = .ok (.aload_n 0, 1) := by decide +kernel
theorem dX2_spentBy_42 : decode cX2_spentBy 42 = .ok (.getfield 15, 3) := by decide +kernel
theorem dX2_spentBy_45 : decode cX2_spentBy 45 = .ok (.iload 5, 2) := by decide +kernel
theorem dX2_spentBy_47 : decode cX2_spentBy 47 = .ok (.iaload, 1) := by decide +kernel
theorem dX2_spentBy_48 : decode cX2_spentBy 48 = .ok (.iload 4, 2) := by decide +kernel
theorem dX2_spentBy_50 : decode cX2_spentBy 50 = .ok (.invokevirtual 69, 3) := by decide +kernel
theorem dX2_spentBy_53 : decode cX2_spentBy 53 = .ok (.iadd, 1) := by decide +kernel
theorem dX2_spentBy_54 : decode cX2_spentBy 54 = .ok (.istore_n 3, 1) := by decide +kernel
theorem dX2_spentBy_55 : decode cX2_spentBy 55 = .ok (.iload 4, 2) := by decide +kernel
theorem dX2_spentBy_57 : decode cX2_spentBy 57 = .ok (.aload_n 0, 1) := by decide +kernel
theorem dX2_spentBy_58 : decode cX2_spentBy 58 = .ok (.getfield 9, 3) := by decide +kernel
theorem dX2_spentBy_61 : decode cX2_spentBy 61 = .ok (.aload_n 0, 1) := by decide +kernel
theorem dX2_spentBy_62 : decode cX2_spentBy 62 = .ok (.getfield 15, 3) := by decide +kernel
theorem dX2_spentBy_65 : decode cX2_spentBy 65 = .ok (.iload 5, 2) := by decide +kernel
theorem dX2_spentBy_67 : decode cX2_spentBy 67 = .ok (.iaload, 1) := by decide +kernel
theorem dX2_spentBy_68 : decode cX2_spentBy 68 = .ok (.iaload, 1) := by decide +kernel
theorem dX2_spentBy_69 : decode cX2_spentBy 69 = .ok (.iadd, 1) := by decide +kernel
theorem dX2_spentBy_70 : decode cX2_spentBy 70 = .ok (.istore 4, 2) := by decide +kernel
theorem dX2_spentBy_72 : decode cX2_spentBy 72 = .ok (.iinc 5 1, 3) := by decide +kernel
theorem dX2_spentBy_75 : decode cX2_spentBy 75 = .ok (.goto (-54), 3) := by decide +kernel
theorem dX2_spentBy_78 : decode cX2_spentBy 78 = .ok (.aload_n 0, 1) := by decide +kernel
theorem dX2_spentBy_79 : decode cX2_spentBy 79 = .ok (.iload 4, 2) := by decide +kernel
theorem dX2_spentBy_81 : decode cX2_spentBy 81 = .ok (.invokevirtual 55, 3) := by decide +kernel
theorem dX2_spentBy_84 : decode cX2_spentBy 84 = .ok (.ifCond .eq 7, 3) := by decide +kernel
theorem dX2_spentBy_87 : decode cX2_spentBy 87 = .ok (.iload_n 3, 1) := by decide +kernel
theorem dX2_spentBy_88 : decode cX2_spentBy 88 = .ok (.goto 5, 3) := by decide +kernel
theorem dX2_spentBy_91 : decode cX2_spentBy 91 = .ok (.bipush (-2), 2) := by decide +kernel
theorem dX2_spentBy_93 : decode cX2_spentBy 93 = .ok (.ireturn, 1) := by decide +kernel
theorem dX2_howMany_0 : decode cX2_howMany 0 = .ok (.iconst 1, 1) := by decide +kernel
theorem dX2_howMany_1 : decode cX2_howMany 1 = .ok (.aload_n 0, 1) := by decide +kernel
theorem dX2_howMany_2 : decode cX2_howMany 2 = .ok (.getfield 33, 3) := by decide +kernel
theorem dX2_howMany_5 : decode cX2_howMany 5 = .ok (.ishl, 1) := by decide +kernel
theorem dX2_howMany_6 : decode cX2_howMany 6 = .ok (.iconst 1, 1) := by decide +kernel
theorem dX2_howMany_7 : decode cX2_howMany 7 = .ok (.isub, 1) := by decide +kernel
theorem dX2_howMany_8 : decode cX2_howMany 8 = .ok (.istore_n 1, 1) := by decide +kernel
theorem dX2_howMany_9 : decode cX2_howMany 9 = .ok (.iload_n 1, 1) := by decide +kernel
theorem dX2_howMany_10 : decode cX2_howMany 10 = .ok (.ifCond .lt 37, 3) := by decide +kernel
theorem dX2_howMany_13 : decode cX2_howMany 13 = .ok (.aload_n 0, 1) := by decide +kernel
theorem dX2_howMany_14 : decode cX2_howMany 14 = .ok (.getfield 21, 3) := by decide +kernel
theorem dX2_howMany_17 : decode cX2_howMany 17 = .ok (.iload_n 1, 1) := by decide +kernel
theorem dX2_howMany_18 : decode cX2_howMany 18 = .ok (.aload_n 0, 1) := by decide +kernel
theorem dX2_howMany_19 : decode cX2_howMany 19 = .ok (.aload_n 0, 1) := by decide +kernel
theorem dX2_howMany_20 : decode cX2_howMany 20 = .ok (.getfield 18, 3) := by decide +kernel
theorem dX2_howMany_23 : decode cX2_howMany 23 = .ok (.iload_n 1, 1) := by decide +kernel
theorem dX2_howMany_24 : decode cX2_howMany 24 = .ok (.iaload, 1) := by decide +kernel
theorem dX2_howMany_25 : decode cX2_howMany 25 = .ok (.invokevirtual 55, 3) := by decide +kernel
theorem dX2_howMany_28 : decode cX2_howMany 28 = .ok (.ifCond .eq 7, 3) := by decide +kernel
theorem dX2_howMany_31 : decode cX2_howMany 31 = .ok (.iconst 1, 1) := by decide +kernel
theorem dX2_howMany_32 : decode cX2_howMany 32 = .ok (.goto 8, 3) := by decide +kernel
theorem dX2_howMany_35 : decode cX2_howMany 35 = .ok (.aload_n 0, 1) := by decide +kernel
theorem dX2_howMany_36 : decode cX2_howMany 36 = .ok (.iload_n 1, 1) := by decide +kernel
theorem dX2_howMany_37 : decode cX2_howMany 37 = .ok (.invokevirtual 79, 3) := by decide +kernel
theorem dX2_howMany_40 : decode cX2_howMany 40 = .ok (.iastore, 1) := by decide +kernel
theorem dX2_howMany_41 : decode cX2_howMany 41 = .ok (.iinc 1 (-1), 3) := by decide +kernel
theorem dX2_howMany_44 : decode cX2_howMany 44 = .ok (.goto (-35), 3) := by decide +kernel
theorem dX2_howMany_47 : decode cX2_howMany 47 = .ok (.aload_n 0, 1) := by decide +kernel
theorem dX2_howMany_48 : decode cX2_howMany 48 = .ok (.getfield 21, 3) := by decide +kernel
theorem dX2_howMany_51 : decode cX2_howMany 51 = .ok (.iconst 0, 1) := by decide +kernel
theorem dX2_howMany_52 : decode cX2_howMany 52 = .ok (.iaload, 1) := by decide +kernel
theorem dX2_howMany_53 : decode cX2_howMany 53 = .ok (.ireturn, 1) := by decide +kernel
theorem dX2_howManyOnward_0 : decode cX2_howManyOnward 0 = .ok (.iconst 0, 1) := by decide +kernel
theorem dX2_howManyOnward_1 : decode cX2_howManyOnward 1 = .ok (.istore_n 2, 1) := by decide +kernel
theorem dX2_howManyOnward_2 : decode cX2_howManyOnward 2 = .ok (.iconst 0, 1) := by decide +kernel
theorem dX2_howManyOnward_3 : decode cX2_howManyOnward 3 = .ok (.istore_n 3, 1) := by decide +kernel
theorem dX2_howManyOnward_4 : decode cX2_howManyOnward 4 = .ok (.iload_n 3, 1) := by decide +kernel
theorem dX2_howManyOnward_5 : decode cX2_howManyOnward 5 = .ok (.aload_n 0, 1) := by decide +kernel
theorem dX2_howManyOnward_6 : decode cX2_howManyOnward 6 = .ok (.getfield 33, 3) := by decide +kernel
theorem dX2_howManyOnward_9 : decode cX2_howManyOnward 9 = .ok (.if_icmp .ge 30, 3) := by decide +kernel
theorem dX2_howManyOnward_12 : decode cX2_howManyOnward 12 = .ok (.iload_n 1, 1) := by decide +kernel
theorem dX2_howManyOnward_13 : decode cX2_howManyOnward 13 = .ok (.iload_n 3, 1) := by decide +kernel
theorem dX2_howManyOnward_14 : decode cX2_howManyOnward 14 = .ok (.invokestatic 62, 3) := by decide +kernel
theorem dX2_howManyOnward_17 : decode cX2_howManyOnward 17 = .ok (.ifCond .ne 16, 3) := by decide +kernel
theorem dX2_howManyOnward_20 : decode cX2_howManyOnward 20 = .ok (.iload_n 2, 1) := by decide +kernel
theorem dX2_howManyOnward_21 : decode cX2_howManyOnward 21 = .ok (.aload_n 0, 1) := by decide +kernel
theorem dX2_howManyOnward_22 : decode cX2_howManyOnward 22 = .ok (.getfield 21, 3) := by decide +kernel
theorem dX2_howManyOnward_25 : decode cX2_howManyOnward 25 = .ok (.iload_n 1, 1) := by decide +kernel
theorem dX2_howManyOnward_26 : decode cX2_howManyOnward 26 = .ok (.iconst 1, 1) := by decide +kernel
theorem dX2_howManyOnward_27 : decode cX2_howManyOnward 27 = .ok (.iload_n 3, 1) := by decide +kernel
theorem dX2_howManyOnward_28 : decode cX2_howManyOnward 28 = .ok (.ishl, 1) := by decide +kernel
theorem dX2_howManyOnward_29 : decode cX2_howManyOnward 29 = .ok (.ior, 1) := by decide +kernel
theorem dX2_howManyOnward_30 : decode cX2_howManyOnward 30 = .ok (.iaload, 1) := by decide +kernel
theorem dX2_howManyOnward_31 : decode cX2_howManyOnward 31 = .ok (.iadd, 1) := by decide +kernel
theorem dX2_howManyOnward_32 : decode cX2_howManyOnward 32 = .ok (.istore_n 2, 1) := by decide +kernel
theorem dX2_howManyOnward_33 : decode cX2_howManyOnward 33 = .ok (.iinc 3 1, 3) := by decide +kernel
theorem dX2_howManyOnward_36 : decode cX2_howManyOnward 36 = .ok (.goto (-32), 3) := by decide +kernel
theorem dX2_howManyOnward_39 : decode cX2_howManyOnward 39 = .ok (.iload_n 2, 1) := by decide +kernel
theorem dX2_howManyOnward_40 : decode cX2_howManyOnward 40 = .ok (.ireturn, 1) := by decide +kernel
theorem dX3_init_0 : decode cX3_init 0 = .ok (.aload_n 0, 1) := by decide +kernel
theorem dX3_init_1 : decode cX3_init 1 = .ok (.invokespecial 3, 3) := by decide +kernel
theorem dX3_init_4 : decode cX3_init 4 = .ok (.aload_n 0, 1) := by decide +kernel
theorem dX3_init_5 : decode cX3_init 5 = .ok (.iload_n 1, 1) := by decide +kernel
theorem dX3_init_6 : decode cX3_init 6 = .ok (.putfield 9, 3) := by decide +kernel
theorem dX3_init_9 : decode cX3_init 9 = .ok (.aload_n 0, 1) := by decide +kernel
theorem dX3_init_10 : decode cX3_init 10 = .ok (.iload_n 2, 1) := by decide +kernel
theorem dX3_init_11 : decode cX3_init 11 = .ok (.putfield 15, 3) := by decide +kernel
theorem dX3_init_14 : decode cX3_init 14 = .ok (.aload_n 0, 1) := by decide +kernel
theorem dX3_init_15 : decode cX3_init 15 = .ok (.iload_n 3, 1) := by decide +kernel
theorem dX3_init_16 : decode cX3_init 16 = .ok (.putfield 18, 3) := by decide +kernel
theorem dX3_init_19 : decode cX3_init 19 = .ok (.return_, 1) := by decide +kernel
theorem dX3_canBe_0 : decode cX3_canBe 0 = .ok (.iload_n 0, 1) := by decide +kernel
theorem dX3_canBe_1 : decode cX3_canBe 1 = .ok (.iconst 0, 1) := by decide +kernel
theorem dX3_canBe_2 : decode cX3_canBe 2 = .ok (.iconst 3, 1) := by decide +kernel
theorem dX3_canBe_3 : decode cX3_canBe 3 = .ok (.invokestatic 21, 3) := by decide +kernel
theorem dX3_canBe_6 : decode cX3_canBe 6 = .ok (.ifCond .eq 27, 3) := by decide +kernel
theorem dX3_canBe_9 : decode cX3_canBe 9 = .ok (.iload_n 1, 1) := by decide +kernel
theorem dX3_canBe_10 : decode cX3_canBe 10 = .ok (.iconst 1, 1) := by decide +kernel
theorem dX3_canBe_11 : decode cX3_canBe 11 = .ok (.sipush 600, 3) := by decide +kernel
theorem dX3_canBe_14 : decode cX3_canBe 14 = .ok (.invokestatic 21, 3) := by decide +kernel
theorem dX3_canBe_17 : decode cX3_canBe 17 = .ok (.ifCond .eq 16, 3) := by decide +kernel
theorem dX3_canBe_20 : decode cX3_canBe 20 = .ok (.iload_n 2, 1) := by decide +kernel
theorem dX3_canBe_21 : decode cX3_canBe 21 = .ok (.iconst 0, 1) := by decide +kernel
theorem dX3_canBe_22 : decode cX3_canBe 22 = .ok (.iconst 1, 1) := by decide +kernel
theorem dX3_canBe_23 : decode cX3_canBe 23 = .ok (.invokestatic 21, 3) := by decide +kernel
theorem dX3_canBe_26 : decode cX3_canBe 26 = .ok (.ifCond .eq 7, 3) := by decide +kernel
theorem dX3_canBe_29 : decode cX3_canBe 29 = .ok (.iconst 1, 1) := by decide +kernel
theorem dX3_canBe_30 : decode cX3_canBe 30 = .ok (.goto 4, 3) := by decide +kernel
theorem dX3_canBe_33 : decode cX3_canBe 33 = .ok (.iconst 0, 1) := by decide +kernel
theorem dX3_canBe_34 : decode cX3_canBe 34 = .ok (.ireturn, 1) := by decide +kernel
theorem dX3_presses_0 : decode cX3_presses 0 = .ok (.iload_n 0, 1) := by decide +kernel
theorem dX3_presses_1 : decode cX3_presses 1 = .ok (.tableswitch 41 1 3 #[27, 31, 35], 27) := by decide +kernel
theorem dX3_presses_28 : decode cX3_presses 28 = .ok (.iconst 2, 1) := by decide +kernel
theorem dX3_presses_29 : decode cX3_presses 29 = .ok (.iload_n 1, 1) := by decide +kernel
theorem dX3_presses_30 : decode cX3_presses 30 = .ok (.imul, 1) := by decide +kernel
theorem dX3_presses_31 : decode cX3_presses 31 = .ok (.ireturn, 1) := by decide +kernel
theorem dX3_presses_32 : decode cX3_presses 32 = .ok (.iload_n 1, 1) := by decide +kernel
theorem dX3_presses_33 : decode cX3_presses 33 = .ok (.iconst 2, 1) := by decide +kernel
theorem dX3_presses_34 : decode cX3_presses 34 = .ok (.idiv, 1) := by decide +kernel
theorem dX3_presses_35 : decode cX3_presses 35 = .ok (.ireturn, 1) := by decide +kernel
theorem dX3_presses_36 : decode cX3_presses 36 = .ok (.iconst 2, 1) := by decide +kernel
theorem dX3_presses_37 : decode cX3_presses 37 = .ok (.iload_n 1, 1) := by decide +kernel
theorem dX3_presses_38 : decode cX3_presses 38 = .ok (.imul, 1) := by decide +kernel
theorem dX3_presses_39 : decode cX3_presses 39 = .ok (.iconst 3, 1) := by decide +kernel
theorem dX3_presses_40 : decode cX3_presses 40 = .ok (.iadd, 1) := by decide +kernel
theorem dX3_presses_41 : decode cX3_presses 41 = .ok (.ireturn, 1) := by decide +kernel
theorem dX3_presses_42 : decode cX3_presses 42 = .ok (.iload_n 1, 1) := by decide +kernel
theorem dX3_presses_43 : decode cX3_presses 43 = .ok (.ireturn, 1) := by decide +kernel
theorem dX3_toldAs_0 : decode cX3_toldAs 0 = .ok (.iconst 2, 1) := by decide +kernel
theorem dX3_toldAs_1 : decode cX3_toldAs 1 = .ok (.ireturn, 1) := by decide +kernel
theorem dX4_init_0 : decode cX4_init 0 = .ok (.aload_n 0, 1) := by decide +kernel
theorem dX4_init_1 : decode cX4_init 1 = .ok (.invokespecial 3, 3) := by decide +kernel
theorem dX4_init_4 : decode cX4_init 4 = .ok (.aload_n 0, 1) := by decide +kernel
theorem dX4_init_5 : decode cX4_init 5 = .ok (.bipush 8, 2) := by decide +kernel
theorem dX4_init_7 : decode cX4_init 7 = .ok (.newarray .int, 2) := by decide +kernel
theorem dX4_init_9 : decode cX4_init 9 = .ok (.putfield 9, 3) := by decide +kernel
theorem dX4_init_12 : decode cX4_init 12 = .ok (.aload_n 0, 1) := by decide +kernel
theorem dX4_init_13 : decode cX4_init 13 = .ok (.bipush 8, 2) := by decide +kernel
theorem dX4_init_15 : decode cX4_init 15 = .ok (.newarray .int, 2) := by decide +kernel
theorem dX4_init_17 : decode cX4_init 17 = .ok (.putfield 15, 3) := by decide +kernel
theorem dX4_init_20 : decode cX4_init 20 = .ok (.aload_n 0, 1) := by decide +kernel
theorem dX4_init_21 : decode cX4_init 21 = .ok (.bipush 8, 2) := by decide +kernel
theorem dX4_init_23 : decode cX4_init 23 = .ok (.newarray .int, 2) := by decide +kernel
theorem dX4_init_25 : decode cX4_init 25 = .ok (.putfield 18, 3) := by decide +kernel
theorem dX4_init_28 : decode cX4_init 28 = .ok (.aload_n 0, 1) := by decide +kernel
theorem dX4_init_29 : decode cX4_init 29 = .ok (.bipush 8, 2) := by decide +kernel
theorem dX4_init_31 : decode cX4_init 31 = .ok (.bipush 8, 2) := by decide +kernel
theorem dX4_init_33 : decode cX4_init 33 = .ok (.multianewarray 21 2, 4) := by decide +kernel
theorem dX4_init_37 : decode cX4_init 37 = .ok (.putfield 23, 3) := by decide +kernel
theorem dX4_init_40 : decode cX4_init 40 = .ok (.aload_n 0, 1) := by decide +kernel
theorem dX4_init_41 : decode cX4_init 41 = .ok (.sipush 1024, 3) := by decide +kernel
theorem dX4_init_44 : decode cX4_init 44 = .ok (.newarray .int, 2) := by decide +kernel
theorem dX4_init_46 : decode cX4_init 46 = .ok (.putfield 26, 3) := by decide +kernel
theorem dX4_init_49 : decode cX4_init 49 = .ok (.return_, 1) := by decide +kernel
theorem dX4_layTold_0 : decode cX4_layTold 0 = .ok (.aload_n 0, 1) := by decide +kernel
theorem dX4_layTold_1 : decode cX4_layTold 1 = .ok (.iload_n 2, 1) := by decide +kernel
theorem dX4_layTold_2 : decode cX4_layTold 2 = .ok (.aload_n 1, 1) := by decide +kernel
theorem dX4_layTold_3 : decode cX4_layTold 3 = .ok (.getfield 29, 3) := by decide +kernel
theorem dX4_layTold_6 : decode cX4_layTold 6 = .ok (.aload_n 0, 1) := by decide +kernel
theorem dX4_layTold_7 : decode cX4_layTold 7 = .ok (.getfield 15, 3) := by decide +kernel
theorem dX4_layTold_10 : decode cX4_layTold 10 = .ok (.invokestatic 35, 3) := by decide +kernel
theorem dX4_layTold_13 : decode cX4_layTold 13 = .ok (.putfield 39, 3) := by decide +kernel
theorem dX4_layTold_16 : decode cX4_layTold 16 = .ok (.iconst 1, 1) := by decide +kernel
theorem dX4_layTold_17 : decode cX4_layTold 17 = .ok (.istore_n 3, 1) := by decide +kernel
theorem dX4_layTold_18 : decode cX4_layTold 18 = .ok (.iload_n 3, 1) := by decide +kernel
theorem dX4_layTold_19 : decode cX4_layTold 19 = .ok (.aload_n 0, 1) := by decide +kernel
theorem dX4_layTold_20 : decode cX4_layTold 20 = .ok (.getfield 39, 3) := by decide +kernel
theorem dX4_layTold_23 : decode cX4_layTold 23 = .ok (.if_icmp .ge 26, 3) := by decide +kernel
theorem dX4_layTold_26 : decode cX4_layTold 26 = .ok (.aload_n 0, 1) := by decide +kernel
theorem dX4_layTold_27 : decode cX4_layTold 27 = .ok (.getfield 15, 3) := by decide +kernel
theorem dX4_layTold_30 : decode cX4_layTold 30 = .ok (.iload_n 3, 1) := by decide +kernel
theorem dX4_layTold_31 : decode cX4_layTold 31 = .ok (.iaload, 1) := by decide +kernel
theorem dX4_layTold_32 : decode cX4_layTold 32 = .ok (.aload_n 0, 1) := by decide +kernel
theorem dX4_layTold_33 : decode cX4_layTold 33 = .ok (.getfield 15, 3) := by decide +kernel
theorem dX4_layTold_36 : decode cX4_layTold 36 = .ok (.iconst 0, 1) := by decide +kernel
theorem dX4_layTold_37 : decode cX4_layTold 37 = .ok (.iaload, 1) := by decide +kernel
theorem dX4_layTold_38 : decode cX4_layTold 38 = .ok (.if_icmp .ge 5, 3) := by decide +kernel
theorem dX4_layTold_41 : decode cX4_layTold 41 = .ok (.iconst 0, 1) := by decide +kernel
theorem dX4_layTold_42 : decode cX4_layTold 42 = .ok (.ireturn, 1) := by decide +kernel
theorem dX4_layTold_43 : decode cX4_layTold 43 = .ok (.iinc 3 1, 3) := by decide +kernel
theorem dX4_layTold_46 : decode cX4_layTold 46 = .ok (.goto (-28), 3) := by decide +kernel
theorem dX4_layTold_49 : decode cX4_layTold 49 = .ok (.aload_n 0, 1) := by decide +kernel
theorem dX4_layTold_50 : decode cX4_layTold 50 = .ok (.aload_n 1, 1) := by decide +kernel
theorem dX4_layTold_51 : decode cX4_layTold 51 = .ok (.invokevirtual 42, 3) := by decide +kernel
theorem dX4_layTold_54 : decode cX4_layTold 54 = .ok (.aload_n 0, 1) := by decide +kernel
theorem dX4_layTold_55 : decode cX4_layTold 55 = .ok (.getfield 39, 3) := by decide +kernel
theorem dX4_layTold_58 : decode cX4_layTold 58 = .ok (.ifCond .le 7, 3) := by decide +kernel
theorem dX4_layTold_61 : decode cX4_layTold 61 = .ok (.iconst 1, 1) := by decide +kernel
theorem dX4_layTold_62 : decode cX4_layTold 62 = .ok (.goto 4, 3) := by decide +kernel
theorem dX4_layTold_65 : decode cX4_layTold 65 = .ok (.iconst 0, 1) := by decide +kernel
theorem dX4_layTold_66 : decode cX4_layTold 66 = .ok (.ireturn, 1) := by decide +kernel
theorem dX4_layLeast_0 : decode cX4_layLeast 0 = .ok (.aload_n 0, 1) := by decide +kernel
theorem dX4_layLeast_1 : decode cX4_layLeast 1 = .ok (.aload_n 1, 1) := by decide +kernel
theorem dX4_layLeast_2 : decode cX4_layLeast 2 = .ok (.iload_n 2, 1) := by decide +kernel
theorem dX4_layLeast_3 : decode cX4_layLeast 3 = .ok (.iload_n 3, 1) := by decide +kernel
theorem dX4_layLeast_4 : decode cX4_layLeast 4 = .ok (.invokevirtual 46, 3) := by decide +kernel
theorem dX4_layLeast_7 : decode cX4_layLeast 7 = .ok (.aload_n 0, 1) := by decide +kernel
theorem dX4_layLeast_8 : decode cX4_layLeast 8 = .ok (.iconst 0, 1) := by decide +kernel
theorem dX4_layLeast_9 : decode cX4_layLeast 9 = .ok (.invokevirtual 50, 3) := by decide +kernel
theorem dX4_layLeast_12 : decode cX4_layLeast 12 = .ok (.aload_n 0, 1) := by decide +kernel
theorem dX4_layLeast_13 : decode cX4_layLeast 13 = .ok (.invokevirtual 54, 3) := by decide +kernel
theorem dX4_layLeast_16 : decode cX4_layLeast 16 = .ok (.istore 4, 2) := by decide +kernel
theorem dX4_layLeast_18 : decode cX4_layLeast 18 = .ok (.iconst 0, 1) := by decide +kernel
theorem dX4_layLeast_19 : decode cX4_layLeast 19 = .ok (.istore 5, 2) := by decide +kernel
theorem dX4_layLeast_21 : decode cX4_layLeast 21 = .ok (.aload_n 0, 1) := by decide +kernel
theorem dX4_layLeast_22 : decode cX4_layLeast 22 = .ok (.getfield 15, 3) := by decide +kernel
theorem dX4_layLeast_25 : decode cX4_layLeast 25 = .ok (.iconst 0, 1) := by decide +kernel
theorem dX4_layLeast_26 : decode cX4_layLeast 26 = .ok (.aload_n 0, 1) := by decide +kernel
theorem dX4_layLeast_27 : decode cX4_layLeast 27 = .ok (.getfield 9, 3) := by decide +kernel
theorem dX4_layLeast_30 : decode cX4_layLeast 30 = .ok (.iconst 0, 1) := by decide +kernel
theorem dX4_layLeast_31 : decode cX4_layLeast 31 = .ok (.iaload, 1) := by decide +kernel
theorem dX4_layLeast_32 : decode cX4_layLeast 32 = .ok (.iastore, 1) := by decide +kernel
theorem dX4_layLeast_33 : decode cX4_layLeast 33 = .ok (.iconst 1, 1) := by decide +kernel
theorem dX4_layLeast_34 : decode cX4_layLeast 34 = .ok (.istore 6, 2) := by decide +kernel
theorem dX4_layLeast_36 : decode cX4_layLeast 36 = .ok (.iload 6, 2) := by decide +kernel
theorem dX4_layLeast_38 : decode cX4_layLeast 38 = .ok (.aload_n 0, 1) := by decide +kernel
theorem dX4_layLeast_39 : decode cX4_layLeast 39 = .ok (.getfield 39, 3) := by decide +kernel
theorem dX4_layLeast_42 : decode cX4_layLeast 42 = .ok (.if_icmp .ge 48, 3) := by decide +kernel
theorem dX4_layLeast_45 : decode cX4_layLeast 45 = .ok (.aload_n 0, 1) := by decide +kernel
theorem dX4_layLeast_46 : decode cX4_layLeast 46 = .ok (.iload 4, 2) := by decide +kernel
theorem dX4_layLeast_48 : decode cX4_layLeast 48 = .ok (.iload 5, 2) := by decide +kernel
theorem dX4_layLeast_50 : decode cX4_layLeast 50 = .ok (.invokevirtual 58, 3) := by decide +kernel
theorem dX4_layLeast_53 : decode cX4_layLeast 53 = .ok (.istore 7, 2) := by decide +kernel
theorem dX4_layLeast_55 : decode cX4_layLeast 55 = .ok (.aload_n 0, 1) := by decide +kernel
theorem dX4_layLeast_56 : decode cX4_layLeast 56 = .ok (.getfield 15, 3) := by decide +kernel
theorem dX4_layLeast_59 : decode cX4_layLeast 59 = .ok (.iload 6, 2) := by decide +kernel
theorem dX4_layLeast_61 : decode cX4_layLeast 61 = .ok (.aload_n 0, 1) := by decide +kernel
theorem dX4_layLeast_62 : decode cX4_layLeast 62 = .ok (.getfield 9, 3) := by decide +kernel
theorem dX4_layLeast_65 : decode cX4_layLeast 65 = .ok (.iload 7, 2) := by decide +kernel
theorem dX4_layLeast_67 : decode cX4_layLeast 67 = .ok (.iaload, 1) := by decide +kernel
theorem dX4_layLeast_68 : decode cX4_layLeast 68 = .ok (.iastore, 1) := by decide +kernel
theorem dX4_layLeast_69 : decode cX4_layLeast 69 = .ok (.iload 4, 2) := by decide +kernel
theorem dX4_layLeast_71 : decode cX4_layLeast 71 = .ok (.iconst 1, 1) := by decide +kernel
theorem dX4_layLeast_72 : decode cX4_layLeast 72 = .ok (.iload 7, 2) := by decide +kernel
theorem dX4_layLeast_74 : decode cX4_layLeast 74 = .ok (.ishl, 1) := by decide +kernel
theorem dX4_layLeast_75 : decode cX4_layLeast 75 = .ok (.iconst (-1), 1) := by decide +kernel
theorem dX4_layLeast_76 : decode cX4_layLeast 76 = .ok (.ixor, 1) := by decide +kernel
theorem dX4_layLeast_77 : decode cX4_layLeast 77 = .ok (.iand, 1) := by decide +kernel
theorem dX4_layLeast_78 : decode cX4_layLeast 78 = .ok (.istore 4, 2) := by decide +kernel
theorem dX4_layLeast_80 : decode cX4_layLeast 80 = .ok (.iload 7, 2) := by decide +kernel
theorem dX4_layLeast_82 : decode cX4_layLeast 82 = .ok (.istore 5, 2) := by decide +kernel
theorem dX4_layLeast_84 : decode cX4_layLeast 84 = .ok (.iinc 6 1, 3) := by decide +kernel
theorem dX4_layLeast_87 : decode cX4_layLeast 87 = .ok (.goto (-51), 3) := by decide +kernel
theorem dX4_layLeast_90 : decode cX4_layLeast 90 = .ok (.aload_n 0, 1) := by decide +kernel
theorem dX4_layLeast_91 : decode cX4_layLeast 91 = .ok (.aload_n 1, 1) := by decide +kernel
theorem dX4_layLeast_92 : decode cX4_layLeast 92 = .ok (.invokevirtual 42, 3) := by decide +kernel
theorem dX4_layLeast_95 : decode cX4_layLeast 95 = .ok (.return_, 1) := by decide +kernel
theorem dX4_leakUnder_0 : decode cX4_leakUnder 0 = .ok (.iconst 0, 1) := by decide +kernel
theorem dX4_leakUnder_1 : decode cX4_leakUnder 1 = .ok (.istore_n 2, 1) := by decide +kernel
theorem dX4_leakUnder_2 : decode cX4_leakUnder 2 = .ok (.iconst 0, 1) := by decide +kernel
theorem dX4_leakUnder_3 : decode cX4_leakUnder 3 = .ok (.istore_n 3, 1) := by decide +kernel
theorem dX4_leakUnder_4 : decode cX4_leakUnder 4 = .ok (.iload_n 3, 1) := by decide +kernel
theorem dX4_leakUnder_5 : decode cX4_leakUnder 5 = .ok (.aload_n 0, 1) := by decide +kernel
theorem dX4_leakUnder_6 : decode cX4_leakUnder 6 = .ok (.getfield 39, 3) := by decide +kernel
theorem dX4_leakUnder_9 : decode cX4_leakUnder 9 = .ok (.if_icmp .ge 24, 3) := by decide +kernel
theorem dX4_leakUnder_12 : decode cX4_leakUnder 12 = .ok (.iload_n 2, 1) := by decide +kernel
theorem dX4_leakUnder_13 : decode cX4_leakUnder 13 = .ok (.iconst 0, 1) := by decide +kernel
theorem dX4_leakUnder_14 : decode cX4_leakUnder 14 = .ok (.aload_n 0, 1) := by decide +kernel
theorem dX4_leakUnder_15 : decode cX4_leakUnder 15 = .ok (.getfield 18, 3) := by decide +kernel
theorem dX4_leakUnder_18 : decode cX4_leakUnder 18 = .ok (.iload_n 3, 1) := by decide +kernel
theorem dX4_leakUnder_19 : decode cX4_leakUnder 19 = .ok (.iaload, 1) := by decide +kernel
theorem dX4_leakUnder_20 : decode cX4_leakUnder 20 = .ok (.iload_n 1, 1) := by decide +kernel
theorem dX4_leakUnder_21 : decode cX4_leakUnder 21 = .ok (.isub, 1) := by decide +kernel
theorem dX4_leakUnder_22 : decode cX4_leakUnder 22 = .ok (.invokestatic 62, 3) := by decide +kernel
theorem dX4_leakUnder_25 : decode cX4_leakUnder 25 = .ok (.iadd, 1) := by decide +kernel
theorem dX4_leakUnder_26 : decode cX4_leakUnder 26 = .ok (.istore_n 2, 1) := by decide +kernel
theorem dX4_leakUnder_27 : decode cX4_leakUnder 27 = .ok (.iinc 3 1, 3) := by decide +kernel
theorem dX4_leakUnder_30 : decode cX4_leakUnder 30 = .ok (.goto (-26), 3) := by decide +kernel
theorem dX4_leakUnder_33 : decode cX4_leakUnder 33 = .ok (.iload_n 2, 1) := by decide +kernel
theorem dX4_leakUnder_34 : decode cX4_leakUnder 34 = .ok (.ireturn, 1) := by decide +kernel
theorem dX4_digits_0 : decode cX4_digits 0 = .ok (.iconst 0, 1) := by decide +kernel
theorem dX4_digits_1 : decode cX4_digits 1 = .ok (.istore_n 1, 1) := by decide +kernel
theorem dX4_digits_2 : decode cX4_digits 2 = .ok (.iconst 0, 1) := by decide +kernel
theorem dX4_digits_3 : decode cX4_digits 3 = .ok (.istore_n 2, 1) := by decide +kernel
theorem dX4_digits_4 : decode cX4_digits 4 = .ok (.iload_n 2, 1) := by decide +kernel
theorem dX4_digits_5 : decode cX4_digits 5 = .ok (.aload_n 0, 1) := by decide +kernel
theorem dX4_digits_6 : decode cX4_digits 6 = .ok (.getfield 39, 3) := by decide +kernel
theorem dX4_digits_9 : decode cX4_digits 9 = .ok (.if_icmp .ge 23, 3) := by decide +kernel
theorem dX4_digits_12 : decode cX4_digits 12 = .ok (.iload_n 1, 1) := by decide +kernel
theorem dX4_digits_13 : decode cX4_digits 13 = .ok (.bipush 10, 2) := by decide +kernel
theorem dX4_digits_15 : decode cX4_digits 15 = .ok (.imul, 1) := by decide +kernel
theorem dX4_digits_16 : decode cX4_digits 16 = .ok (.aload_n 0, 1) := by decide +kernel
theorem dX4_digits_17 : decode cX4_digits 17 = .ok (.getfield 15, 3) := by decide +kernel
theorem dX4_digits_20 : decode cX4_digits 20 = .ok (.iload_n 2, 1) := by decide +kernel
theorem dX4_digits_21 : decode cX4_digits 21 = .ok (.iaload, 1) := by decide +kernel
theorem dX4_digits_22 : decode cX4_digits 22 = .ok (.iadd, 1) := by decide +kernel
theorem dX4_digits_23 : decode cX4_digits 23 = .ok (.iconst 1, 1) := by decide +kernel
theorem dX4_digits_24 : decode cX4_digits 24 = .ok (.iadd, 1) := by decide +kernel
theorem dX4_digits_25 : decode cX4_digits 25 = .ok (.istore_n 1, 1) := by decide +kernel
theorem dX4_digits_26 : decode cX4_digits 26 = .ok (.iinc 2 1, 3) := by decide +kernel
theorem dX4_digits_29 : decode cX4_digits 29 = .ok (.goto (-25), 3) := by decide +kernel
theorem dX4_digits_32 : decode cX4_digits 32 = .ok (.iload_n 1, 1) := by decide +kernel
theorem dX4_digits_33 : decode cX4_digits 33 = .ok (.ireturn, 1) := by decide +kernel
theorem dX4_jointOfRank_0 : decode cX4_jointOfRank 0 = .ok (.iconst 0, 1) := by decide +kernel
theorem dX4_jointOfRank_1 : decode cX4_jointOfRank 1 = .ok (.istore_n 2, 1) := by decide +kernel
theorem dX4_jointOfRank_2 : decode cX4_jointOfRank 2 = .ok (.iload_n 2, 1) := by decide +kernel
theorem dX4_jointOfRank_3 : decode cX4_jointOfRank 3 = .ok (.aload_n 0, 1) := by decide +kernel
theorem dX4_jointOfRank_4 : decode cX4_jointOfRank 4 = .ok (.getfield 39, 3) := by decide +kernel
theorem dX4_jointOfRank_7 : decode cX4_jointOfRank 7 = .ok (.if_icmp .ge 20, 3) := by decide +kernel
theorem dX4_jointOfRank_10 : decode cX4_jointOfRank 10 = .ok (.aload_n 0, 1) := by decide +kernel
theorem dX4_jointOfRank_11 : decode cX4_jointOfRank 11 = .ok (.iload_n 2, 1) := by decide +kernel
theorem dX4_jointOfRank_12 : decode cX4_jointOfRank 12 = .ok (.invokevirtual 67, 3) := by decide +kernel
theorem dX4_jointOfRank_15 : decode cX4_jointOfRank 15 = .ok (.iload_n 1, 1) := by decide +kernel
theorem dX4_jointOfRank_16 : decode cX4_jointOfRank 16 = .ok (.if_icmp .ne 5, 3) := by decide +kernel
theorem dX4_jointOfRank_19 : decode cX4_jointOfRank 19 = .ok (.iload_n 2, 1) := by decide +kernel
theorem dX4_jointOfRank_20 : decode cX4_jointOfRank 20 = .ok (.ireturn, 1) := by decide +kernel
theorem dX4_jointOfRank_21 : decode cX4_jointOfRank 21 = .ok (.iinc 2 1, 3) := by decide +kernel
theorem dX4_jointOfRank_24 : decode cX4_jointOfRank 24 = .ok (.goto (-22), 3) := by decide +kernel
theorem dX4_jointOfRank_27 : decode cX4_jointOfRank 27 = .ok (.iconst (-1), 1) := by decide +kernel
theorem dX4_jointOfRank_28 : decode cX4_jointOfRank 28 = .ok (.ireturn, 1) := by decide +kernel
theorem dX4_rankOf_0 : decode cX4_rankOf 0 = .ok (.iconst 0, 1) := by decide +kernel
theorem dX4_rankOf_1 : decode cX4_rankOf 1 = .ok (.istore_n 2, 1) := by decide +kernel
theorem dX4_rankOf_2 : decode cX4_rankOf 2 = .ok (.iconst 0, 1) := by decide +kernel
theorem dX4_rankOf_3 : decode cX4_rankOf 3 = .ok (.istore_n 3, 1) := by decide +kernel
theorem dX4_rankOf_4 : decode cX4_rankOf 4 = .ok (.iload_n 3, 1) := by decide +kernel
theorem dX4_rankOf_5 : decode cX4_rankOf 5 = .ok (.aload_n 0, 1) := by decide +kernel
theorem dX4_rankOf_6 : decode cX4_rankOf 6 = .ok (.getfield 39, 3) := by decide +kernel
theorem dX4_rankOf_9 : decode cX4_rankOf 9 = .ok (.if_icmp .ge 47, 3) := by decide +kernel
theorem dX4_rankOf_12 : decode cX4_rankOf 12 = .ok (.aload_n 0, 1) := by decide +kernel
theorem dX4_rankOf_13 : decode cX4_rankOf 13 = .ok (.getfield 18, 3) := by decide +kernel
theorem dX4_rankOf_16 : decode cX4_rankOf 16 = .ok (.iload_n 3, 1) := by decide +kernel
theorem dX4_rankOf_17 : decode cX4_rankOf 17 = .ok (.iaload, 1) := by decide +kernel
theorem dX4_rankOf_18 : decode cX4_rankOf 18 = .ok (.aload_n 0, 1) := by decide +kernel
theorem dX4_rankOf_19 : decode cX4_rankOf 19 = .ok (.getfield 18, 3) := by decide +kernel
theorem dX4_rankOf_22 : decode cX4_rankOf 22 = .ok (.iload_n 1, 1) := by decide +kernel
theorem dX4_rankOf_23 : decode cX4_rankOf 23 = .ok (.iaload, 1) := by decide +kernel
theorem dX4_rankOf_24 : decode cX4_rankOf 24 = .ok (.if_icmp .gt 23, 3) := by decide +kernel
theorem dX4_rankOf_27 : decode cX4_rankOf 27 = .ok (.aload_n 0, 1) := by decide +kernel
theorem dX4_rankOf_28 : decode cX4_rankOf 28 = .ok (.getfield 18, 3) := by decide +kernel
theorem dX4_rankOf_31 : decode cX4_rankOf 31 = .ok (.iload_n 3, 1) := by decide +kernel
theorem dX4_rankOf_32 : decode cX4_rankOf 32 = .ok (.iaload, 1) := by decide +kernel
theorem dX4_rankOf_33 : decode cX4_rankOf 33 = .ok (.aload_n 0, 1) := by decide +kernel
theorem dX4_rankOf_34 : decode cX4_rankOf 34 = .ok (.getfield 18, 3) := by decide +kernel
theorem dX4_rankOf_37 : decode cX4_rankOf 37 = .ok (.iload_n 1, 1) := by decide +kernel
theorem dX4_rankOf_38 : decode cX4_rankOf 38 = .ok (.iaload, 1) := by decide +kernel
theorem dX4_rankOf_39 : decode cX4_rankOf 39 = .ok (.if_icmp .ne 11, 3) := by decide +kernel
theorem dX4_rankOf_42 : decode cX4_rankOf 42 = .ok (.iload_n 3, 1) := by decide +kernel
theorem dX4_rankOf_43 : decode cX4_rankOf 43 = .ok (.iload_n 1, 1) := by decide +kernel
theorem dX4_rankOf_44 : decode cX4_rankOf 44 = .ok (.if_icmp .ge 6, 3) := by decide +kernel
theorem dX4_rankOf_47 : decode cX4_rankOf 47 = .ok (.iinc 2 1, 3) := by decide +kernel
theorem dX4_rankOf_50 : decode cX4_rankOf 50 = .ok (.iinc 3 1, 3) := by decide +kernel
theorem dX4_rankOf_53 : decode cX4_rankOf 53 = .ok (.goto (-49), 3) := by decide +kernel
theorem dX4_rankOf_56 : decode cX4_rankOf 56 = .ok (.iload_n 2, 1) := by decide +kernel
theorem dX4_rankOf_57 : decode cX4_rankOf 57 = .ok (.ireturn, 1) := by decide +kernel
theorem dX4_howManyWithin_0 : decode cX4_howManyWithin 0 = .ok (.aload_n 0, 1) := by decide +kernel
theorem dX4_howManyWithin_1 : decode cX4_howManyWithin 1 = .ok (.aload_n 1, 1) := by decide +kernel
theorem dX4_howManyWithin_2 : decode cX4_howManyWithin 2 = .ok (.iload_n 2, 1) := by decide +kernel
theorem dX4_howManyWithin_3 : decode cX4_howManyWithin 3 = .ok (.iload_n 3, 1) := by decide +kernel
theorem dX4_howManyWithin_4 : decode cX4_howManyWithin 4 = .ok (.invokevirtual 46, 3) := by decide +kernel
theorem dX4_howManyWithin_7 : decode cX4_howManyWithin 7 = .ok (.aload_n 0, 1) := by decide +kernel
theorem dX4_howManyWithin_8 : decode cX4_howManyWithin 8 = .ok (.getfield 23, 3) := by decide +kernel
theorem dX4_howManyWithin_11 : decode cX4_howManyWithin 11 = .ok (.aload_n 0, 1) := by decide +kernel
theorem dX4_howManyWithin_12 : decode cX4_howManyWithin 12 = .ok (.getfield 39, 3) := by decide +kernel
theorem dX4_howManyWithin_15 : decode cX4_howManyWithin 15 = .ok (.aload_n 0, 1) := by decide +kernel
theorem dX4_howManyWithin_16 : decode cX4_howManyWithin 16 = .ok (.invokevirtual 54, 3) := by decide +kernel
theorem dX4_howManyWithin_19 : decode cX4_howManyWithin 19 = .ok (.iconst 0, 1) := by decide +kernel
theorem dX4_howManyWithin_20 : decode cX4_howManyWithin 20 = .ok (.iload 4, 2) := by decide +kernel
theorem dX4_howManyWithin_22 : decode cX4_howManyWithin 22 = .ok (.iconst 1, 1) := by decide +kernel
theorem dX4_howManyWithin_23 : decode cX4_howManyWithin 23 = .ok (.invokestatic 71, 3) := by decide +kernel
theorem dX4_howManyWithin_26 : decode cX4_howManyWithin 26 = .ok (.ireturn, 1) := by decide +kernel
theorem dX4_tightPress_0 : decode cX4_tightPress 0 = .ok (.aload_n 0, 1) := by decide +kernel
theorem dX4_tightPress_1 : decode cX4_tightPress 1 = .ok (.aload_n 1, 1) := by decide +kernel
theorem dX4_tightPress_2 : decode cX4_tightPress 2 = .ok (.iload_n 2, 1) := by decide +kernel
theorem dX4_tightPress_3 : decode cX4_tightPress 3 = .ok (.iconst 0, 1) := by decide +kernel
theorem dX4_tightPress_4 : decode cX4_tightPress 4 = .ok (.invokevirtual 46, 3) := by decide +kernel
theorem dX4_tightPress_7 : decode cX4_tightPress 7 = .ok (.aload_n 0, 1) := by decide +kernel
theorem dX4_tightPress_8 : decode cX4_tightPress 8 = .ok (.iconst 1, 1) := by decide +kernel
theorem dX4_tightPress_9 : decode cX4_tightPress 9 = .ok (.invokevirtual 50, 3) := by decide +kernel
theorem dX4_tightPress_12 : decode cX4_tightPress 12 = .ok (.aload_n 0, 1) := by decide +kernel
theorem dX4_tightPress_13 : decode cX4_tightPress 13 = .ok (.getfield 26, 3) := by decide +kernel
theorem dX4_tightPress_16 : decode cX4_tightPress 16 = .ok (.aload_n 0, 1) := by decide +kernel
theorem dX4_tightPress_17 : decode cX4_tightPress 17 = .ok (.invokevirtual 54, 3) := by decide +kernel
theorem dX4_tightPress_20 : decode cX4_tightPress 20 = .ok (.iconst 0, 1) := by decide +kernel
theorem dX4_tightPress_21 : decode cX4_tightPress 21 = .ok (.invokestatic 75, 3) := by decide +kernel
theorem dX4_tightPress_24 : decode cX4_tightPress 24 = .ok (.iaload, 1) := by decide +kernel
theorem dX4_tightPress_25 : decode cX4_tightPress 25 = .ok (.ireturn, 1) := by decide +kernel
theorem dX4_measureGaps_0 : decode cX4_measureGaps 0 = .ok (.iconst 0, 1) := by decide +kernel
theorem dX4_measureGaps_1 : decode cX4_measureGaps 1 = .ok (.istore_n 2, 1) := by decide +kernel
theorem dX4_measureGaps_2 : decode cX4_measureGaps 2 = .ok (.iload_n 2, 1) := by decide +kernel
theorem dX4_measureGaps_3 : decode cX4_measureGaps 3 = .ok (.aload_n 0, 1) := by decide +kernel
theorem dX4_measureGaps_4 : decode cX4_measureGaps 4 = .ok (.getfield 39, 3) := by decide +kernel
theorem dX4_measureGaps_7 : decode cX4_measureGaps 7 = .ok (.if_icmp .ge 47, 3) := by decide +kernel
theorem dX4_measureGaps_10 : decode cX4_measureGaps 10 = .ok (.aload_n 0, 1) := by decide +kernel
theorem dX4_measureGaps_11 : decode cX4_measureGaps 11 = .ok (.getfield 18, 3) := by decide +kernel
theorem dX4_measureGaps_14 : decode cX4_measureGaps 14 = .ok (.iload_n 2, 1) := by decide +kernel
theorem dX4_measureGaps_15 : decode cX4_measureGaps 15 = .ok (.aload_n 1, 1) := by decide +kernel
theorem dX4_measureGaps_16 : decode cX4_measureGaps 16 = .ok (.aload_n 0, 1) := by decide +kernel
theorem dX4_measureGaps_17 : decode cX4_measureGaps 17 = .ok (.getfield 15, 3) := by decide +kernel
theorem dX4_measureGaps_20 : decode cX4_measureGaps 20 = .ok (.iload_n 2, 1) := by decide +kernel
theorem dX4_measureGaps_21 : decode cX4_measureGaps 21 = .ok (.iaload, 1) := by decide +kernel
theorem dX4_measureGaps_22 : decode cX4_measureGaps 22 = .ok (.aload_n 0, 1) := by decide +kernel
theorem dX4_measureGaps_23 : decode cX4_measureGaps 23 = .ok (.getfield 15, 3) := by decide +kernel
theorem dX4_measureGaps_26 : decode cX4_measureGaps 26 = .ok (.iload_n 2, 1) := by decide +kernel
theorem dX4_measureGaps_27 : decode cX4_measureGaps 27 = .ok (.iconst 1, 1) := by decide +kernel
theorem dX4_measureGaps_28 : decode cX4_measureGaps 28 = .ok (.iadd, 1) := by decide +kernel
theorem dX4_measureGaps_29 : decode cX4_measureGaps 29 = .ok (.aload_n 0, 1) := by decide +kernel
theorem dX4_measureGaps_30 : decode cX4_measureGaps 30 = .ok (.getfield 39, 3) := by decide +kernel
theorem dX4_measureGaps_33 : decode cX4_measureGaps 33 = .ok (.if_icmp .ge 9, 3) := by decide +kernel
theorem dX4_measureGaps_36 : decode cX4_measureGaps 36 = .ok (.iload_n 2, 1) := by decide +kernel
theorem dX4_measureGaps_37 : decode cX4_measureGaps 37 = .ok (.iconst 1, 1) := by decide +kernel
theorem dX4_measureGaps_38 : decode cX4_measureGaps 38 = .ok (.iadd, 1) := by decide +kernel
theorem dX4_measureGaps_39 : decode cX4_measureGaps 39 = .ok (.goto 4, 3) := by decide +kernel
theorem dX4_measureGaps_42 : decode cX4_measureGaps 42 = .ok (.iconst 0, 1) := by decide +kernel
theorem dX4_measureGaps_43 : decode cX4_measureGaps 43 = .ok (.iaload, 1) := by decide +kernel
theorem dX4_measureGaps_44 : decode cX4_measureGaps 44 = .ok (.invokestatic 78, 3) := by decide +kernel
theorem dX4_measureGaps_47 : decode cX4_measureGaps 47 = .ok (.iastore, 1) := by decide +kernel
theorem dX4_measureGaps_48 : decode cX4_measureGaps 48 = .ok (.iinc 2 1, 3) := by decide +kernel
theorem dX4_measureGaps_51 : decode cX4_measureGaps 51 = .ok (.goto (-49), 3) := by decide +kernel
theorem dX4_measureGaps_54 : decode cX4_measureGaps 54 = .ok (.return_, 1) := by decide +kernel
theorem dX4_gapOf_0 : decode cX4_gapOf 0 = .ok (.aload_n 0, 1) := by decide +kernel
theorem dX4_gapOf_1 : decode cX4_gapOf 1 = .ok (.iload_n 1, 1) := by decide +kernel
theorem dX4_gapOf_2 : decode cX4_gapOf 2 = .ok (.invokestatic 82, 3) := by decide +kernel
theorem dX4_gapOf_5 : decode cX4_gapOf 5 = .ok (.aload_n 0, 1) := by decide +kernel
theorem dX4_gapOf_6 : decode cX4_gapOf 6 = .ok (.iload_n 2, 1) := by decide +kernel
theorem dX4_gapOf_7 : decode cX4_gapOf 7 = .ok (.invokestatic 82, 3) := by decide +kernel
theorem dX4_gapOf_10 : decode cX4_gapOf 10 = .ok (.iadd, 1) := by decide +kernel
theorem dX4_gapOf_11 : decode cX4_gapOf 11 = .ok (.aload_n 0, 1) := by decide +kernel
theorem dX4_gapOf_12 : decode cX4_gapOf 12 = .ok (.getfield 86, 3) := by decide +kernel
theorem dX4_gapOf_15 : decode cX4_gapOf 15 = .ok (.iconst 3, 1) := by decide +kernel
theorem dX4_gapOf_16 : decode cX4_gapOf 16 = .ok (.iaload, 1) := by decide +kernel
theorem dX4_gapOf_17 : decode cX4_gapOf 17 = .ok (.isub, 1) := by decide +kernel
theorem dX4_gapOf_18 : decode cX4_gapOf 18 = .ok (.invokestatic 89, 3) := by decide +kernel
theorem dX4_gapOf_21 : decode cX4_gapOf 21 = .ok (.ireturn, 1) := by decide +kernel
theorem dX4_edgeOf_0 : decode cX4_edgeOf 0 = .ok (.aload_n 0, 1) := by decide +kernel
theorem dX4_edgeOf_1 : decode cX4_edgeOf 1 = .ok (.iload_n 1, 1) := by decide +kernel
theorem dX4_edgeOf_2 : decode cX4_edgeOf 2 = .ok (.invokevirtual 92, 3) := by decide +kernel
theorem dX4_edgeOf_5 : decode cX4_edgeOf 5 = .ok (.astore_n 2, 1) := by decide +kernel
theorem dX4_edgeOf_6 : decode cX4_edgeOf 6 = .ok (.aload_n 2, 1) := by decide +kernel
theorem dX4_edgeOf_7 : decode cX4_edgeOf 7 = .ok (.ifnonnull 7, 3) := by decide +kernel
theorem dX4_edgeOf_10 : decode cX4_edgeOf 10 = .ok (.iconst 0, 1) := by decide +kernel
theorem dX4_edgeOf_11 : decode cX4_edgeOf 11 = .ok (.goto 7, 3) := by decide +kernel
theorem dX4_edgeOf_14 : decode cX4_edgeOf 14 = .ok (.aload_n 2, 1) := by decide +kernel
theorem dX4_edgeOf_15 : decode cX4_edgeOf 15 = .ok (.invokevirtual 96, 3) := by decide +kernel
theorem dX4_edgeOf_18 : decode cX4_edgeOf 18 = .ok (.ireturn, 1) := by decide +kernel
theorem dX4_choose_0 : decode cX4_choose 0 = .ok (.aload_n 0, 1) := by decide +kernel
theorem dX4_choose_1 : decode cX4_choose 1 = .ok (.iconst 0, 1) := by decide +kernel
theorem dX4_choose_2 : decode cX4_choose 2 = .ok (.putfield 39, 3) := by decide +kernel
theorem dX4_choose_5 : decode cX4_choose 5 = .ok (.iconst 0, 1) := by decide +kernel
theorem dX4_choose_6 : decode cX4_choose 6 = .ok (.istore 4, 2) := by decide +kernel
theorem dX4_choose_8 : decode cX4_choose 8 = .ok (.iload 4, 2) := by decide +kernel
theorem dX4_choose_10 : decode cX4_choose 10 = .ok (.aload_n 1, 1) := by decide +kernel
theorem dX4_choose_11 : decode cX4_choose 11 = .ok (.getfield 29, 3) := by decide +kernel
theorem dX4_choose_14 : decode cX4_choose 14 = .ok (.if_icmp .ge 48, 3) := by decide +kernel
theorem dX4_choose_17 : decode cX4_choose 17 = .ok (.aload_n 0, 1) := by decide +kernel
theorem dX4_choose_18 : decode cX4_choose 18 = .ok (.getfield 39, 3) := by decide +kernel
theorem dX4_choose_21 : decode cX4_choose 21 = .ok (.bipush 8, 2) := by decide +kernel
theorem dX4_choose_23 : decode cX4_choose 23 = .ok (.if_icmp .ge 39, 3) := by decide +kernel
theorem dX4_choose_26 : decode cX4_choose 26 = .ok (.iload_n 2, 1) := by decide +kernel
theorem dX4_choose_27 : decode cX4_choose 27 = .ok (.iload 4, 2) := by decide +kernel
theorem dX4_choose_29 : decode cX4_choose 29 = .ok (.invokestatic 101, 3) := by decide +kernel
theorem dX4_choose_32 : decode cX4_choose 32 = .ok (.ifCond .eq 24, 3) := by decide +kernel
theorem dX4_choose_35 : decode cX4_choose 35 = .ok (.aload_n 0, 1) := by decide +kernel
theorem dX4_choose_36 : decode cX4_choose 36 = .ok (.getfield 9, 3) := by decide +kernel
theorem dX4_choose_39 : decode cX4_choose 39 = .ok (.aload_n 0, 1) := by decide +kernel
theorem dX4_choose_40 : decode cX4_choose 40 = .ok (.getfield 39, 3) := by decide +kernel
theorem dX4_choose_43 : decode cX4_choose 43 = .ok (.iload 4, 2) := by decide +kernel
theorem dX4_choose_45 : decode cX4_choose 45 = .ok (.iastore, 1) := by decide +kernel
theorem dX4_choose_46 : decode cX4_choose 46 = .ok (.aload_n 0, 1) := by decide +kernel
theorem dX4_choose_47 : decode cX4_choose 47 = .ok (.dup, 1) := by decide +kernel
theorem dX4_choose_48 : decode cX4_choose 48 = .ok (.getfield 39, 3) := by decide +kernel
theorem dX4_choose_51 : decode cX4_choose 51 = .ok (.iconst 1, 1) := by decide +kernel
theorem dX4_choose_52 : decode cX4_choose 52 = .ok (.iadd, 1) := by decide +kernel
theorem dX4_choose_53 : decode cX4_choose 53 = .ok (.putfield 39, 3) := by decide +kernel
theorem dX4_choose_56 : decode cX4_choose 56 = .ok (.iinc 4 1, 3) := by decide +kernel
theorem dX4_choose_59 : decode cX4_choose 59 = .ok (.goto (-51), 3) := by decide +kernel
theorem dX4_choose_62 : decode cX4_choose 62 = .ok (.iconst 0, 1) := by decide +kernel
theorem dX4_choose_63 : decode cX4_choose 63 = .ok (.istore 4, 2) := by decide +kernel
theorem dX4_choose_65 : decode cX4_choose 65 = .ok (.iload 4, 2) := by decide +kernel
theorem dX4_choose_67 : decode cX4_choose 67 = .ok (.aload_n 0, 1) := by decide +kernel
theorem dX4_choose_68 : decode cX4_choose 68 = .ok (.getfield 39, 3) := by decide +kernel
theorem dX4_choose_71 : decode cX4_choose 71 = .ok (.if_icmp .ge 61, 3) := by decide +kernel
theorem dX4_choose_74 : decode cX4_choose 74 = .ok (.iconst 0, 1) := by decide +kernel
theorem dX4_choose_75 : decode cX4_choose 75 = .ok (.istore 5, 2) := by decide +kernel
theorem dX4_choose_77 : decode cX4_choose 77 = .ok (.iload 5, 2) := by decide +kernel
theorem dX4_choose_79 : decode cX4_choose 79 = .ok (.aload_n 0, 1) := by decide +kernel
theorem dX4_choose_80 : decode cX4_choose 80 = .ok (.getfield 39, 3) := by decide +kernel
theorem dX4_choose_83 : decode cX4_choose 83 = .ok (.if_icmp .ge 43, 3) := by decide +kernel
theorem dX4_choose_86 : decode cX4_choose 86 = .ok (.aload_n 0, 1) := by decide +kernel
theorem dX4_choose_87 : decode cX4_choose 87 = .ok (.getfield 23, 3) := by decide +kernel
theorem dX4_choose_90 : decode cX4_choose 90 = .ok (.iload 4, 2) := by decide +kernel
theorem dX4_choose_92 : decode cX4_choose 92 = .ok (.aaload, 1) := by decide +kernel
theorem dX4_choose_93 : decode cX4_choose 93 = .ok (.iload 5, 2) := by decide +kernel
theorem dX4_choose_95 : decode cX4_choose 95 = .ok (.iconst 0, 1) := by decide +kernel
theorem dX4_choose_96 : decode cX4_choose 96 = .ok (.aload_n 1, 1) := by decide +kernel
theorem dX4_choose_97 : decode cX4_choose 97 = .ok (.aload_n 0, 1) := by decide +kernel
theorem dX4_choose_98 : decode cX4_choose 98 = .ok (.getfield 9, 3) := by decide +kernel
theorem dX4_choose_101 : decode cX4_choose 101 = .ok (.iload 4, 2) := by decide +kernel
theorem dX4_choose_103 : decode cX4_choose 103 = .ok (.iaload, 1) := by decide +kernel
theorem dX4_choose_104 : decode cX4_choose 104 = .ok (.aload_n 0, 1) := by decide +kernel
theorem dX4_choose_105 : decode cX4_choose 105 = .ok (.getfield 9, 3) := by decide +kernel
theorem dX4_choose_108 : decode cX4_choose 108 = .ok (.iload 5, 2) := by decide +kernel
theorem dX4_choose_110 : decode cX4_choose 110 = .ok (.iaload, 1) := by decide +kernel
theorem dX4_choose_111 : decode cX4_choose 111 = .ok (.invokestatic 78, 3) := by decide +kernel
theorem dX4_choose_114 : decode cX4_choose 114 = .ok (.iload_n 3, 1) := by decide +kernel
theorem dX4_choose_115 : decode cX4_choose 115 = .ok (.isub, 1) := by decide +kernel
theorem dX4_choose_116 : decode cX4_choose 116 = .ok (.invokestatic 62, 3) := by decide +kernel
theorem dX4_choose_119 : decode cX4_choose 119 = .ok (.iastore, 1) := by decide +kernel
theorem dX4_choose_120 : decode cX4_choose 120 = .ok (.iinc 5 1, 3) := by decide +kernel
theorem dX4_choose_123 : decode cX4_choose 123 = .ok (.goto (-46), 3) := by decide +kernel
theorem dX4_choose_126 : decode cX4_choose 126 = .ok (.iinc 4 1, 3) := by decide +kernel
theorem dX4_choose_129 : decode cX4_choose 129 = .ok (.goto (-64), 3) := by decide +kernel
theorem dX4_choose_132 : decode cX4_choose 132 = .ok (.return_, 1) := by decide +kernel
theorem dX4_allButFirst_0 : decode cX4_allButFirst 0 = .ok (.iconst 1, 1) := by decide +kernel
theorem dX4_allButFirst_1 : decode cX4_allButFirst 1 = .ok (.aload_n 0, 1) := by decide +kernel
theorem dX4_allButFirst_2 : decode cX4_allButFirst 2 = .ok (.getfield 39, 3) := by decide +kernel
theorem dX4_allButFirst_5 : decode cX4_allButFirst 5 = .ok (.ishl, 1) := by decide +kernel
theorem dX4_allButFirst_6 : decode cX4_allButFirst 6 = .ok (.iconst 2, 1) := by decide +kernel
theorem dX4_allButFirst_7 : decode cX4_allButFirst 7 = .ok (.isub, 1) := by decide +kernel
theorem dX4_allButFirst_8 : decode cX4_allButFirst 8 = .ok (.ireturn, 1) := by decide +kernel
theorem dX4_cellOf_0 : decode cX4_cellOf 0 = .ok (.iload_n 0, 1) := by decide +kernel
theorem dX4_cellOf_1 : decode cX4_cellOf 1 = .ok (.iconst 1, 1) := by decide +kernel
theorem dX4_cellOf_2 : decode cX4_cellOf 2 = .ok (.ishr, 1) := by decide +kernel
theorem dX4_cellOf_3 : decode cX4_cellOf 3 = .ok (.bipush 8, 2) := by decide +kernel
theorem dX4_cellOf_5 : decode cX4_cellOf 5 = .ok (.imul, 1) := by decide +kernel
theorem dX4_cellOf_6 : decode cX4_cellOf 6 = .ok (.iload_n 1, 1) := by decide +kernel
theorem dX4_cellOf_7 : decode cX4_cellOf 7 = .ok (.iadd, 1) := by decide +kernel
theorem dX4_cellOf_8 : decode cX4_cellOf 8 = .ok (.ireturn, 1) := by decide +kernel
theorem dX4_weigh_0 : decode cX4_weigh 0 = .ok (.aload_n 0, 1) := by decide +kernel
theorem dX4_weigh_1 : decode cX4_weigh 1 = .ok (.invokevirtual 54, 3) := by decide +kernel
theorem dX4_weigh_4 : decode cX4_weigh 4 = .ok (.istore_n 2, 1) := by decide +kernel
theorem dX4_weigh_5 : decode cX4_weigh 5 = .ok (.iconst 0, 1) := by decide +kernel
theorem dX4_weigh_6 : decode cX4_weigh 6 = .ok (.istore_n 3, 1) := by decide +kernel
theorem dX4_weigh_7 : decode cX4_weigh 7 = .ok (.iload_n 3, 1) := by decide +kernel
theorem dX4_weigh_8 : decode cX4_weigh 8 = .ok (.iload_n 2, 1) := by decide +kernel
theorem dX4_weigh_9 : decode cX4_weigh 9 = .ok (.if_icmp .gt 55, 3) := by decide +kernel
theorem dX4_weigh_12 : decode cX4_weigh 12 = .ok (.iconst 0, 1) := by decide +kernel
theorem dX4_weigh_13 : decode cX4_weigh 13 = .ok (.istore 4, 2) := by decide +kernel
theorem dX4_weigh_15 : decode cX4_weigh 15 = .ok (.iload 4, 2) := by decide +kernel
theorem dX4_weigh_17 : decode cX4_weigh 17 = .ok (.aload_n 0, 1) := by decide +kernel
theorem dX4_weigh_18 : decode cX4_weigh 18 = .ok (.getfield 39, 3) := by decide +kernel
theorem dX4_weigh_21 : decode cX4_weigh 21 = .ok (.if_icmp .ge 37, 3) := by decide +kernel
theorem dX4_weigh_24 : decode cX4_weigh 24 = .ok (.iload_n 3, 1) := by decide +kernel
theorem dX4_weigh_25 : decode cX4_weigh 25 = .ok (.iload 4, 2) := by decide +kernel
theorem dX4_weigh_27 : decode cX4_weigh 27 = .ok (.invokestatic 101, 3) := by decide +kernel
theorem dX4_weigh_30 : decode cX4_weigh 30 = .ok (.ifCond .ne 22, 3) := by decide +kernel
theorem dX4_weigh_33 : decode cX4_weigh 33 = .ok (.aload_n 0, 1) := by decide +kernel
theorem dX4_weigh_34 : decode cX4_weigh 34 = .ok (.getfield 26, 3) := by decide +kernel
theorem dX4_weigh_37 : decode cX4_weigh 37 = .ok (.iload_n 3, 1) := by decide +kernel
theorem dX4_weigh_38 : decode cX4_weigh 38 = .ok (.iload 4, 2) := by decide +kernel
theorem dX4_weigh_40 : decode cX4_weigh 40 = .ok (.invokestatic 75, 3) := by decide +kernel
theorem dX4_weigh_43 : decode cX4_weigh 43 = .ok (.aload_n 0, 1) := by decide +kernel
theorem dX4_weigh_44 : decode cX4_weigh 44 = .ok (.iload_n 3, 1) := by decide +kernel
theorem dX4_weigh_45 : decode cX4_weigh 45 = .ok (.iload 4, 2) := by decide +kernel
theorem dX4_weigh_47 : decode cX4_weigh 47 = .ok (.iload_n 1, 1) := by decide +kernel
theorem dX4_weigh_48 : decode cX4_weigh 48 = .ok (.invokevirtual 105, 3) := by decide +kernel
theorem dX4_weigh_51 : decode cX4_weigh 51 = .ok (.iastore, 1) := by decide +kernel
theorem dX4_weigh_52 : decode cX4_weigh 52 = .ok (.iinc 4 1, 3) := by decide +kernel
theorem dX4_weigh_55 : decode cX4_weigh 55 = .ok (.goto (-40), 3) := by decide +kernel
theorem dX4_weigh_58 : decode cX4_weigh 58 = .ok (.iinc 3 2, 3) := by decide +kernel
theorem dX4_weigh_61 : decode cX4_weigh 61 = .ok (.goto (-54), 3) := by decide +kernel
theorem dX4_weigh_64 : decode cX4_weigh 64 = .ok (.return_, 1) := by decide +kernel
theorem dX4_leastOnward_0 : decode cX4_leastOnward 0 = .ok (.iload_n 1, 1) := by decide +kernel
theorem dX4_leastOnward_1 : decode cX4_leastOnward 1 = .ok (.ifCond .ne 12, 3) := by decide +kernel
theorem dX4_leastOnward_4 : decode cX4_leastOnward 4 = .ok (.aload_n 0, 1) := by decide +kernel
theorem dX4_leastOnward_5 : decode cX4_leastOnward 5 = .ok (.getfield 23, 3) := by decide +kernel
theorem dX4_leastOnward_8 : decode cX4_leastOnward 8 = .ok (.iload_n 2, 1) := by decide +kernel
theorem dX4_leastOnward_9 : decode cX4_leastOnward 9 = .ok (.aaload, 1) := by decide +kernel
theorem dX4_leastOnward_10 : decode cX4_leastOnward 10 = .ok (.iconst 0, 1) := by decide +kernel
theorem dX4_leastOnward_11 : decode cX4_leastOnward 11 = .ok (.iaload, 1) := by decide +kernel
theorem dX4_leastOnward_12 : decode cX4_leastOnward 12 = .ok (.ireturn, 1) := by decide +kernel
theorem dX4_leastOnward_13 : decode cX4_leastOnward 13 = .ok (.bipush (-5), 2) := by decide +kernel
theorem dX4_leastOnward_15 : decode cX4_leastOnward 15 = .ok (.istore 4, 2) := by decide +kernel
theorem dX4_leastOnward_17 : decode cX4_leastOnward 17 = .ok (.iconst 1, 1) := by decide +kernel
theorem dX4_leastOnward_18 : decode cX4_leastOnward 18 = .ok (.istore 5, 2) := by decide +kernel
theorem dX4_leastOnward_20 : decode cX4_leastOnward 20 = .ok (.iload 5, 2) := by decide +kernel
theorem dX4_leastOnward_22 : decode cX4_leastOnward 22 = .ok (.aload_n 0, 1) := by decide +kernel
theorem dX4_leastOnward_23 : decode cX4_leastOnward 23 = .ok (.getfield 39, 3) := by decide +kernel
theorem dX4_leastOnward_26 : decode cX4_leastOnward 26 = .ok (.if_icmp .ge 89, 3) := by decide +kernel
theorem dX4_leastOnward_29 : decode cX4_leastOnward 29 = .ok (.iload_n 1, 1) := by decide +kernel
theorem dX4_leastOnward_30 : decode cX4_leastOnward 30 = .ok (.iload 5, 2) := by decide +kernel
theorem dX4_leastOnward_32 : decode cX4_leastOnward 32 = .ok (.invokestatic 101, 3) := by decide +kernel
theorem dX4_leastOnward_35 : decode cX4_leastOnward 35 = .ok (.ifCond .eq 74, 3) := by decide +kernel
theorem dX4_leastOnward_38 : decode cX4_leastOnward 38 = .ok (.aload_n 0, 1) := by decide +kernel
theorem dX4_leastOnward_39 : decode cX4_leastOnward 39 = .ok (.getfield 26, 3) := by decide +kernel
theorem dX4_leastOnward_42 : decode cX4_leastOnward 42 = .ok (.iload_n 1, 1) := by decide +kernel
theorem dX4_leastOnward_43 : decode cX4_leastOnward 43 = .ok (.iload 5, 2) := by decide +kernel
theorem dX4_leastOnward_45 : decode cX4_leastOnward 45 = .ok (.invokestatic 109, 3) := by decide +kernel
theorem dX4_leastOnward_48 : decode cX4_leastOnward 48 = .ok (.iload 5, 2) := by decide +kernel
theorem dX4_leastOnward_50 : decode cX4_leastOnward 50 = .ok (.invokestatic 75, 3) := by decide +kernel
theorem dX4_leastOnward_53 : decode cX4_leastOnward 53 = .ok (.iaload, 1) := by decide +kernel
theorem dX4_leastOnward_54 : decode cX4_leastOnward 54 = .ok (.istore 6, 2) := by decide +kernel
theorem dX4_leastOnward_56 : decode cX4_leastOnward 56 = .ok (.aload_n 0, 1) := by decide +kernel
theorem dX4_leastOnward_57 : decode cX4_leastOnward 57 = .ok (.getfield 23, 3) := by decide +kernel
theorem dX4_leastOnward_60 : decode cX4_leastOnward 60 = .ok (.iload_n 2, 1) := by decide +kernel
theorem dX4_leastOnward_61 : decode cX4_leastOnward 61 = .ok (.aaload, 1) := by decide +kernel
theorem dX4_leastOnward_62 : decode cX4_leastOnward 62 = .ok (.iload 5, 2) := by decide +kernel
theorem dX4_leastOnward_64 : decode cX4_leastOnward 64 = .ok (.iaload, 1) := by decide +kernel
theorem dX4_leastOnward_65 : decode cX4_leastOnward 65 = .ok (.istore 7, 2) := by decide +kernel
theorem dX4_leastOnward_67 : decode cX4_leastOnward 67 = .ok (.iload_n 3, 1) := by decide +kernel
theorem dX4_leastOnward_68 : decode cX4_leastOnward 68 = .ok (.ifCond .eq 13, 3) := by decide +kernel
theorem dX4_leastOnward_71 : decode cX4_leastOnward 71 = .ok (.iload 7, 2) := by decide +kernel
theorem dX4_leastOnward_73 : decode cX4_leastOnward 73 = .ok (.iload 6, 2) := by decide +kernel
theorem dX4_leastOnward_75 : decode cX4_leastOnward 75 = .ok (.invokestatic 62, 3) := by decide +kernel
theorem dX4_leastOnward_78 : decode cX4_leastOnward 78 = .ok (.goto 8, 3) := by decide +kernel
theorem dX4_leastOnward_81 : decode cX4_leastOnward 81 = .ok (.iload 7, 2) := by decide +kernel
theorem dX4_leastOnward_83 : decode cX4_leastOnward 83 = .ok (.iload 6, 2) := by decide +kernel
theorem dX4_leastOnward_85 : decode cX4_leastOnward 85 = .ok (.iadd, 1) := by decide +kernel
theorem dX4_leastOnward_86 : decode cX4_leastOnward 86 = .ok (.istore 8, 2) := by decide +kernel
theorem dX4_leastOnward_88 : decode cX4_leastOnward 88 = .ok (.iload 4, 2) := by decide +kernel
theorem dX4_leastOnward_90 : decode cX4_leastOnward 90 = .ok (.bipush (-5), 2) := by decide +kernel
theorem dX4_leastOnward_92 : decode cX4_leastOnward 92 = .ok (.if_icmp .ne 8, 3) := by decide +kernel
theorem dX4_leastOnward_95 : decode cX4_leastOnward 95 = .ok (.iload 8, 2) := by decide +kernel
theorem dX4_leastOnward_97 : decode cX4_leastOnward 97 = .ok (.goto 10, 3) := by decide +kernel
theorem dX4_leastOnward_100 : decode cX4_leastOnward 100 = .ok (.iload 4, 2) := by decide +kernel
theorem dX4_leastOnward_102 : decode cX4_leastOnward 102 = .ok (.iload 8, 2) := by decide +kernel
theorem dX4_leastOnward_104 : decode cX4_leastOnward 104 = .ok (.invokestatic 112, 3) := by decide +kernel
theorem dX4_leastOnward_107 : decode cX4_leastOnward 107 = .ok (.istore 4, 2) := by decide +kernel
theorem dX4_leastOnward_109 : decode cX4_leastOnward 109 = .ok (.iinc 5 1, 3) := by decide +kernel
theorem dX4_leastOnward_112 : decode cX4_leastOnward 112 = .ok (.goto (-92), 3) := by decide +kernel
theorem dX4_leastOnward_115 : decode cX4_leastOnward 115 = .ok (.iload 4, 2) := by decide +kernel
theorem dX4_leastOnward_117 : decode cX4_leastOnward 117 = .ok (.ireturn, 1) := by decide +kernel
theorem dX4_firstOfLeast_0 : decode cX4_firstOfLeast 0 = .ok (.aload_n 0, 1) := by decide +kernel
theorem dX4_firstOfLeast_1 : decode cX4_firstOfLeast 1 = .ok (.getfield 26, 3) := by decide +kernel
theorem dX4_firstOfLeast_4 : decode cX4_firstOfLeast 4 = .ok (.iload_n 1, 1) := by decide +kernel
theorem dX4_firstOfLeast_5 : decode cX4_firstOfLeast 5 = .ok (.iload_n 2, 1) := by decide +kernel
theorem dX4_firstOfLeast_6 : decode cX4_firstOfLeast 6 = .ok (.invokestatic 75, 3) := by decide +kernel
theorem dX4_firstOfLeast_9 : decode cX4_firstOfLeast 9 = .ok (.iaload, 1) := by decide +kernel
theorem dX4_firstOfLeast_10 : decode cX4_firstOfLeast 10 = .ok (.istore_n 3, 1) := by decide +kernel
theorem dX4_firstOfLeast_11 : decode cX4_firstOfLeast 11 = .ok (.iconst 1, 1) := by decide +kernel
theorem dX4_firstOfLeast_12 : decode cX4_firstOfLeast 12 = .ok (.istore 4, 2) := by decide +kernel
theorem dX4_firstOfLeast_14 : decode cX4_firstOfLeast 14 = .ok (.iload 4, 2) := by decide +kernel
theorem dX4_firstOfLeast_16 : decode cX4_firstOfLeast 16 = .ok (.aload_n 0, 1) := by decide +kernel
theorem dX4_firstOfLeast_17 : decode cX4_firstOfLeast 17 = .ok (.getfield 39, 3) := by decide +kernel
theorem dX4_firstOfLeast_20 : decode cX4_firstOfLeast 20 = .ok (.if_icmp .ge 51, 3) := by decide +kernel
theorem dX4_firstOfLeast_23 : decode cX4_firstOfLeast 23 = .ok (.iload_n 1, 1) := by decide +kernel
theorem dX4_firstOfLeast_24 : decode cX4_firstOfLeast 24 = .ok (.iload 4, 2) := by decide +kernel
theorem dX4_firstOfLeast_26 : decode cX4_firstOfLeast 26 = .ok (.invokestatic 101, 3) := by decide +kernel
theorem dX4_firstOfLeast_29 : decode cX4_firstOfLeast 29 = .ok (.ifCond .eq 36, 3) := by decide +kernel
theorem dX4_firstOfLeast_32 : decode cX4_firstOfLeast 32 = .ok (.aload_n 0, 1) := by decide +kernel
theorem dX4_firstOfLeast_33 : decode cX4_firstOfLeast 33 = .ok (.getfield 23, 3) := by decide +kernel
theorem dX4_firstOfLeast_36 : decode cX4_firstOfLeast 36 = .ok (.iload_n 2, 1) := by decide +kernel
theorem dX4_firstOfLeast_37 : decode cX4_firstOfLeast 37 = .ok (.aaload, 1) := by decide +kernel
theorem dX4_firstOfLeast_38 : decode cX4_firstOfLeast 38 = .ok (.iload 4, 2) := by decide +kernel
theorem dX4_firstOfLeast_40 : decode cX4_firstOfLeast 40 = .ok (.iaload, 1) := by decide +kernel
theorem dX4_firstOfLeast_41 : decode cX4_firstOfLeast 41 = .ok (.aload_n 0, 1) := by decide +kernel
theorem dX4_firstOfLeast_42 : decode cX4_firstOfLeast 42 = .ok (.getfield 26, 3) := by decide +kernel
theorem dX4_firstOfLeast_45 : decode cX4_firstOfLeast 45 = .ok (.iload_n 1, 1) := by decide +kernel
theorem dX4_firstOfLeast_46 : decode cX4_firstOfLeast 46 = .ok (.iload 4, 2) := by decide +kernel
theorem dX4_firstOfLeast_48 : decode cX4_firstOfLeast 48 = .ok (.invokestatic 109, 3) := by decide +kernel
theorem dX4_firstOfLeast_51 : decode cX4_firstOfLeast 51 = .ok (.iload 4, 2) := by decide +kernel
theorem dX4_firstOfLeast_53 : decode cX4_firstOfLeast 53 = .ok (.invokestatic 75, 3) := by decide +kernel
theorem dX4_firstOfLeast_56 : decode cX4_firstOfLeast 56 = .ok (.iaload, 1) := by decide +kernel
theorem dX4_firstOfLeast_57 : decode cX4_firstOfLeast 57 = .ok (.iadd, 1) := by decide +kernel
theorem dX4_firstOfLeast_58 : decode cX4_firstOfLeast 58 = .ok (.iload_n 3, 1) := by decide +kernel
theorem dX4_firstOfLeast_59 : decode cX4_firstOfLeast 59 = .ok (.if_icmp .ne 6, 3) := by decide +kernel
theorem dX4_firstOfLeast_62 : decode cX4_firstOfLeast 62 = .ok (.iload 4, 2) := by decide +kernel
theorem dX4_firstOfLeast_64 : decode cX4_firstOfLeast 64 = .ok (.ireturn, 1) := by decide +kernel
theorem dX4_firstOfLeast_65 : decode cX4_firstOfLeast 65 = .ok (.iinc 4 1, 3) := by decide +kernel
theorem dX4_firstOfLeast_68 : decode cX4_firstOfLeast 68 = .ok (.goto (-54), 3) := by decide +kernel
theorem dX4_firstOfLeast_71 : decode cX4_firstOfLeast 71 = .ok (.iconst 0, 1) := by decide +kernel
theorem dX4_firstOfLeast_72 : decode cX4_firstOfLeast 72 = .ok (.ireturn, 1) := by decide +kernel
theorem dX4_countOnward_0 : decode cX4_countOnward 0 = .ok (.iload 5, 2) := by decide +kernel
theorem dX4_countOnward_2 : decode cX4_countOnward 2 = .ok (.bipush 8, 2) := by decide +kernel
theorem dX4_countOnward_4 : decode cX4_countOnward 4 = .ok (.if_icmp .le 5, 3) := by decide +kernel
theorem dX4_countOnward_7 : decode cX4_countOnward 7 = .ok (.iconst 0, 1) := by decide +kernel
theorem dX4_countOnward_8 : decode cX4_countOnward 8 = .ok (.ireturn, 1) := by decide +kernel
theorem dX4_countOnward_9 : decode cX4_countOnward 9 = .ok (.iload_n 2, 1) := by decide +kernel
theorem dX4_countOnward_10 : decode cX4_countOnward 10 = .ok (.ifCond .ne 19, 3) := by decide +kernel
theorem dX4_countOnward_13 : decode cX4_countOnward 13 = .ok (.aload_n 0, 1) := by decide +kernel
theorem dX4_countOnward_14 : decode cX4_countOnward 14 = .ok (.iload_n 3, 1) := by decide +kernel
theorem dX4_countOnward_15 : decode cX4_countOnward 15 = .ok (.aaload, 1) := by decide +kernel
theorem dX4_countOnward_16 : decode cX4_countOnward 16 = .ok (.iconst 0, 1) := by decide +kernel
theorem dX4_countOnward_17 : decode cX4_countOnward 17 = .ok (.iaload, 1) := by decide +kernel
theorem dX4_countOnward_18 : decode cX4_countOnward 18 = .ok (.iload 4, 2) := by decide +kernel
theorem dX4_countOnward_20 : decode cX4_countOnward 20 = .ok (.if_icmp .gt 7, 3) := by decide +kernel
theorem dX4_countOnward_23 : decode cX4_countOnward 23 = .ok (.iconst 1, 1) := by decide +kernel
theorem dX4_countOnward_24 : decode cX4_countOnward 24 = .ok (.goto 4, 3) := by decide +kernel
theorem dX4_countOnward_27 : decode cX4_countOnward 27 = .ok (.iconst 0, 1) := by decide +kernel
theorem dX4_countOnward_28 : decode cX4_countOnward 28 = .ok (.ireturn, 1) := by decide +kernel
theorem dX4_countOnward_29 : decode cX4_countOnward 29 = .ok (.iconst 0, 1) := by decide +kernel
theorem dX4_countOnward_30 : decode cX4_countOnward 30 = .ok (.istore 6, 2) := by decide +kernel
theorem dX4_countOnward_32 : decode cX4_countOnward 32 = .ok (.iconst 1, 1) := by decide +kernel
theorem dX4_countOnward_33 : decode cX4_countOnward 33 = .ok (.istore 7, 2) := by decide +kernel
theorem dX4_countOnward_35 : decode cX4_countOnward 35 = .ok (.iload 7, 2) := by decide +kernel
theorem dX4_countOnward_37 : decode cX4_countOnward 37 = .ok (.iload_n 1, 1) := by decide +kernel
theorem dX4_countOnward_38 : decode cX4_countOnward 38 = .ok (.if_icmp .ge 60, 3) := by decide +kernel
theorem dX4_countOnward_41 : decode cX4_countOnward 41 = .ok (.iload_n 2, 1) := by decide +kernel
theorem dX4_countOnward_42 : decode cX4_countOnward 42 = .ok (.iload 7, 2) := by decide +kernel
theorem dX4_countOnward_44 : decode cX4_countOnward 44 = .ok (.invokestatic 101, 3) := by decide +kernel
theorem dX4_countOnward_47 : decode cX4_countOnward 47 = .ok (.ifCond .eq 45, 3) := by decide +kernel
theorem dX4_countOnward_50 : decode cX4_countOnward 50 = .ok (.aload_n 0, 1) := by decide +kernel
theorem dX4_countOnward_51 : decode cX4_countOnward 51 = .ok (.iload_n 3, 1) := by decide +kernel
theorem dX4_countOnward_52 : decode cX4_countOnward 52 = .ok (.aaload, 1) := by decide +kernel
theorem dX4_countOnward_53 : decode cX4_countOnward 53 = .ok (.iload 7, 2) := by decide +kernel
theorem dX4_countOnward_55 : decode cX4_countOnward 55 = .ok (.iaload, 1) := by decide +kernel
theorem dX4_countOnward_56 : decode cX4_countOnward 56 = .ok (.iload 4, 2) := by decide +kernel
theorem dX4_countOnward_58 : decode cX4_countOnward 58 = .ok (.if_icmp .gt 34, 3) := by decide +kernel
theorem dX4_countOnward_61 : decode cX4_countOnward 61 = .ok (.iload 6, 2) := by decide +kernel
theorem dX4_countOnward_63 : decode cX4_countOnward 63 = .ok (.aload_n 0, 1) := by decide +kernel
theorem dX4_countOnward_64 : decode cX4_countOnward 64 = .ok (.iload_n 1, 1) := by decide +kernel
theorem dX4_countOnward_65 : decode cX4_countOnward 65 = .ok (.iload_n 2, 1) := by decide +kernel
theorem dX4_countOnward_66 : decode cX4_countOnward 66 = .ok (.iload 7, 2) := by decide +kernel
theorem dX4_countOnward_68 : decode cX4_countOnward 68 = .ok (.invokestatic 109, 3) := by decide +kernel
theorem dX4_countOnward_71 : decode cX4_countOnward 71 = .ok (.iload 7, 2) := by decide +kernel
theorem dX4_countOnward_73 : decode cX4_countOnward 73 = .ok (.iload 4, 2) := by decide +kernel
theorem dX4_countOnward_75 : decode cX4_countOnward 75 = .ok (.aload_n 0, 1) := by decide +kernel
theorem dX4_countOnward_76 : decode cX4_countOnward 76 = .ok (.iload_n 3, 1) := by decide +kernel
theorem dX4_countOnward_77 : decode cX4_countOnward 77 = .ok (.aaload, 1) := by decide +kernel
theorem dX4_countOnward_78 : decode cX4_countOnward 78 = .ok (.iload 7, 2) := by decide +kernel
theorem dX4_countOnward_80 : decode cX4_countOnward 80 = .ok (.iaload, 1) := by decide +kernel
theorem dX4_countOnward_81 : decode cX4_countOnward 81 = .ok (.isub, 1) := by decide +kernel
theorem dX4_countOnward_82 : decode cX4_countOnward 82 = .ok (.iload 5, 2) := by decide +kernel
theorem dX4_countOnward_84 : decode cX4_countOnward 84 = .ok (.iconst 1, 1) := by decide +kernel
theorem dX4_countOnward_85 : decode cX4_countOnward 85 = .ok (.iadd, 1) := by decide +kernel
theorem dX4_countOnward_86 : decode cX4_countOnward 86 = .ok (.invokestatic 71, 3) := by decide +kernel
theorem dX4_countOnward_89 : decode cX4_countOnward 89 = .ok (.iadd, 1) := by decide +kernel
theorem dX4_countOnward_90 : decode cX4_countOnward 90 = .ok (.istore 6, 2) := by decide +kernel
theorem dX4_countOnward_92 : decode cX4_countOnward 92 = .ok (.iinc 7 1, 3) := by decide +kernel
theorem dX4_countOnward_95 : decode cX4_countOnward 95 = .ok (.goto (-60), 3) := by decide +kernel
theorem dX4_countOnward_98 : decode cX4_countOnward 98 = .ok (.iload 6, 2) := by decide +kernel
theorem dX4_countOnward_100 : decode cX4_countOnward 100 = .ok (.ireturn, 1) := by decide +kernel
theorem dX5_init_0 : decode cX5_init 0 = .ok (.aload_n 0, 1) := by decide +kernel
theorem dX5_init_1 : decode cX5_init 1 = .ok (.invokespecial 3, 3) := by decide +kernel
theorem dX5_init_4 : decode cX5_init 4 = .ok (.aload_n 0, 1) := by decide +kernel
theorem dX5_init_5 : decode cX5_init 5 = .ok (.sipush 512, 3) := by decide +kernel
theorem dX5_init_8 : decode cX5_init 8 = .ok (.newarray .int, 2) := by decide +kernel
theorem dX5_init_10 : decode cX5_init 10 = .ok (.putfield 9, 3) := by decide +kernel
theorem dX5_init_13 : decode cX5_init 13 = .ok (.aload_n 0, 1) := by decide +kernel
theorem dX5_init_14 : decode cX5_init 14 = .ok (.sipush 512, 3) := by decide +kernel
theorem dX5_init_17 : decode cX5_init 17 = .ok (.newarray .int, 2) := by decide +kernel
theorem dX5_init_19 : decode cX5_init 19 = .ok (.putfield 15, 3) := by decide +kernel
theorem dX5_init_22 : decode cX5_init 22 = .ok (.return_, 1) := by decide +kernel
theorem dX5_addUp_0 : decode cX5_addUp 0 = .ok (.aload_n 0, 1) := by decide +kernel
theorem dX5_addUp_1 : decode cX5_addUp 1 = .ok (.iconst 1, 1) := by decide +kernel
theorem dX5_addUp_2 : decode cX5_addUp 2 = .ok (.aload_n 1, 1) := by decide +kernel
theorem dX5_addUp_3 : decode cX5_addUp 3 = .ok (.getfield 18, 3) := by decide +kernel
theorem dX5_addUp_6 : decode cX5_addUp 6 = .ok (.ishl, 1) := by decide +kernel
theorem dX5_addUp_7 : decode cX5_addUp 7 = .ok (.putfield 24, 3) := by decide +kernel
theorem dX5_addUp_10 : decode cX5_addUp 10 = .ok (.iconst 0, 1) := by decide +kernel
theorem dX5_addUp_11 : decode cX5_addUp 11 = .ok (.istore_n 2, 1) := by decide +kernel
theorem dX5_addUp_12 : decode cX5_addUp 12 = .ok (.iload_n 2, 1) := by decide +kernel
theorem dX5_addUp_13 : decode cX5_addUp 13 = .ok (.aload_n 1, 1) := by decide +kernel
theorem dX5_addUp_14 : decode cX5_addUp 14 = .ok (.getfield 18, 3) := by decide +kernel
theorem dX5_addUp_17 : decode cX5_addUp 17 = .ok (.if_icmp .ge 104, 3) := by decide +kernel
theorem dX5_addUp_20 : decode cX5_addUp 20 = .ok (.aload_n 1, 1) := by decide +kernel
theorem dX5_addUp_21 : decode cX5_addUp 21 = .ok (.iload_n 2, 1) := by decide +kernel
theorem dX5_addUp_22 : decode cX5_addUp 22 = .ok (.invokevirtual 27, 3) := by decide +kernel
theorem dX5_addUp_25 : decode cX5_addUp 25 = .ok (.astore_n 3, 1) := by decide +kernel
theorem dX5_addUp_26 : decode cX5_addUp 26 = .ok (.aload_n 3, 1) := by decide +kernel
theorem dX5_addUp_27 : decode cX5_addUp 27 = .ok (.ifnonnull 7, 3) := by decide +kernel
theorem dX5_addUp_30 : decode cX5_addUp 30 = .ok (.iconst 0, 1) := by decide +kernel
theorem dX5_addUp_31 : decode cX5_addUp 31 = .ok (.goto 7, 3) := by decide +kernel
theorem dX5_addUp_34 : decode cX5_addUp 34 = .ok (.aload_n 3, 1) := by decide +kernel
theorem dX5_addUp_35 : decode cX5_addUp 35 = .ok (.invokevirtual 31, 3) := by decide +kernel
theorem dX5_addUp_38 : decode cX5_addUp 38 = .ok (.istore 4, 2) := by decide +kernel
theorem dX5_addUp_40 : decode cX5_addUp 40 = .ok (.aload_n 3, 1) := by decide +kernel
theorem dX5_addUp_41 : decode cX5_addUp 41 = .ok (.ifnonnull 7, 3) := by decide +kernel
theorem dX5_addUp_44 : decode cX5_addUp 44 = .ok (.iconst 0, 1) := by decide +kernel
theorem dX5_addUp_45 : decode cX5_addUp 45 = .ok (.goto 7, 3) := by decide +kernel
theorem dX5_addUp_48 : decode cX5_addUp 48 = .ok (.aload_n 3, 1) := by decide +kernel
theorem dX5_addUp_49 : decode cX5_addUp 49 = .ok (.invokevirtual 36, 3) := by decide +kernel
theorem dX5_addUp_52 : decode cX5_addUp 52 = .ok (.istore 5, 2) := by decide +kernel
theorem dX5_addUp_54 : decode cX5_addUp 54 = .ok (.iconst 1, 1) := by decide +kernel
theorem dX5_addUp_55 : decode cX5_addUp 55 = .ok (.iload_n 2, 1) := by decide +kernel
theorem dX5_addUp_56 : decode cX5_addUp 56 = .ok (.ishl, 1) := by decide +kernel
theorem dX5_addUp_57 : decode cX5_addUp 57 = .ok (.istore 6, 2) := by decide +kernel
theorem dX5_addUp_59 : decode cX5_addUp 59 = .ok (.iconst 0, 1) := by decide +kernel
theorem dX5_addUp_60 : decode cX5_addUp 60 = .ok (.istore 7, 2) := by decide +kernel
theorem dX5_addUp_62 : decode cX5_addUp 62 = .ok (.iload 7, 2) := by decide +kernel
theorem dX5_addUp_64 : decode cX5_addUp 64 = .ok (.iload 6, 2) := by decide +kernel
theorem dX5_addUp_66 : decode cX5_addUp 66 = .ok (.if_icmp .ge 49, 3) := by decide +kernel
theorem dX5_addUp_69 : decode cX5_addUp 69 = .ok (.aload_n 0, 1) := by decide +kernel
theorem dX5_addUp_70 : decode cX5_addUp 70 = .ok (.getfield 9, 3) := by decide +kernel
theorem dX5_addUp_73 : decode cX5_addUp 73 = .ok (.iload 6, 2) := by decide +kernel
theorem dX5_addUp_75 : decode cX5_addUp 75 = .ok (.iload 7, 2) := by decide +kernel
theorem dX5_addUp_77 : decode cX5_addUp 77 = .ok (.iadd, 1) := by decide +kernel
theorem dX5_addUp_78 : decode cX5_addUp 78 = .ok (.aload_n 0, 1) := by decide +kernel
theorem dX5_addUp_79 : decode cX5_addUp 79 = .ok (.getfield 9, 3) := by decide +kernel
theorem dX5_addUp_82 : decode cX5_addUp 82 = .ok (.iload 7, 2) := by decide +kernel
theorem dX5_addUp_84 : decode cX5_addUp 84 = .ok (.iaload, 1) := by decide +kernel
theorem dX5_addUp_85 : decode cX5_addUp 85 = .ok (.iload 4, 2) := by decide +kernel
theorem dX5_addUp_87 : decode cX5_addUp 87 = .ok (.iadd, 1) := by decide +kernel
theorem dX5_addUp_88 : decode cX5_addUp 88 = .ok (.iastore, 1) := by decide +kernel
theorem dX5_addUp_89 : decode cX5_addUp 89 = .ok (.aload_n 0, 1) := by decide +kernel
theorem dX5_addUp_90 : decode cX5_addUp 90 = .ok (.getfield 15, 3) := by decide +kernel
theorem dX5_addUp_93 : decode cX5_addUp 93 = .ok (.iload 6, 2) := by decide +kernel
theorem dX5_addUp_95 : decode cX5_addUp 95 = .ok (.iload 7, 2) := by decide +kernel
theorem dX5_addUp_97 : decode cX5_addUp 97 = .ok (.iadd, 1) := by decide +kernel
theorem dX5_addUp_98 : decode cX5_addUp 98 = .ok (.aload_n 0, 1) := by decide +kernel
theorem dX5_addUp_99 : decode cX5_addUp 99 = .ok (.getfield 15, 3) := by decide +kernel
theorem dX5_addUp_102 : decode cX5_addUp 102 = .ok (.iload 7, 2) := by decide +kernel
theorem dX5_addUp_104 : decode cX5_addUp 104 = .ok (.iaload, 1) := by decide +kernel
theorem dX5_addUp_105 : decode cX5_addUp 105 = .ok (.iload 5, 2) := by decide +kernel
theorem dX5_addUp_107 : decode cX5_addUp 107 = .ok (.iadd, 1) := by decide +kernel
theorem dX5_addUp_108 : decode cX5_addUp 108 = .ok (.iastore, 1) := by decide +kernel
theorem dX5_addUp_109 : decode cX5_addUp 109 = .ok (.iinc 7 1, 3) := by decide +kernel
theorem dX5_addUp_112 : decode cX5_addUp 112 = .ok (.goto (-50), 3) := by decide +kernel
theorem dX5_addUp_115 : decode cX5_addUp 115 = .ok (.iinc 2 1, 3) := by decide +kernel
theorem dX5_addUp_118 : decode cX5_addUp 118 = .ok (.goto (-106), 3) := by decide +kernel
theorem dX5_addUp_121 : decode cX5_addUp 121 = .ok (.return_, 1) := by decide +kernel
theorem dX5_howMany_0 : decode cX5_howMany 0 = .ok (.iconst 0, 1) := by decide +kernel
theorem dX5_howMany_1 : decode cX5_howMany 1 = .ok (.istore_n 3, 1) := by decide +kernel
theorem dX5_howMany_2 : decode cX5_howMany 2 = .ok (.iconst 0, 1) := by decide +kernel
theorem dX5_howMany_3 : decode cX5_howMany 3 = .ok (.istore 4, 2) := by decide +kernel
theorem dX5_howMany_5 : decode cX5_howMany 5 = .ok (.iload 4, 2) := by decide +kernel
theorem dX5_howMany_7 : decode cX5_howMany 7 = .ok (.aload_n 0, 1) := by decide +kernel
theorem dX5_howMany_8 : decode cX5_howMany 8 = .ok (.getfield 24, 3) := by decide +kernel
theorem dX5_howMany_11 : decode cX5_howMany 11 = .ok (.if_icmp .ge 27, 3) := by decide +kernel
theorem dX5_howMany_14 : decode cX5_howMany 14 = .ok (.aload_n 0, 1) := by decide +kernel
theorem dX5_howMany_15 : decode cX5_howMany 15 = .ok (.getfield 9, 3) := by decide +kernel
theorem dX5_howMany_18 : decode cX5_howMany 18 = .ok (.iload 4, 2) := by decide +kernel
theorem dX5_howMany_20 : decode cX5_howMany 20 = .ok (.iaload, 1) := by decide +kernel
theorem dX5_howMany_21 : decode cX5_howMany 21 = .ok (.iload_n 1, 1) := by decide +kernel
theorem dX5_howMany_22 : decode cX5_howMany 22 = .ok (.iload_n 2, 1) := by decide +kernel
theorem dX5_howMany_23 : decode cX5_howMany 23 = .ok (.invokestatic 39, 3) := by decide +kernel
theorem dX5_howMany_26 : decode cX5_howMany 26 = .ok (.ifCond .eq 6, 3) := by decide +kernel
theorem dX5_howMany_29 : decode cX5_howMany 29 = .ok (.iinc 3 1, 3) := by decide +kernel
theorem dX5_howMany_32 : decode cX5_howMany 32 = .ok (.iinc 4 1, 3) := by decide +kernel
theorem dX5_howMany_35 : decode cX5_howMany 35 = .ok (.goto (-30), 3) := by decide +kernel
theorem dX5_howMany_38 : decode cX5_howMany 38 = .ok (.iload_n 3, 1) := by decide +kernel
theorem dX5_howMany_39 : decode cX5_howMany 39 = .ok (.ireturn, 1) := by decide +kernel
theorem dX5_bestBetween_0 : decode cX5_bestBetween 0 = .ok (.bipush (-5), 2) := by decide +kernel
theorem dX5_bestBetween_2 : decode cX5_bestBetween 2 = .ok (.istore_n 3, 1) := by decide +kernel
theorem dX5_bestBetween_3 : decode cX5_bestBetween 3 = .ok (.iconst 1, 1) := by decide +kernel
theorem dX5_bestBetween_4 : decode cX5_bestBetween 4 = .ok (.istore 4, 2) := by decide +kernel
theorem dX5_bestBetween_6 : decode cX5_bestBetween 6 = .ok (.iload 4, 2) := by decide +kernel
theorem dX5_bestBetween_8 : decode cX5_bestBetween 8 = .ok (.aload_n 0, 1) := by decide +kernel
theorem dX5_bestBetween_9 : decode cX5_bestBetween 9 = .ok (.getfield 24, 3) := by decide +kernel
theorem dX5_bestBetween_12 : decode cX5_bestBetween 12 = .ok (.if_icmp .ge 43, 3) := by decide +kernel
theorem dX5_bestBetween_15 : decode cX5_bestBetween 15 = .ok (.aload_n 0, 1) := by decide +kernel
theorem dX5_bestBetween_16 : decode cX5_bestBetween 16 = .ok (.getfield 9, 3) := by decide +kernel
theorem dX5_bestBetween_19 : decode cX5_bestBetween 19 = .ok (.iload 4, 2) := by decide +kernel
theorem dX5_bestBetween_21 : decode cX5_bestBetween 21 = .ok (.iaload, 1) := by decide +kernel
theorem dX5_bestBetween_22 : decode cX5_bestBetween 22 = .ok (.iload_n 1, 1) := by decide +kernel
theorem dX5_bestBetween_23 : decode cX5_bestBetween 23 = .ok (.iload_n 2, 1) := by decide +kernel
theorem dX5_bestBetween_24 : decode cX5_bestBetween 24 = .ok (.invokestatic 39, 3) := by decide +kernel
theorem dX5_bestBetween_27 : decode cX5_bestBetween 27 = .ok (.ifCond .eq 22, 3) := by decide +kernel
theorem dX5_bestBetween_30 : decode cX5_bestBetween 30 = .ok (.iload_n 3, 1) := by decide +kernel
theorem dX5_bestBetween_31 : decode cX5_bestBetween 31 = .ok (.bipush (-5), 2) := by decide +kernel
theorem dX5_bestBetween_33 : decode cX5_bestBetween 33 = .ok (.if_icmp .eq 13, 3) := by decide +kernel
theorem dX5_bestBetween_36 : decode cX5_bestBetween 36 = .ok (.aload_n 0, 1) := by decide +kernel
theorem dX5_bestBetween_37 : decode cX5_bestBetween 37 = .ok (.iload 4, 2) := by decide +kernel
theorem dX5_bestBetween_39 : decode cX5_bestBetween 39 = .ok (.iload_n 3, 1) := by decide +kernel
theorem dX5_bestBetween_40 : decode cX5_bestBetween 40 = .ok (.invokevirtual 43, 3) := by decide +kernel
theorem dX5_bestBetween_43 : decode cX5_bestBetween 43 = .ok (.ifCond .eq 6, 3) := by decide +kernel
theorem dX5_bestBetween_46 : decode cX5_bestBetween 46 = .ok (.iload 4, 2) := by decide +kernel
theorem dX5_bestBetween_48 : decode cX5_bestBetween 48 = .ok (.istore_n 3, 1) := by decide +kernel
theorem dX5_bestBetween_49 : decode cX5_bestBetween 49 = .ok (.iinc 4 1, 3) := by decide +kernel
theorem dX5_bestBetween_52 : decode cX5_bestBetween 52 = .ok (.goto (-46), 3) := by decide +kernel
theorem dX5_bestBetween_55 : decode cX5_bestBetween 55 = .ok (.iload_n 3, 1) := by decide +kernel
theorem dX5_bestBetween_56 : decode cX5_bestBetween 56 = .ok (.ireturn, 1) := by decide +kernel
theorem dX5_isBetter_0 : decode cX5_isBetter 0 = .ok (.aload_n 0, 1) := by decide +kernel
theorem dX5_isBetter_1 : decode cX5_isBetter 1 = .ok (.getfield 9, 3) := by decide +kernel
theorem dX5_isBetter_4 : decode cX5_isBetter 4 = .ok (.iload_n 1, 1) := by decide +kernel
theorem dX5_isBetter_5 : decode cX5_isBetter 5 = .ok (.iaload, 1) := by decide +kernel
theorem dX5_isBetter_6 : decode cX5_isBetter 6 = .ok (.aload_n 0, 1) := by decide +kernel
theorem dX5_isBetter_7 : decode cX5_isBetter 7 = .ok (.getfield 9, 3) := by decide +kernel
theorem dX5_isBetter_10 : decode cX5_isBetter 10 = .ok (.iload_n 2, 1) := by decide +kernel
theorem dX5_isBetter_11 : decode cX5_isBetter 11 = .ok (.iaload, 1) := by decide +kernel
theorem dX5_isBetter_12 : decode cX5_isBetter 12 = .ok (.if_icmp .eq 24, 3) := by decide +kernel
theorem dX5_isBetter_15 : decode cX5_isBetter 15 = .ok (.aload_n 0, 1) := by decide +kernel
theorem dX5_isBetter_16 : decode cX5_isBetter 16 = .ok (.getfield 9, 3) := by decide +kernel
theorem dX5_isBetter_19 : decode cX5_isBetter 19 = .ok (.iload_n 1, 1) := by decide +kernel
theorem dX5_isBetter_20 : decode cX5_isBetter 20 = .ok (.iaload, 1) := by decide +kernel
theorem dX5_isBetter_21 : decode cX5_isBetter 21 = .ok (.aload_n 0, 1) := by decide +kernel
theorem dX5_isBetter_22 : decode cX5_isBetter 22 = .ok (.getfield 9, 3) := by decide +kernel
theorem dX5_isBetter_25 : decode cX5_isBetter 25 = .ok (.iload_n 2, 1) := by decide +kernel
theorem dX5_isBetter_26 : decode cX5_isBetter 26 = .ok (.iaload, 1) := by decide +kernel
theorem dX5_isBetter_27 : decode cX5_isBetter 27 = .ok (.if_icmp .ge 7, 3) := by decide +kernel
theorem dX5_isBetter_30 : decode cX5_isBetter 30 = .ok (.iconst 1, 1) := by decide +kernel
theorem dX5_isBetter_31 : decode cX5_isBetter 31 = .ok (.goto 4, 3) := by decide +kernel
theorem dX5_isBetter_34 : decode cX5_isBetter 34 = .ok (.iconst 0, 1) := by decide +kernel
theorem dX5_isBetter_35 : decode cX5_isBetter 35 = .ok (.ireturn, 1) := by decide +kernel
theorem dX5_isBetter_36 : decode cX5_isBetter 36 = .ok (.aload_n 0, 1) := by decide +kernel
theorem dX5_isBetter_37 : decode cX5_isBetter 37 = .ok (.getfield 15, 3) := by decide +kernel
theorem dX5_isBetter_40 : decode cX5_isBetter 40 = .ok (.iload_n 1, 1) := by decide +kernel
theorem dX5_isBetter_41 : decode cX5_isBetter 41 = .ok (.iaload, 1) := by decide +kernel
theorem dX5_isBetter_42 : decode cX5_isBetter 42 = .ok (.aload_n 0, 1) := by decide +kernel
theorem dX5_isBetter_43 : decode cX5_isBetter 43 = .ok (.getfield 15, 3) := by decide +kernel
theorem dX5_isBetter_46 : decode cX5_isBetter 46 = .ok (.iload_n 2, 1) := by decide +kernel
theorem dX5_isBetter_47 : decode cX5_isBetter 47 = .ok (.iaload, 1) := by decide +kernel
theorem dX5_isBetter_48 : decode cX5_isBetter 48 = .ok (.if_icmp .eq 24, 3) := by decide +kernel
theorem dX5_isBetter_51 : decode cX5_isBetter 51 = .ok (.aload_n 0, 1) := by decide +kernel
theorem dX5_isBetter_52 : decode cX5_isBetter 52 = .ok (.getfield 15, 3) := by decide +kernel
theorem dX5_isBetter_55 : decode cX5_isBetter 55 = .ok (.iload_n 1, 1) := by decide +kernel
theorem dX5_isBetter_56 : decode cX5_isBetter 56 = .ok (.iaload, 1) := by decide +kernel
