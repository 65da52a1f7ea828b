theorem dX0_init_0 : decode cX0_init 0 = .ok (.aload_n 0, 1) := by decide +kernel
theorem dX0_init_1 : decode cX0_init 1 = .ok (.invokespecial 3, 3) := by decide +kernel
theorem dX0_init_4 : decode cX0_init 4 = .ok (.aload_n 0, 1) := by decide +kernel
theorem dX0_init_5 : decode cX0_init 5 = .ok (.bipush 30, 2) := by decide +kernel
theorem dX0_init_7 : decode cX0_init 7 = .ok (.newarray .int, 2) := by decide +kernel
theorem dX0_init_9 : decode cX0_init 9 = .ok (.putfield 9, 3) := by decide +kernel
theorem dX0_init_12 : decode cX0_init 12 = .ok (.aload_n 0, 1) := by decide +kernel
theorem dX0_init_13 : decode cX0_init 13 = .ok (.sipush 128, 3) := by decide +kernel
theorem dX0_init_16 : decode cX0_init 16 = .ok (.newarray .int, 2) := by decide +kernel
theorem dX0_init_18 : decode cX0_init 18 = .ok (.putfield 15, 3) := by decide +kernel
theorem dX0_init_21 : decode cX0_init 21 = .ok (.aload_n 0, 1) := by decide +kernel
theorem dX0_init_22 : decode cX0_init 22 = .ok (.aload_n 1, 1) := by decide +kernel
theorem dX0_init_23 : decode cX0_init 23 = .ok (.putfield 18, 3) := by decide +kernel
theorem dX0_init_26 : decode cX0_init 26 = .ok (.return_, 1) := by decide +kernel
theorem dX0_prepare_0 : decode cX0_prepare 0 = .ok (.aload_n 0, 1) := by decide +kernel
theorem dX0_prepare_1 : decode cX0_prepare 1 = .ok (.getfield 22, 3) := by decide +kernel
theorem dX0_prepare_4 : decode cX0_prepare 4 = .ok (.iload_n 1, 1) := by decide +kernel
theorem dX0_prepare_5 : decode cX0_prepare 5 = .ok (.if_icmp .eq 16, 3) := by decide +kernel
theorem dX0_prepare_8 : decode cX0_prepare 8 = .ok (.iload_n 1, 1) := by decide +kernel
theorem dX0_prepare_9 : decode cX0_prepare 9 = .ok (.invokestatic 26, 3) := by decide +kernel
theorem dX0_prepare_12 : decode cX0_prepare 12 = .ok (.ifCond .eq 9, 3) := by decide +kernel
theorem dX0_prepare_15 : decode cX0_prepare 15 = .ok (.iload_n 1, 1) := by decide +kernel
theorem dX0_prepare_16 : decode cX0_prepare 16 = .ok (.bipush 12, 2) := by decide +kernel
theorem dX0_prepare_18 : decode cX0_prepare 18 = .ok (.if_icmp .le 4, 3) := by decide +kernel
theorem dX0_prepare_21 : decode cX0_prepare 21 = .ok (.return_, 1) := by decide +kernel
theorem dX0_prepare_22 : decode cX0_prepare 22 = .ok (.aload_n 0, 1) := by decide +kernel
theorem dX0_prepare_23 : decode cX0_prepare 23 = .ok (.iload_n 1, 1) := by decide +kernel
theorem dX0_prepare_24 : decode cX0_prepare 24 = .ok (.putfield 22, 3) := by decide +kernel
theorem dX0_prepare_27 : decode cX0_prepare 27 = .ok (.aload_n 0, 1) := by decide +kernel
theorem dX0_prepare_28 : decode cX0_prepare 28 = .ok (.iconst 0, 1) := by decide +kernel
theorem dX0_prepare_29 : decode cX0_prepare 29 = .ok (.putfield 30, 3) := by decide +kernel
theorem dX0_prepare_32 : decode cX0_prepare 32 = .ok (.aload_n 0, 1) := by decide +kernel
theorem dX0_prepare_33 : decode cX0_prepare 33 = .ok (.getfield 9, 3) := by decide +kernel
theorem dX0_prepare_36 : decode cX0_prepare 36 = .ok (.iconst 1, 1) := by decide +kernel
theorem dX0_prepare_37 : decode cX0_prepare 37 = .ok (.invokestatic 33, 3) := by decide +kernel
theorem dX0_prepare_40 : decode cX0_prepare 40 = .ok (.aload_n 0, 1) := by decide +kernel
theorem dX0_prepare_41 : decode cX0_prepare 41 = .ok (.getfield 18, 3) := by decide +kernel
theorem dX0_prepare_44 : decode cX0_prepare 44 = .ok (.aload_n 0, 1) := by decide +kernel
theorem dX0_prepare_45 : decode cX0_prepare 45 = .ok (.getfield 22, 3) := by decide +kernel
theorem dX0_prepare_48 : decode cX0_prepare 48 = .ok (.aload_n 0, 1) := by decide +kernel
theorem dX0_prepare_49 : decode cX0_prepare 49 = .ok (.getfield 9, 3) := by decide +kernel
theorem dX0_prepare_52 : decode cX0_prepare 52 = .ok (.invokevirtual 39, 3) := by decide +kernel
theorem dX0_prepare_55 : decode cX0_prepare 55 = .ok (.iconst 0, 1) := by decide +kernel
theorem dX0_prepare_56 : decode cX0_prepare 56 = .ok (.istore_n 2, 1) := by decide +kernel
theorem dX0_prepare_57 : decode cX0_prepare 57 = .ok (.iload_n 2, 1) := by decide +kernel
theorem dX0_prepare_58 : decode cX0_prepare 58 = .ok (.iconst 1, 1) := by decide +kernel
theorem dX0_prepare_59 : decode cX0_prepare 59 = .ok (.aload_n 0, 1) := by decide +kernel
theorem dX0_prepare_60 : decode cX0_prepare 60 = .ok (.getfield 22, 3) := by decide +kernel
theorem dX0_prepare_63 : decode cX0_prepare 63 = .ok (.ishl, 1) := by decide +kernel
theorem dX0_prepare_64 : decode cX0_prepare 64 = .ok (.if_icmp .ge 57, 3) := by decide +kernel
theorem dX0_prepare_67 : decode cX0_prepare 67 = .ok (.aload_n 0, 1) := by decide +kernel
theorem dX0_prepare_68 : decode cX0_prepare 68 = .ok (.getfield 18, 3) := by decide +kernel
theorem dX0_prepare_71 : decode cX0_prepare 71 = .ok (.invokevirtual 45, 3) := by decide +kernel
theorem dX0_prepare_74 : decode cX0_prepare 74 = .ok (.ifCond .eq 33, 3) := by decide +kernel
theorem dX0_prepare_77 : decode cX0_prepare 77 = .ok (.aload_n 0, 1) := by decide +kernel
theorem dX0_prepare_78 : decode cX0_prepare 78 = .ok (.getfield 30, 3) := by decide +kernel
theorem dX0_prepare_81 : decode cX0_prepare 81 = .ok (.sipush 128, 3) := by decide +kernel
theorem dX0_prepare_84 : decode cX0_prepare 84 = .ok (.if_icmp .ge 23, 3) := by decide +kernel
theorem dX0_prepare_87 : decode cX0_prepare 87 = .ok (.aload_n 0, 1) := by decide +kernel
theorem dX0_prepare_88 : decode cX0_prepare 88 = .ok (.getfield 15, 3) := by decide +kernel
theorem dX0_prepare_91 : decode cX0_prepare 91 = .ok (.aload_n 0, 1) := by decide +kernel
theorem dX0_prepare_92 : decode cX0_prepare 92 = .ok (.getfield 30, 3) := by decide +kernel
theorem dX0_prepare_95 : decode cX0_prepare 95 = .ok (.iload_n 2, 1) := by decide +kernel
theorem dX0_prepare_96 : decode cX0_prepare 96 = .ok (.iastore, 1) := by decide +kernel
theorem dX0_prepare_97 : decode cX0_prepare 97 = .ok (.aload_n 0, 1) := by decide +kernel
theorem dX0_prepare_98 : decode cX0_prepare 98 = .ok (.dup, 1) := by decide +kernel
theorem dX0_prepare_99 : decode cX0_prepare 99 = .ok (.getfield 30, 3) := by decide +kernel
theorem dX0_prepare_102 : decode cX0_prepare 102 = .ok (.iconst 1, 1) := by decide +kernel
theorem dX0_prepare_103 : decode cX0_prepare 103 = .ok (.iadd, 1) := by decide +kernel
theorem dX0_prepare_104 : decode cX0_prepare 104 = .ok (.putfield 30, 3) := by decide +kernel
theorem dX0_prepare_107 : decode cX0_prepare 107 = .ok (.aload_n 0, 1) := by decide +kernel
theorem dX0_prepare_108 : decode cX0_prepare 108 = .ok (.getfield 18, 3) := by decide +kernel
theorem dX0_prepare_111 : decode cX0_prepare 111 = .ok (.invokevirtual 49, 3) := by decide +kernel
theorem dX0_prepare_114 : decode cX0_prepare 114 = .ok (.pop, 1) := by decide +kernel
theorem dX0_prepare_115 : decode cX0_prepare 115 = .ok (.iinc 2 1, 3) := by decide +kernel
theorem dX0_prepare_118 : decode cX0_prepare 118 = .ok (.goto (-61), 3) := by decide +kernel
theorem dX0_prepare_121 : decode cX0_prepare 121 = .ok (.return_, 1) := by decide +kernel
theorem dX0_isListed_0 : decode cX0_isListed 0 = .ok (.aload_n 0, 1) := by decide +kernel
theorem dX0_isListed_1 : decode cX0_isListed 1 = .ok (.getfield 15, 3) := by decide +kernel
theorem dX0_isListed_4 : decode cX0_isListed 4 = .ok (.iload_n 1, 1) := by decide +kernel
theorem dX0_isListed_5 : decode cX0_isListed 5 = .ok (.iaload, 1) := by decide +kernel
theorem dX0_isListed_6 : decode cX0_isListed 6 = .ok (.istore_n 3, 1) := by decide +kernel
theorem dX0_isListed_7 : decode cX0_isListed 7 = .ok (.iload_n 3, 1) := by decide +kernel
theorem dX0_isListed_8 : decode cX0_isListed 8 = .ok (.invokestatic 52, 3) := by decide +kernel
theorem dX0_isListed_11 : decode cX0_isListed 11 = .ok (.iload_n 2, 1) := by decide +kernel
theorem dX0_isListed_12 : decode cX0_isListed 12 = .ok (.if_icmp .ne 23, 3) := by decide +kernel
theorem dX0_isListed_15 : decode cX0_isListed 15 = .ok (.aload_n 0, 1) := by decide +kernel
theorem dX0_isListed_16 : decode cX0_isListed 16 = .ok (.iload_n 3, 1) := by decide +kernel
theorem dX0_isListed_17 : decode cX0_isListed 17 = .ok (.invokevirtual 58, 3) := by decide +kernel
theorem dX0_isListed_20 : decode cX0_isListed 20 = .ok (.ifCond .ne 15, 3) := by decide +kernel
theorem dX0_isListed_23 : decode cX0_isListed 23 = .ok (.aload_n 0, 1) := by decide +kernel
theorem dX0_isListed_24 : decode cX0_isListed 24 = .ok (.iload_n 3, 1) := by decide +kernel
theorem dX0_isListed_25 : decode cX0_isListed 25 = .ok (.invokevirtual 61, 3) := by decide +kernel
theorem dX0_isListed_28 : decode cX0_isListed 28 = .ok (.ifCond .eq 7, 3) := by decide +kernel
theorem dX0_isListed_31 : decode cX0_isListed 31 = .ok (.iconst 1, 1) := by decide +kernel
theorem dX0_isListed_32 : decode cX0_isListed 32 = .ok (.goto 4, 3) := by decide +kernel
theorem dX0_isListed_35 : decode cX0_isListed 35 = .ok (.iconst 0, 1) := by decide +kernel
theorem dX0_isListed_36 : decode cX0_isListed 36 = .ok (.ireturn, 1) := by decide +kernel
theorem dX0_splits_0 : decode cX0_splits 0 = .ok (.iconst 0, 1) := by decide +kernel
theorem dX0_splits_1 : decode cX0_splits 1 = .ok (.istore_n 2, 1) := by decide +kernel
theorem dX0_splits_2 : decode cX0_splits 2 = .ok (.iload_n 2, 1) := by decide +kernel
theorem dX0_splits_3 : decode cX0_splits 3 = .ok (.aload_n 0, 1) := by decide +kernel
theorem dX0_splits_4 : decode cX0_splits 4 = .ok (.getfield 30, 3) := by decide +kernel
theorem dX0_splits_7 : decode cX0_splits 7 = .ok (.if_icmp .ge 34, 3) := by decide +kernel
theorem dX0_splits_10 : decode cX0_splits 10 = .ok (.aload_n 0, 1) := by decide +kernel
theorem dX0_splits_11 : decode cX0_splits 11 = .ok (.getfield 15, 3) := by decide +kernel
theorem dX0_splits_14 : decode cX0_splits 14 = .ok (.iload_n 2, 1) := by decide +kernel
theorem dX0_splits_15 : decode cX0_splits 15 = .ok (.iaload, 1) := by decide +kernel
theorem dX0_splits_16 : decode cX0_splits 16 = .ok (.istore_n 3, 1) := by decide +kernel
theorem dX0_splits_17 : decode cX0_splits 17 = .ok (.iload_n 3, 1) := by decide +kernel
theorem dX0_splits_18 : decode cX0_splits 18 = .ok (.ifCond .eq 17, 3) := by decide +kernel
theorem dX0_splits_21 : decode cX0_splits 21 = .ok (.iload_n 3, 1) := by decide +kernel
theorem dX0_splits_22 : decode cX0_splits 22 = .ok (.iload_n 1, 1) := by decide +kernel
theorem dX0_splits_23 : decode cX0_splits 23 = .ok (.if_icmp .eq 12, 3) := by decide +kernel
theorem dX0_splits_26 : decode cX0_splits 26 = .ok (.iload_n 3, 1) := by decide +kernel
theorem dX0_splits_27 : decode cX0_splits 27 = .ok (.iload_n 1, 1) := by decide +kernel
theorem dX0_splits_28 : decode cX0_splits 28 = .ok (.iand, 1) := by decide +kernel
theorem dX0_splits_29 : decode cX0_splits 29 = .ok (.iload_n 3, 1) := by decide +kernel
theorem dX0_splits_30 : decode cX0_splits 30 = .ok (.if_icmp .ne 5, 3) := by decide +kernel
theorem dX0_splits_33 : decode cX0_splits 33 = .ok (.iconst 1, 1) := by decide +kernel
theorem dX0_splits_34 : decode cX0_splits 34 = .ok (.ireturn, 1) := by decide +kernel
theorem dX0_splits_35 : decode cX0_splits 35 = .ok (.iinc 2 1, 3) := by decide +kernel
theorem dX0_splits_38 : decode cX0_splits 38 = .ok (.goto (-36), 3) := by decide +kernel
theorem dX0_splits_41 : decode cX0_splits 41 = .ok (.iconst 0, 1) := by decide +kernel
theorem dX0_splits_42 : decode cX0_splits 42 = .ok (.ireturn, 1) := by decide +kernel
theorem dX0_isLeastTurned_0 : decode cX0_isLeastTurned 0 = .ok (.iload_n 1, 1) := by decide +kernel
theorem dX0_isLeastTurned_1 : decode cX0_isLeastTurned 1 = .ok (.istore_n 2, 1) := by decide +kernel
theorem dX0_isLeastTurned_2 : decode cX0_isLeastTurned 2 = .ok (.iconst 1, 1) := by decide +kernel
theorem dX0_isLeastTurned_3 : decode cX0_isLeastTurned 3 = .ok (.istore_n 3, 1) := by decide +kernel
theorem dX0_isLeastTurned_4 : decode cX0_isLeastTurned 4 = .ok (.iload_n 3, 1) := by decide +kernel
theorem dX0_isLeastTurned_5 : decode cX0_isLeastTurned 5 = .ok (.aload_n 0, 1) := by decide +kernel
theorem dX0_isLeastTurned_6 : decode cX0_isLeastTurned 6 = .ok (.getfield 22, 3) := by decide +kernel
theorem dX0_isLeastTurned_9 : decode cX0_isLeastTurned 9 = .ok (.if_icmp .ge 38, 3) := by decide +kernel
theorem dX0_isLeastTurned_12 : decode cX0_isLeastTurned 12 = .ok (.iload_n 2, 1) := by decide +kernel
theorem dX0_isLeastTurned_13 : decode cX0_isLeastTurned 13 = .ok (.iconst 1, 1) := by decide +kernel
theorem dX0_isLeastTurned_14 : decode cX0_isLeastTurned 14 = .ok (.ishl, 1) := by decide +kernel
theorem dX0_isLeastTurned_15 : decode cX0_isLeastTurned 15 = .ok (.iload_n 2, 1) := by decide +kernel
theorem dX0_isLeastTurned_16 : decode cX0_isLeastTurned 16 = .ok (.aload_n 0, 1) := by decide +kernel
theorem dX0_isLeastTurned_17 : decode cX0_isLeastTurned 17 = .ok (.getfield 22, 3) := by decide +kernel
theorem dX0_isLeastTurned_20 : decode cX0_isLeastTurned 20 = .ok (.iconst 1, 1) := by decide +kernel
theorem dX0_isLeastTurned_21 : decode cX0_isLeastTurned 21 = .ok (.isub, 1) := by decide +kernel
theorem dX0_isLeastTurned_22 : decode cX0_isLeastTurned 22 = .ok (.ishr, 1) := by decide +kernel
theorem dX0_isLeastTurned_23 : decode cX0_isLeastTurned 23 = .ok (.ior, 1) := by decide +kernel
theorem dX0_isLeastTurned_24 : decode cX0_isLeastTurned 24 = .ok (.iconst 1, 1) := by decide +kernel
theorem dX0_isLeastTurned_25 : decode cX0_isLeastTurned 25 = .ok (.aload_n 0, 1) := by decide +kernel
theorem dX0_isLeastTurned_26 : decode cX0_isLeastTurned 26 = .ok (.getfield 22, 3) := by decide +kernel
theorem dX0_isLeastTurned_29 : decode cX0_isLeastTurned 29 = .ok (.ishl, 1) := by decide +kernel
theorem dX0_isLeastTurned_30 : decode cX0_isLeastTurned 30 = .ok (.iconst 1, 1) := by decide +kernel
theorem dX0_isLeastTurned_31 : decode cX0_isLeastTurned 31 = .ok (.isub, 1) := by decide +kernel
theorem dX0_isLeastTurned_32 : decode cX0_isLeastTurned 32 = .ok (.iand, 1) := by decide +kernel
theorem dX0_isLeastTurned_33 : decode cX0_isLeastTurned 33 = .ok (.istore_n 2, 1) := by decide +kernel
theorem dX0_isLeastTurned_34 : decode cX0_isLeastTurned 34 = .ok (.iload_n 2, 1) := by decide +kernel
theorem dX0_isLeastTurned_35 : decode cX0_isLeastTurned 35 = .ok (.iload_n 1, 1) := by decide +kernel
theorem dX0_isLeastTurned_36 : decode cX0_isLeastTurned 36 = .ok (.if_icmp .ge 5, 3) := by decide +kernel
theorem dX0_isLeastTurned_39 : decode cX0_isLeastTurned 39 = .ok (.iconst 0, 1) := by decide +kernel
theorem dX0_isLeastTurned_40 : decode cX0_isLeastTurned 40 = .ok (.ireturn, 1) := by decide +kernel
theorem dX0_isLeastTurned_41 : decode cX0_isLeastTurned 41 = .ok (.iinc 3 1, 3) := by decide +kernel
theorem dX0_isLeastTurned_44 : decode cX0_isLeastTurned 44 = .ok (.goto (-40), 3) := by decide +kernel
theorem dX0_isLeastTurned_47 : decode cX0_isLeastTurned 47 = .ok (.iconst 1, 1) := by decide +kernel
theorem dX0_isLeastTurned_48 : decode cX0_isLeastTurned 48 = .ok (.ireturn, 1) := by decide +kernel
theorem dX0_lightestWith_0 : decode cX0_lightestWith 0 = .ok (.iconst 1, 1) := by decide +kernel
theorem dX0_lightestWith_1 : decode cX0_lightestWith 1 = .ok (.aload_n 0, 1) := by decide +kernel
theorem dX0_lightestWith_2 : decode cX0_lightestWith 2 = .ok (.getfield 22, 3) := by decide +kernel
theorem dX0_lightestWith_5 : decode cX0_lightestWith 5 = .ok (.ishl, 1) := by decide +kernel
theorem dX0_lightestWith_6 : decode cX0_lightestWith 6 = .ok (.iconst 1, 1) := by decide +kernel
theorem dX0_lightestWith_7 : decode cX0_lightestWith 7 = .ok (.isub, 1) := by decide +kernel
theorem dX0_lightestWith_8 : decode cX0_lightestWith 8 = .ok (.istore_n 2, 1) := by decide +kernel
theorem dX0_lightestWith_9 : decode cX0_lightestWith 9 = .ok (.iconst 0, 1) := by decide +kernel
theorem dX0_lightestWith_10 : decode cX0_lightestWith 10 = .ok (.istore_n 3, 1) := by decide +kernel
theorem dX0_lightestWith_11 : decode cX0_lightestWith 11 = .ok (.iload_n 3, 1) := by decide +kernel
theorem dX0_lightestWith_12 : decode cX0_lightestWith 12 = .ok (.aload_n 0, 1) := by decide +kernel
theorem dX0_lightestWith_13 : decode cX0_lightestWith 13 = .ok (.getfield 30, 3) := by decide +kernel
theorem dX0_lightestWith_16 : decode cX0_lightestWith 16 = .ok (.if_icmp .ge 40, 3) := by decide +kernel
theorem dX0_lightestWith_19 : decode cX0_lightestWith 19 = .ok (.aload_n 0, 1) := by decide +kernel
theorem dX0_lightestWith_20 : decode cX0_lightestWith 20 = .ok (.getfield 15, 3) := by decide +kernel
theorem dX0_lightestWith_23 : decode cX0_lightestWith 23 = .ok (.iload_n 3, 1) := by decide +kernel
theorem dX0_lightestWith_24 : decode cX0_lightestWith 24 = .ok (.iaload, 1) := by decide +kernel
theorem dX0_lightestWith_25 : decode cX0_lightestWith 25 = .ok (.istore 4, 2) := by decide +kernel
theorem dX0_lightestWith_27 : decode cX0_lightestWith 27 = .ok (.iload 4, 2) := by decide +kernel
theorem dX0_lightestWith_29 : decode cX0_lightestWith 29 = .ok (.iload_n 1, 1) := by decide +kernel
theorem dX0_lightestWith_30 : decode cX0_lightestWith 30 = .ok (.iand, 1) := by decide +kernel
theorem dX0_lightestWith_31 : decode cX0_lightestWith 31 = .ok (.iload_n 1, 1) := by decide +kernel
theorem dX0_lightestWith_32 : decode cX0_lightestWith 32 = .ok (.if_icmp .ne 18, 3) := by decide +kernel
theorem dX0_lightestWith_35 : decode cX0_lightestWith 35 = .ok (.iload 4, 2) := by decide +kernel
theorem dX0_lightestWith_37 : decode cX0_lightestWith 37 = .ok (.invokestatic 52, 3) := by decide +kernel
theorem dX0_lightestWith_40 : decode cX0_lightestWith 40 = .ok (.iload_n 2, 1) := by decide +kernel
theorem dX0_lightestWith_41 : decode cX0_lightestWith 41 = .ok (.invokestatic 52, 3) := by decide +kernel
theorem dX0_lightestWith_44 : decode cX0_lightestWith 44 = .ok (.if_icmp .ge 6, 3) := by decide +kernel
theorem dX0_lightestWith_47 : decode cX0_lightestWith 47 = .ok (.iload 4, 2) := by decide +kernel
theorem dX0_lightestWith_49 : decode cX0_lightestWith 49 = .ok (.istore_n 2, 1) := by decide +kernel
theorem dX0_lightestWith_50 : decode cX0_lightestWith 50 = .ok (.iinc 3 1, 3) := by decide +kernel
theorem dX0_lightestWith_53 : decode cX0_lightestWith 53 = .ok (.goto (-42), 3) := by decide +kernel
theorem dX0_lightestWith_56 : decode cX0_lightestWith 56 = .ok (.iload_n 2, 1) := by decide +kernel
theorem dX0_lightestWith_57 : decode cX0_lightestWith 57 = .ok (.ireturn, 1) := by decide +kernel
theorem dX1_init_0 : decode cX1_init 0 = .ok (.aload_n 0, 1) := by decide +kernel
theorem dX1_init_1 : decode cX1_init 1 = .ok (.invokespecial 3, 3) := by decide +kernel
theorem dX1_init_4 : decode cX1_init 4 = .ok (.aload_n 0, 1) := by decide +kernel
theorem dX1_init_5 : decode cX1_init 5 = .ok (.bipush 30, 2) := by decide +kernel
theorem dX1_init_7 : decode cX1_init 7 = .ok (.newarray .int, 2) := by decide +kernel
theorem dX1_init_9 : decode cX1_init 9 = .ok (.putfield 9, 3) := by decide +kernel
theorem dX1_init_12 : decode cX1_init 12 = .ok (.aload_n 0, 1) := by decide +kernel
theorem dX1_init_13 : decode cX1_init 13 = .ok (.bipush 30, 2) := by decide +kernel
theorem dX1_init_15 : decode cX1_init 15 = .ok (.newarray .int, 2) := by decide +kernel
theorem dX1_init_17 : decode cX1_init 17 = .ok (.putfield 15, 3) := by decide +kernel
theorem dX1_init_20 : decode cX1_init 20 = .ok (.aload_n 0, 1) := by decide +kernel
theorem dX1_init_21 : decode cX1_init 21 = .ok (.bipush 120, 2) := by decide +kernel
theorem dX1_init_23 : decode cX1_init 23 = .ok (.newarray .long, 2) := by decide +kernel
theorem dX1_init_25 : decode cX1_init 25 = .ok (.putfield 18, 3) := by decide +kernel
theorem dX1_init_28 : decode cX1_init 28 = .ok (.return_, 1) := by decide +kernel
theorem dX1_prepare_0 : decode cX1_prepare 0 = .ok (.aload_n 0, 1) := by decide +kernel
theorem dX1_prepare_1 : decode cX1_prepare 1 = .ok (.getfield 22, 3) := by decide +kernel
theorem dX1_prepare_4 : decode cX1_prepare 4 = .ok (.iload_n 1, 1) := by decide +kernel
theorem dX1_prepare_5 : decode cX1_prepare 5 = .ok (.if_icmp .eq 19, 3) := by decide +kernel
theorem dX1_prepare_8 : decode cX1_prepare 8 = .ok (.iload_n 1, 1) := by decide +kernel
theorem dX1_prepare_9 : decode cX1_prepare 9 = .ok (.invokestatic 26, 3) := by decide +kernel
theorem dX1_prepare_12 : decode cX1_prepare 12 = .ok (.ifCond .eq 12, 3) := by decide +kernel
theorem dX1_prepare_15 : decode cX1_prepare 15 = .ok (.aload_n 0, 1) := by decide +kernel
theorem dX1_prepare_16 : decode cX1_prepare 16 = .ok (.iload_n 1, 1) := by decide +kernel
theorem dX1_prepare_17 : decode cX1_prepare 17 = .ok (.putfield 22, 3) := by decide +kernel
theorem dX1_prepare_20 : decode cX1_prepare 20 = .ok (.aload_n 0, 1) := by decide +kernel
theorem dX1_prepare_21 : decode cX1_prepare 21 = .ok (.invokevirtual 30, 3) := by decide +kernel
theorem dX1_prepare_24 : decode cX1_prepare 24 = .ok (.return_, 1) := by decide +kernel
theorem dX1_preparePacked_0 : decode cX1_preparePacked 0 = .ok (.aload_n 0, 1) := by decide +kernel
theorem dX1_preparePacked_1 : decode cX1_preparePacked 1 = .ok (.getfield 33, 3) := by decide +kernel
theorem dX1_preparePacked_4 : decode cX1_preparePacked 4 = .ok (.aload_n 0, 1) := by decide +kernel
theorem dX1_preparePacked_5 : decode cX1_preparePacked 5 = .ok (.getfield 22, 3) := by decide +kernel
theorem dX1_preparePacked_8 : decode cX1_preparePacked 8 = .ok (.if_icmp .eq 15, 3) := by decide +kernel
theorem dX1_preparePacked_11 : decode cX1_preparePacked 11 = .ok (.aload_n 0, 1) := by decide +kernel
theorem dX1_preparePacked_12 : decode cX1_preparePacked 12 = .ok (.aload_n 0, 1) := by decide +kernel
theorem dX1_preparePacked_13 : decode cX1_preparePacked 13 = .ok (.getfield 22, 3) := by decide +kernel
theorem dX1_preparePacked_16 : decode cX1_preparePacked 16 = .ok (.putfield 33, 3) := by decide +kernel
theorem dX1_preparePacked_19 : decode cX1_preparePacked 19 = .ok (.aload_n 0, 1) := by decide +kernel
theorem dX1_preparePacked_20 : decode cX1_preparePacked 20 = .ok (.invokevirtual 36, 3) := by decide +kernel
theorem dX1_preparePacked_23 : decode cX1_preparePacked 23 = .ok (.return_, 1) := by decide +kernel
theorem dX1_makeDivisor_0 : decode cX1_makeDivisor 0 = .ok (.aload_n 0, 1) := by decide +kernel
theorem dX1_makeDivisor_1 : decode cX1_makeDivisor 1 = .ok (.getfield 9, 3) := by decide +kernel
theorem dX1_makeDivisor_4 : decode cX1_makeDivisor 4 = .ok (.iconst 0, 1) := by decide +kernel
theorem dX1_makeDivisor_5 : decode cX1_makeDivisor 5 = .ok (.invokestatic 39, 3) := by decide +kernel
theorem dX1_makeDivisor_8 : decode cX1_makeDivisor 8 = .ok (.aload_n 0, 1) := by decide +kernel
theorem dX1_makeDivisor_9 : decode cX1_makeDivisor 9 = .ok (.getfield 9, 3) := by decide +kernel
theorem dX1_makeDivisor_12 : decode cX1_makeDivisor 12 = .ok (.iconst 0, 1) := by decide +kernel
theorem dX1_makeDivisor_13 : decode cX1_makeDivisor 13 = .ok (.iconst 1, 1) := by decide +kernel
theorem dX1_makeDivisor_14 : decode cX1_makeDivisor 14 = .ok (.iastore, 1) := by decide +kernel
theorem dX1_makeDivisor_15 : decode cX1_makeDivisor 15 = .ok (.iconst 1, 1) := by decide +kernel
theorem dX1_makeDivisor_16 : decode cX1_makeDivisor 16 = .ok (.istore_n 1, 1) := by decide +kernel
theorem dX1_makeDivisor_17 : decode cX1_makeDivisor 17 = .ok (.iload_n 1, 1) := by decide +kernel
theorem dX1_makeDivisor_18 : decode cX1_makeDivisor 18 = .ok (.aload_n 0, 1) := by decide +kernel
theorem dX1_makeDivisor_19 : decode cX1_makeDivisor 19 = .ok (.getfield 22, 3) := by decide +kernel
theorem dX1_makeDivisor_22 : decode cX1_makeDivisor 22 = .ok (.if_icmp .gt 32, 3) := by decide +kernel
theorem dX1_makeDivisor_25 : decode cX1_makeDivisor 25 = .ok (.aload_n 0, 1) := by decide +kernel
theorem dX1_makeDivisor_26 : decode cX1_makeDivisor 26 = .ok (.getfield 22, 3) := by decide +kernel
theorem dX1_makeDivisor_29 : decode cX1_makeDivisor 29 = .ok (.iload_n 1, 1) := by decide +kernel
theorem dX1_makeDivisor_30 : decode cX1_makeDivisor 30 = .ok (.irem, 1) := by decide +kernel
theorem dX1_makeDivisor_31 : decode cX1_makeDivisor 31 = .ok (.ifCond .ne 17, 3) := by decide +kernel
theorem dX1_makeDivisor_34 : decode cX1_makeDivisor 34 = .ok (.aload_n 0, 1) := by decide +kernel
theorem dX1_makeDivisor_35 : decode cX1_makeDivisor 35 = .ok (.iload_n 1, 1) := by decide +kernel
theorem dX1_makeDivisor_36 : decode cX1_makeDivisor 36 = .ok (.aload_n 0, 1) := by decide +kernel
theorem dX1_makeDivisor_37 : decode cX1_makeDivisor 37 = .ok (.getfield 22, 3) := by decide +kernel
theorem dX1_makeDivisor_40 : decode cX1_makeDivisor 40 = .ok (.iload_n 1, 1) := by decide +kernel
theorem dX1_makeDivisor_41 : decode cX1_makeDivisor 41 = .ok (.idiv, 1) := by decide +kernel
theorem dX1_makeDivisor_42 : decode cX1_makeDivisor 42 = .ok (.invokestatic 45, 3) := by decide +kernel
theorem dX1_makeDivisor_45 : decode cX1_makeDivisor 45 = .ok (.invokevirtual 49, 3) := by decide +kernel
theorem dX1_makeDivisor_48 : decode cX1_makeDivisor 48 = .ok (.iinc 1 1, 3) := by decide +kernel
theorem dX1_makeDivisor_51 : decode cX1_makeDivisor 51 = .ok (.goto (-34), 3) := by decide +kernel
theorem dX1_makeDivisor_54 : decode cX1_makeDivisor 54 = .ok (.aload_n 0, 1) := by decide +kernel
theorem dX1_makeDivisor_55 : decode cX1_makeDivisor 55 = .ok (.iconst 0, 1) := by decide +kernel
theorem dX1_makeDivisor_56 : decode cX1_makeDivisor 56 = .ok (.putfield 53, 3) := by decide +kernel
theorem dX1_makeDivisor_59 : decode cX1_makeDivisor 59 = .ok (.iconst 1, 1) := by decide +kernel
theorem dX1_makeDivisor_60 : decode cX1_makeDivisor 60 = .ok (.istore_n 1, 1) := by decide +kernel
theorem dX1_makeDivisor_61 : decode cX1_makeDivisor 61 = .ok (.iload_n 1, 1) := by decide +kernel
theorem dX1_makeDivisor_62 : decode cX1_makeDivisor 62 = .ok (.aload_n 0, 1) := by decide +kernel
theorem dX1_makeDivisor_63 : decode cX1_makeDivisor 63 = .ok (.getfield 22, 3) := by decide +kernel
theorem dX1_makeDivisor_66 : decode cX1_makeDivisor 66 = .ok (.if_icmp .ge 23, 3) := by decide +kernel
theorem dX1_makeDivisor_69 : decode cX1_makeDivisor 69 = .ok (.aload_n 0, 1) := by decide +kernel
theorem dX1_makeDivisor_70 : decode cX1_makeDivisor 70 = .ok (.getfield 9, 3) := by decide +kernel
theorem dX1_makeDivisor_73 : decode cX1_makeDivisor 73 = .ok (.iload_n 1, 1) := by decide +kernel
theorem dX1_makeDivisor_74 : decode cX1_makeDivisor 74 = .ok (.iaload, 1) := by decide +kernel
theorem dX1_makeDivisor_75 : decode cX1_makeDivisor 75 = .ok (.ifCond .eq 8, 3) := by decide +kernel
theorem dX1_makeDivisor_78 : decode cX1_makeDivisor 78 = .ok (.aload_n 0, 1) := by decide +kernel
theorem dX1_makeDivisor_79 : decode cX1_makeDivisor 79 = .ok (.iload_n 1, 1) := by decide +kernel
theorem dX1_makeDivisor_80 : decode cX1_makeDivisor 80 = .ok (.putfield 53, 3) := by decide +kernel
theorem dX1_makeDivisor_83 : decode cX1_makeDivisor 83 = .ok (.iinc 1 1, 3) := by decide +kernel
theorem dX1_makeDivisor_86 : decode cX1_makeDivisor 86 = .ok (.goto (-25), 3) := by decide +kernel
theorem dX1_makeDivisor_89 : decode cX1_makeDivisor 89 = .ok (.aload_n 0, 1) := by decide +kernel
theorem dX1_makeDivisor_90 : decode cX1_makeDivisor 90 = .ok (.aload_n 0, 1) := by decide +kernel
theorem dX1_makeDivisor_91 : decode cX1_makeDivisor 91 = .ok (.getfield 53, 3) := by decide +kernel
theorem dX1_makeDivisor_94 : decode cX1_makeDivisor 94 = .ok (.bipush 8, 2) := by decide +kernel
theorem dX1_makeDivisor_96 : decode cX1_makeDivisor 96 = .ok (.iadd, 1) := by decide +kernel
theorem dX1_makeDivisor_97 : decode cX1_makeDivisor 97 = .ok (.iconst 1, 1) := by decide +kernel
theorem dX1_makeDivisor_98 : decode cX1_makeDivisor 98 = .ok (.isub, 1) := by decide +kernel
theorem dX1_makeDivisor_99 : decode cX1_makeDivisor 99 = .ok (.bipush 8, 2) := by decide +kernel
theorem dX1_makeDivisor_101 : decode cX1_makeDivisor 101 = .ok (.idiv, 1) := by decide +kernel
theorem dX1_makeDivisor_102 : decode cX1_makeDivisor 102 = .ok (.putfield 56, 3) := by decide +kernel
theorem dX1_makeDivisor_105 : decode cX1_makeDivisor 105 = .ok (.return_, 1) := by decide +kernel
theorem dX1_multiplyDivisor_0 : decode cX1_multiplyDivisor 0 = .ok (.iload_n 2, 1) := by decide +kernel
theorem dX1_multiplyDivisor_1 : decode cX1_multiplyDivisor 1 = .ok (.ifCond .le 41, 3) := by decide +kernel
theorem dX1_multiplyDivisor_4 : decode cX1_multiplyDivisor 4 = .ok (.aload_n 0, 1) := by decide +kernel
theorem dX1_multiplyDivisor_5 : decode cX1_multiplyDivisor 5 = .ok (.getfield 22, 3) := by decide +kernel
theorem dX1_multiplyDivisor_8 : decode cX1_multiplyDivisor 8 = .ok (.iconst 1, 1) := by decide +kernel
theorem dX1_multiplyDivisor_9 : decode cX1_multiplyDivisor 9 = .ok (.isub, 1) := by decide +kernel
theorem dX1_multiplyDivisor_10 : decode cX1_multiplyDivisor 10 = .ok (.istore_n 3, 1) := by decide +kernel
theorem dX1_multiplyDivisor_11 : decode cX1_multiplyDivisor 11 = .ok (.iload_n 3, 1) := by decide +kernel
theorem dX1_multiplyDivisor_12 : decode cX1_multiplyDivisor 12 = .ok (.iload_n 1, 1) := by decide +kernel
theorem dX1_multiplyDivisor_13 : decode cX1_multiplyDivisor 13 = .ok (.if_icmp .lt 26, 3) := by decide +kernel
theorem dX1_multiplyDivisor_16 : decode cX1_multiplyDivisor 16 = .ok (.aload_n 0, 1) := by decide +kernel
theorem dX1_multiplyDivisor_17 : decode cX1_multiplyDivisor 17 = .ok (.getfield 9, 3) := by decide +kernel
theorem dX1_multiplyDivisor_20 : decode cX1_multiplyDivisor 20 = .ok (.iload_n 3, 1) := by decide +kernel
theorem dX1_multiplyDivisor_21 : decode cX1_multiplyDivisor 21 = .ok (.dup2, 1) := by decide +kernel
theorem dX1_multiplyDivisor_22 : decode cX1_multiplyDivisor 22 = .ok (.iaload, 1) := by decide +kernel
theorem dX1_multiplyDivisor_23 : decode cX1_multiplyDivisor 23 = .ok (.aload_n 0, 1) := by decide +kernel
theorem dX1_multiplyDivisor_24 : decode cX1_multiplyDivisor 24 = .ok (.getfield 9, 3) := by decide +kernel
theorem dX1_multiplyDivisor_27 : decode cX1_multiplyDivisor 27 = .ok (.iload_n 3, 1) := by decide +kernel
theorem dX1_multiplyDivisor_28 : decode cX1_multiplyDivisor 28 = .ok (.iload_n 1, 1) := by decide +kernel
theorem dX1_multiplyDivisor_29 : decode cX1_multiplyDivisor 29 = .ok (.isub, 1) := by decide +kernel
theorem dX1_multiplyDivisor_30 : decode cX1_multiplyDivisor 30 = .ok (.iaload, 1) := by decide +kernel
theorem dX1_multiplyDivisor_31 : decode cX1_multiplyDivisor 31 = .ok (.isub, 1) := by decide +kernel
theorem dX1_multiplyDivisor_32 : decode cX1_multiplyDivisor 32 = .ok (.iastore, 1) := by decide +kernel
theorem dX1_multiplyDivisor_33 : decode cX1_multiplyDivisor 33 = .ok (.iinc 3 (-1), 3) := by decide +kernel
theorem dX1_multiplyDivisor_36 : decode cX1_multiplyDivisor 36 = .ok (.goto (-25), 3) := by decide +kernel
theorem dX1_multiplyDivisor_39 : decode cX1_multiplyDivisor 39 = .ok (.goto 40, 3) := by decide +kernel
theorem dX1_multiplyDivisor_42 : decode cX1_multiplyDivisor 42 = .ok (.iload_n 2, 1) := by decide +kernel
theorem dX1_multiplyDivisor_43 : decode cX1_multiplyDivisor 43 = .ok (.ifCond .ge 36, 3) := by decide +kernel
theorem dX1_multiplyDivisor_46 : decode cX1_multiplyDivisor 46 = .ok (.iload_n 1, 1) := by decide +kernel
theorem dX1_multiplyDivisor_47 : decode cX1_multiplyDivisor 47 = .ok (.istore_n 3, 1) := by decide +kernel
theorem dX1_multiplyDivisor_48 : decode cX1_multiplyDivisor 48 = .ok (.iload_n 3, 1) := by decide +kernel
theorem dX1_multiplyDivisor_49 : decode cX1_multiplyDivisor 49 = .ok (.aload_n 0, 1) := by decide +kernel
theorem dX1_multiplyDivisor_50 : decode cX1_multiplyDivisor 50 = .ok (.getfield 22, 3) := by decide +kernel
theorem dX1_multiplyDivisor_53 : decode cX1_multiplyDivisor 53 = .ok (.if_icmp .ge 26, 3) := by decide +kernel
theorem dX1_multiplyDivisor_56 : decode cX1_multiplyDivisor 56 = .ok (.aload_n 0, 1) := by decide +kernel
theorem dX1_multiplyDivisor_57 : decode cX1_multiplyDivisor 57 = .ok (.getfield 9, 3) := by decide +kernel
theorem dX1_multiplyDivisor_60 : decode cX1_multiplyDivisor 60 = .ok (.iload_n 3, 1) := by decide +kernel
theorem dX1_multiplyDivisor_61 : decode cX1_multiplyDivisor 61 = .ok (.dup2, 1) := by decide +kernel
theorem dX1_multiplyDivisor_62 : decode cX1_multiplyDivisor 62 = .ok (.iaload, 1) := by decide +kernel
theorem dX1_multiplyDivisor_63 : decode cX1_multiplyDivisor 63 = .ok (.aload_n 0, 1) := by decide +kernel
theorem dX1_multiplyDivisor_64 : decode cX1_multiplyDivisor 64 = .ok (.getfield 9, 3) := by decide +kernel
theorem dX1_multiplyDivisor_67 : decode cX1_multiplyDivisor 67 = .ok (.iload_n 3, 1) := by decide +kernel
theorem dX1_multiplyDivisor_68 : decode cX1_multiplyDivisor 68 = .ok (.iload_n 1, 1) := by decide +kernel
theorem dX1_multiplyDivisor_69 : decode cX1_multiplyDivisor 69 = .ok (.isub, 1) := by decide +kernel
theorem dX1_multiplyDivisor_70 : decode cX1_multiplyDivisor 70 = .ok (.iaload, 1) := by decide +kernel
theorem dX1_multiplyDivisor_71 : decode cX1_multiplyDivisor 71 = .ok (.iadd, 1) := by decide +kernel
theorem dX1_multiplyDivisor_72 : decode cX1_multiplyDivisor 72 = .ok (.iastore, 1) := by decide +kernel
theorem dX1_multiplyDivisor_73 : decode cX1_multiplyDivisor 73 = .ok (.iinc 3 1, 3) := by decide +kernel
theorem dX1_multiplyDivisor_76 : decode cX1_multiplyDivisor 76 = .ok (.goto (-28), 3) := by decide +kernel
theorem dX1_multiplyDivisor_79 : decode cX1_multiplyDivisor 79 = .ok (.return_, 1) := by decide +kernel
theorem dX1_moebius_0 : decode cX1_moebius 0 = .ok (.iconst 1, 1) := by decide +kernel
theorem dX1_moebius_1 : decode cX1_moebius 1 = .ok (.istore_n 1, 1) := by decide +kernel
theorem dX1_moebius_2 : decode cX1_moebius 2 = .ok (.iload_n 0, 1) := by decide +kernel
theorem dX1_moebius_3 : decode cX1_moebius 3 = .ok (.istore_n 2, 1) := by decide +kernel
theorem dX1_moebius_4 : decode cX1_moebius 4 = .ok (.iconst 2, 1) := by decide +kernel
theorem dX1_moebius_5 : decode cX1_moebius 5 = .ok (.istore_n 3, 1) := by decide +kernel
theorem dX1_moebius_6 : decode cX1_moebius 6 = .ok (.iload_n 3, 1) := by decide +kernel
theorem dX1_moebius_7 : decode cX1_moebius 7 = .ok (.iload_n 0, 1) := by decide +kernel
theorem dX1_moebius_8 : decode cX1_moebius 8 = .ok (.if_icmp .gt 30, 3) := by decide +kernel
theorem dX1_moebius_11 : decode cX1_moebius 11 = .ok (.iload_n 2, 1) := by decide +kernel
theorem dX1_moebius_12 : decode cX1_moebius 12 = .ok (.iload_n 3, 1) := by decide +kernel
theorem dX1_moebius_13 : decode cX1_moebius 13 = .ok (.irem, 1) := by decide +kernel
theorem dX1_moebius_14 : decode cX1_moebius 14 = .ok (.ifCond .ne 18, 3) := by decide +kernel
theorem dX1_moebius_17 : decode cX1_moebius 17 = .ok (.iload_n 2, 1) := by decide +kernel
theorem dX1_moebius_18 : decode cX1_moebius 18 = .ok (.iload_n 3, 1) := by decide +kernel
theorem dX1_moebius_19 : decode cX1_moebius 19 = .ok (.idiv, 1) := by decide +kernel
theorem dX1_moebius_20 : decode cX1_moebius 20 = .ok (.istore_n 2, 1) := by decide +kernel
theorem dX1_moebius_21 : decode cX1_moebius 21 = .ok (.iload_n 2, 1) := by decide +kernel
theorem dX1_moebius_22 : decode cX1_moebius 22 = .ok (.iload_n 3, 1) := by decide +kernel
theorem dX1_moebius_23 : decode cX1_moebius 23 = .ok (.irem, 1) := by decide +kernel
theorem dX1_moebius_24 : decode cX1_moebius 24 = .ok (.ifCond .ne 5, 3) := by decide +kernel
theorem dX1_moebius_27 : decode cX1_moebius 27 = .ok (.iconst 0, 1) := by decide +kernel
theorem dX1_moebius_28 : decode cX1_moebius 28 = .ok (.ireturn, 1) := by decide +kernel
theorem dX1_moebius_29 : decode cX1_moebius 29 = .ok (.iload_n 1, 1) := by decide +kernel
theorem dX1_moebius_30 : decode cX1_moebius 30 = .ok (.ineg, 1) := by decide +kernel
theorem dX1_moebius_31 : decode cX1_moebius 31 = .ok (.istore_n 1, 1) := by decide +kernel
theorem dX1_moebius_32 : decode cX1_moebius 32 = .ok (.iinc 3 1, 3) := by decide +kernel
theorem dX1_moebius_35 : decode cX1_moebius 35 = .ok (.goto (-29), 3) := by decide +kernel
theorem dX1_moebius_38 : decode cX1_moebius 38 = .ok (.iload_n 1, 1) := by decide +kernel
theorem dX1_moebius_39 : decode cX1_moebius 39 = .ok (.ireturn, 1) := by decide +kernel
theorem dX1_makePacked_0 : decode cX1_makePacked 0 = .ok (.aload_n 0, 1) := by decide +kernel
theorem dX1_makePacked_1 : decode cX1_makePacked 1 = .ok (.getfield 18, 3) := by decide +kernel
theorem dX1_makePacked_4 : decode cX1_makePacked 4 = .ok (.lconst 0, 1) := by decide +kernel
theorem dX1_makePacked_5 : decode cX1_makePacked 5 = .ok (.invokestatic 59, 3) := by decide +kernel
theorem dX1_makePacked_8 : decode cX1_makePacked 8 = .ok (.iconst 0, 1) := by decide +kernel
theorem dX1_makePacked_9 : decode cX1_makePacked 9 = .ok (.istore_n 1, 1) := by decide +kernel
theorem dX1_makePacked_10 : decode cX1_makePacked 10 = .ok (.iload_n 1, 1) := by decide +kernel
theorem dX1_makePacked_11 : decode cX1_makePacked 11 = .ok (.aload_n 0, 1) := by decide +kernel
theorem dX1_makePacked_12 : decode cX1_makePacked 12 = .ok (.getfield 22, 3) := by decide +kernel
theorem dX1_makePacked_15 : decode cX1_makePacked 15 = .ok (.if_icmp .ge 75, 3) := by decide +kernel
theorem dX1_makePacked_18 : decode cX1_makePacked 18 = .ok (.aload_n 0, 1) := by decide +kernel
theorem dX1_makePacked_19 : decode cX1_makePacked 19 = .ok (.getfield 15, 3) := by decide +kernel
theorem dX1_makePacked_22 : decode cX1_makePacked 22 = .ok (.iconst 0, 1) := by decide +kernel
theorem dX1_makePacked_23 : decode cX1_makePacked 23 = .ok (.invokestatic 39, 3) := by decide +kernel
theorem dX1_makePacked_26 : decode cX1_makePacked 26 = .ok (.aload_n 0, 1) := by decide +kernel
theorem dX1_makePacked_27 : decode cX1_makePacked 27 = .ok (.getfield 15, 3) := by decide +kernel
theorem dX1_makePacked_30 : decode cX1_makePacked 30 = .ok (.iload_n 1, 1) := by decide +kernel
theorem dX1_makePacked_31 : decode cX1_makePacked 31 = .ok (.iconst 1, 1) := by decide +kernel
theorem dX1_makePacked_32 : decode cX1_makePacked 32 = .ok (.iastore, 1) := by decide +kernel
theorem dX1_makePacked_33 : decode cX1_makePacked 33 = .ok (.aload_n 0, 1) := by decide +kernel
theorem dX1_makePacked_34 : decode cX1_makePacked 34 = .ok (.invokevirtual 62, 3) := by decide +kernel
theorem dX1_makePacked_37 : decode cX1_makePacked 37 = .ok (.iconst 0, 1) := by decide +kernel
theorem dX1_makePacked_38 : decode cX1_makePacked 38 = .ok (.istore_n 2, 1) := by decide +kernel
theorem dX1_makePacked_39 : decode cX1_makePacked 39 = .ok (.iload_n 2, 1) := by decide +kernel
theorem dX1_makePacked_40 : decode cX1_makePacked 40 = .ok (.aload_n 0, 1) := by decide +kernel
theorem dX1_makePacked_41 : decode cX1_makePacked 41 = .ok (.getfield 53, 3) := by decide +kernel
theorem dX1_makePacked_44 : decode cX1_makePacked 44 = .ok (.if_icmp .ge 40, 3) := by decide +kernel
theorem dX1_makePacked_47 : decode cX1_makePacked 47 = .ok (.aload_n 0, 1) := by decide +kernel
theorem dX1_makePacked_48 : decode cX1_makePacked 48 = .ok (.getfield 18, 3) := by decide +kernel
theorem dX1_makePacked_51 : decode cX1_makePacked 51 = .ok (.iload_n 1, 1) := by decide +kernel
theorem dX1_makePacked_52 : decode cX1_makePacked 52 = .ok (.iconst 4, 1) := by decide +kernel
theorem dX1_makePacked_53 : decode cX1_makePacked 53 = .ok (.imul, 1) := by decide +kernel
theorem dX1_makePacked_54 : decode cX1_makePacked 54 = .ok (.iload_n 2, 1) := by decide +kernel
theorem dX1_makePacked_55 : decode cX1_makePacked 55 = .ok (.bipush 8, 2) := by decide +kernel
theorem dX1_makePacked_57 : decode cX1_makePacked 57 = .ok (.idiv, 1) := by decide +kernel
theorem dX1_makePacked_58 : decode cX1_makePacked 58 = .ok (.iadd, 1) := by decide +kernel
theorem dX1_makePacked_59 : decode cX1_makePacked 59 = .ok (.dup2, 1) := by decide +kernel
theorem dX1_makePacked_60 : decode cX1_makePacked 60 = .ok (.laload, 1) := by decide +kernel
theorem dX1_makePacked_61 : decode cX1_makePacked 61 = .ok (.aload_n 0, 1) := by decide +kernel
theorem dX1_makePacked_62 : decode cX1_makePacked 62 = .ok (.getfield 15, 3) := by decide +kernel
theorem dX1_makePacked_65 : decode cX1_makePacked 65 = .ok (.iload_n 2, 1) := by decide +kernel
theorem dX1_makePacked_66 : decode cX1_makePacked 66 = .ok (.iaload, 1) := by decide +kernel
theorem dX1_makePacked_67 : decode cX1_makePacked 67 = .ok (.i2l, 1) := by decide +kernel
theorem dX1_makePacked_68 : decode cX1_makePacked 68 = .ok (.iload_n 2, 1) := by decide +kernel
theorem dX1_makePacked_69 : decode cX1_makePacked 69 = .ok (.bipush 8, 2) := by decide +kernel
theorem dX1_makePacked_71 : decode cX1_makePacked 71 = .ok (.irem, 1) := by decide +kernel
theorem dX1_makePacked_72 : decode cX1_makePacked 72 = .ok (.bipush 8, 2) := by decide +kernel
theorem dX1_makePacked_74 : decode cX1_makePacked 74 = .ok (.imul, 1) := by decide +kernel
theorem dX1_makePacked_75 : decode cX1_makePacked 75 = .ok (.lshl, 1) := by decide +kernel
theorem dX1_makePacked_76 : decode cX1_makePacked 76 = .ok (.ladd, 1) := by decide +kernel
theorem dX1_makePacked_77 : decode cX1_makePacked 77 = .ok (.lastore, 1) := by decide +kernel
theorem dX1_makePacked_78 : decode cX1_makePacked 78 = .ok (.iinc 2 1, 3) := by decide +kernel
theorem dX1_makePacked_81 : decode cX1_makePacked 81 = .ok (.goto (-42), 3) := by decide +kernel
theorem dX1_makePacked_84 : decode cX1_makePacked 84 = .ok (.iinc 1 1, 3) := by decide +kernel
theorem dX1_makePacked_87 : decode cX1_makePacked 87 = .ok (.goto (-77), 3) := by decide +kernel
theorem dX1_makePacked_90 : decode cX1_makePacked 90 = .ok (.return_, 1) := by decide +kernel
theorem dX1_divide_0 : decode cX1_divide 0 = .ok (.aload_n 1, 1) := by decide +kernel
theorem dX1_divide_1 : decode cX1_divide 1 = .ok (.iconst 0, 1) := by decide +kernel
theorem dX1_divide_2 : decode cX1_divide 2 = .ok (.aload_n 0, 1) := by decide +kernel
theorem dX1_divide_3 : decode cX1_divide 3 = .ok (.getfield 15, 3) := by decide +kernel
theorem dX1_divide_6 : decode cX1_divide 6 = .ok (.iconst 0, 1) := by decide +kernel
theorem dX1_divide_7 : decode cX1_divide 7 = .ok (.bipush 30, 2) := by decide +kernel
theorem dX1_divide_9 : decode cX1_divide 9 = .ok (.invokestatic 65, 3) := by decide +kernel
theorem dX1_divide_12 : decode cX1_divide 12 = .ok (.aload_n 0, 1) := by decide +kernel
theorem dX1_divide_13 : decode cX1_divide 13 = .ok (.invokevirtual 62, 3) := by decide +kernel
theorem dX1_divide_16 : decode cX1_divide 16 = .ok (.return_, 1) := by decide +kernel
theorem dX1_reduce_0 : decode cX1_reduce 0 = .ok (.aload_n 0, 1) := by decide +kernel
theorem dX1_reduce_1 : decode cX1_reduce 1 = .ok (.getfield 22, 3) := by decide +kernel
theorem dX1_reduce_4 : decode cX1_reduce 4 = .ok (.iconst 1, 1) := by decide +kernel
theorem dX1_reduce_5 : decode cX1_reduce 5 = .ok (.isub, 1) := by decide +kernel
theorem dX1_reduce_6 : decode cX1_reduce 6 = .ok (.istore_n 1, 1) := by decide +kernel
theorem dX1_reduce_7 : decode cX1_reduce 7 = .ok (.iload_n 1, 1) := by decide +kernel
theorem dX1_reduce_8 : decode cX1_reduce 8 = .ok (.aload_n 0, 1) := by decide +kernel
theorem dX1_reduce_9 : decode cX1_reduce 9 = .ok (.getfield 53, 3) := by decide +kernel
theorem dX1_reduce_12 : decode cX1_reduce 12 = .ok (.if_icmp .lt 60, 3) := by decide +kernel
theorem dX1_reduce_15 : decode cX1_reduce 15 = .ok (.aload_n 0, 1) := by decide +kernel
theorem dX1_reduce_16 : decode cX1_reduce 16 = .ok (.getfield 15, 3) := by decide +kernel
theorem dX1_reduce_19 : decode cX1_reduce 19 = .ok (.iload_n 1, 1) := by decide +kernel
theorem dX1_reduce_20 : decode cX1_reduce 20 = .ok (.iaload, 1) := by decide +kernel
theorem dX1_reduce_21 : decode cX1_reduce 21 = .ok (.istore_n 2, 1) := by decide +kernel
theorem dX1_reduce_22 : decode cX1_reduce 22 = .ok (.iload_n 2, 1) := by decide +kernel
theorem dX1_reduce_23 : decode cX1_reduce 23 = .ok (.ifCond .eq 43, 3) := by decide +kernel
theorem dX1_reduce_26 : decode cX1_reduce 26 = .ok (.iconst 0, 1) := by decide +kernel
theorem dX1_reduce_27 : decode cX1_reduce 27 = .ok (.istore_n 3, 1) := by decide +kernel
theorem dX1_reduce_28 : decode cX1_reduce 28 = .ok (.iload_n 3, 1) := by decide +kernel
theorem dX1_reduce_29 : decode cX1_reduce 29 = .ok (.aload_n 0, 1) := by decide +kernel
theorem dX1_reduce_30 : decode cX1_reduce 30 = .ok (.getfield 53, 3) := by decide +kernel
theorem dX1_reduce_33 : decode cX1_reduce 33 = .ok (.if_icmp .gt 33, 3) := by decide +kernel
theorem dX1_reduce_36 : decode cX1_reduce 36 = .ok (.aload_n 0, 1) := by decide +kernel
theorem dX1_reduce_37 : decode cX1_reduce 37 = .ok (.getfield 15, 3) := by decide +kernel
theorem dX1_reduce_40 : decode cX1_reduce 40 = .ok (.iload_n 1, 1) := by decide +kernel
theorem dX1_reduce_41 : decode cX1_reduce 41 = .ok (.aload_n 0, 1) := by decide +kernel
theorem dX1_reduce_42 : decode cX1_reduce 42 = .ok (.getfield 53, 3) := by decide +kernel
theorem dX1_reduce_45 : decode cX1_reduce 45 = .ok (.isub, 1) := by decide +kernel
theorem dX1_reduce_46 : decode cX1_reduce 46 = .ok (.iload_n 3, 1) := by decide +kernel
theorem dX1_reduce_47 : decode cX1_reduce 47 = .ok (.iadd, 1) := by decide +kernel
theorem dX1_reduce_48 : decode cX1_reduce 48 = .ok (.dup2, 1) := by decide +kernel
theorem dX1_reduce_49 : decode cX1_reduce 49 = .ok (.iaload, 1) := by decide +kernel
theorem dX1_reduce_50 : decode cX1_reduce 50 = .ok (.iload_n 2, 1) := by decide +kernel
theorem dX1_reduce_51 : decode cX1_reduce 51 = .ok (.aload_n 0, 1) := by decide +kernel
theorem dX1_reduce_52 : decode cX1_reduce 52 = .ok (.getfield 9, 3) := by decide +kernel
theorem dX1_reduce_55 : decode cX1_reduce 55 = .ok (.iload_n 3, 1) := by decide +kernel
theorem dX1_reduce_56 : decode cX1_reduce 56 = .ok (.iaload, 1) := by decide +kernel
theorem dX1_reduce_57 : decode cX1_reduce 57 = .ok (.imul, 1) := by decide +kernel
theorem dX1_reduce_58 : decode cX1_reduce 58 = .ok (.isub, 1) := by decide +kernel
theorem dX1_reduce_59 : decode cX1_reduce 59 = .ok (.iastore, 1) := by decide +kernel
theorem dX1_reduce_60 : decode cX1_reduce 60 = .ok (.iinc 3 1, 3) := by decide +kernel
theorem dX1_reduce_63 : decode cX1_reduce 63 = .ok (.goto (-35), 3) := by decide +kernel
theorem dX1_reduce_66 : decode cX1_reduce 66 = .ok (.iinc 1 (-1), 3) := by decide +kernel
theorem dX1_reduce_69 : decode cX1_reduce 69 = .ok (.goto (-62), 3) := by decide +kernel
theorem dX1_reduce_72 : decode cX1_reduce 72 = .ok (.return_, 1) := by decide +kernel
theorem dX1_leavesNothing_0 : decode cX1_leavesNothing 0 = .ok (.iconst 0, 1) := by decide +kernel
theorem dX1_leavesNothing_1 : decode cX1_leavesNothing 1 = .ok (.istore_n 1, 1) := by decide +kernel
theorem dX1_leavesNothing_2 : decode cX1_leavesNothing 2 = .ok (.iload_n 1, 1) := by decide +kernel
theorem dX1_leavesNothing_3 : decode cX1_leavesNothing 3 = .ok (.aload_n 0, 1) := by decide +kernel
theorem dX1_leavesNothing_4 : decode cX1_leavesNothing 4 = .ok (.getfield 53, 3) := by decide +kernel
theorem dX1_leavesNothing_7 : decode cX1_leavesNothing 7 = .ok (.if_icmp .ge 20, 3) := by decide +kernel
theorem dX1_leavesNothing_10 : decode cX1_leavesNothing 10 = .ok (.aload_n 0, 1) := by decide +kernel
theorem dX1_leavesNothing_11 : decode cX1_leavesNothing 11 = .ok (.getfield 15, 3) := by decide +kernel
theorem dX1_leavesNothing_14 : decode cX1_leavesNothing 14 = .ok (.iload_n 1, 1) := by decide +kernel
theorem dX1_leavesNothing_15 : decode cX1_leavesNothing 15 = .ok (.iaload, 1) := by decide +kernel
theorem dX1_leavesNothing_16 : decode cX1_leavesNothing 16 = .ok (.ifCond .eq 5, 3) := by decide +kernel
theorem dX1_leavesNothing_19 : decode cX1_leavesNothing 19 = .ok (.iconst 0, 1) := by decide +kernel
theorem dX1_leavesNothing_20 : decode cX1_leavesNothing 20 = .ok (.ireturn, 1) := by decide +kernel
theorem dX1_leavesNothing_21 : decode cX1_leavesNothing 21 = .ok (.iinc 1 1, 3) := by decide +kernel
theorem dX1_leavesNothing_24 : decode cX1_leavesNothing 24 = .ok (.goto (-22), 3) := by decide +kernel
theorem dX1_leavesNothing_27 : decode cX1_leavesNothing 27 = .ok (.iconst 1, 1) := by decide +kernel
theorem dX1_leavesNothing_28 : decode cX1_leavesNothing 28 = .ok (.ireturn, 1) := by decide +kernel
theorem dX1_leaves_0 : decode cX1_leaves 0 = .ok (.iconst 0, 1) := by decide +kernel
theorem dX1_leaves_1 : decode cX1_leaves 1 = .ok (.istore_n 2, 1) := by decide +kernel
theorem dX1_leaves_2 : decode cX1_leaves 2 = .ok (.iload_n 2, 1) := by decide +kernel
theorem dX1_leaves_3 : decode cX1_leaves 3 = .ok (.aload_n 0, 1) := by decide +kernel
theorem dX1_leaves_4 : decode cX1_leaves 4 = .ok (.getfield 53, 3) := by decide +kernel
theorem dX1_leaves_7 : decode cX1_leaves 7 = .ok (.if_icmp .ge 23, 3) := by decide +kernel
theorem dX1_leaves_10 : decode cX1_leaves 10 = .ok (.aload_n 0, 1) := by decide +kernel
theorem dX1_leaves_11 : decode cX1_leaves 11 = .ok (.getfield 15, 3) := by decide +kernel
theorem dX1_leaves_14 : decode cX1_leaves 14 = .ok (.iload_n 2, 1) := by decide +kernel
theorem dX1_leaves_15 : decode cX1_leaves 15 = .ok (.iaload, 1) := by decide +kernel
theorem dX1_leaves_16 : decode cX1_leaves 16 = .ok (.aload_n 1, 1) := by decide +kernel
theorem dX1_leaves_17 : decode cX1_leaves 17 = .ok (.iload_n 2, 1) := by decide +kernel
theorem dX1_leaves_18 : decode cX1_leaves 18 = .ok (.iaload, 1) := by decide +kernel
theorem dX1_leaves_19 : decode cX1_leaves 19 = .ok (.if_icmp .eq 5, 3) := by decide +kernel
theorem dX1_leaves_22 : decode cX1_leaves 22 = .ok (.iconst 0, 1) := by decide +kernel
theorem dX1_leaves_23 : decode cX1_leaves 23 = .ok (.ireturn, 1) := by decide +kernel
theorem dX1_leaves_24 : decode cX1_leaves 24 = .ok (.iinc 2 1, 3) := by decide +kernel
theorem dX1_leaves_27 : decode cX1_leaves 27 = .ok (.goto (-25), 3) := by decide +kernel
theorem dX1_leaves_30 : decode cX1_leaves 30 = .ok (.iconst 1, 1) := by decide +kernel
theorem dX1_leaves_31 : decode cX1_leaves 31 = .ok (.ireturn, 1) := by decide +kernel
theorem dX1_addPacked_0 : decode cX1_addPacked 0 = .ok (.iconst 0, 1) := by decide +kernel
theorem dX1_addPacked_1 : decode cX1_addPacked 1 = .ok (.istore 4, 2) := by decide +kernel
theorem dX1_addPacked_3 : decode cX1_addPacked 3 = .ok (.iload 4, 2) := by decide +kernel
theorem dX1_addPacked_5 : decode cX1_addPacked 5 = .ok (.aload_n 0, 1) := by decide +kernel
theorem dX1_addPacked_6 : decode cX1_addPacked 6 = .ok (.getfield 56, 3) := by decide +kernel
theorem dX1_addPacked_9 : decode cX1_addPacked 9 = .ok (.if_icmp .ge 30, 3) := by decide +kernel
theorem dX1_addPacked_12 : decode cX1_addPacked 12 = .ok (.aload_n 1, 1) := by decide +kernel
theorem dX1_addPacked_13 : decode cX1_addPacked 13 = .ok (.iload 4, 2) := by decide +kernel
theorem dX1_addPacked_15 : decode cX1_addPacked 15 = .ok (.dup2, 1) := by decide +kernel
theorem dX1_addPacked_16 : decode cX1_addPacked 16 = .ok (.laload, 1) := by decide +kernel
theorem dX1_addPacked_17 : decode cX1_addPacked 17 = .ok (.aload_n 0, 1) := by decide +kernel
theorem dX1_addPacked_18 : decode cX1_addPacked 18 = .ok (.getfield 18, 3) := by decide +kernel
theorem dX1_addPacked_21 : decode cX1_addPacked 21 = .ok (.iload_n 2, 1) := by decide +kernel
theorem dX1_addPacked_22 : decode cX1_addPacked 22 = .ok (.iconst 4, 1) := by decide +kernel
theorem dX1_addPacked_23 : decode cX1_addPacked 23 = .ok (.imul, 1) := by decide +kernel
theorem dX1_addPacked_24 : decode cX1_addPacked 24 = .ok (.iload 4, 2) := by decide +kernel
theorem dX1_addPacked_26 : decode cX1_addPacked 26 = .ok (.iadd, 1) := by decide +kernel
theorem dX1_addPacked_27 : decode cX1_addPacked 27 = .ok (.laload, 1) := by decide +kernel
theorem dX1_addPacked_28 : decode cX1_addPacked 28 = .ok (.iload_n 3, 1) := by decide +kernel
theorem dX1_addPacked_29 : decode cX1_addPacked 29 = .ok (.i2l, 1) := by decide +kernel
theorem dX1_addPacked_30 : decode cX1_addPacked 30 = .ok (.lmul, 1) := by decide +kernel
theorem dX1_addPacked_31 : decode cX1_addPacked 31 = .ok (.ladd, 1) := by decide +kernel
theorem dX1_addPacked_32 : decode cX1_addPacked 32 = .ok (.lastore, 1) := by decide +kernel
theorem dX1_addPacked_33 : decode cX1_addPacked 33 = .ok (.iinc 4 1, 3) := by decide +kernel
theorem dX1_addPacked_36 : decode cX1_addPacked 36 = .ok (.goto (-33), 3) := by decide +kernel
theorem dX1_addPacked_39 : decode cX1_addPacked 39 = .ok (.return_, 1) := by decide +kernel
theorem dX2_init_0 : decode cX2_init 0 = .ok (.aload_n 0, 1) := by decide +kernel
theorem dX2_init_1 : decode cX2_init 1 = .ok (.invokespecial 3, 3) := by decide +kernel
theorem dX2_init_4 : decode cX2_init 4 = .ok (.aload_n 0, 1) := by decide +kernel
theorem dX2_init_5 : decode cX2_init 5 = .ok (.iconst (-1), 1) := by decide +kernel
theorem dX2_init_6 : decode cX2_init 6 = .ok (.putfield 9, 3) := by decide +kernel
theorem dX2_init_9 : decode cX2_init 9 = .ok (.aload_n 0, 1) := by decide +kernel
theorem dX2_init_10 : decode cX2_init 10 = .ok (.bipush 30, 2) := by decide +kernel
theorem dX2_init_12 : decode cX2_init 12 = .ok (.newarray .long, 2) := by decide +kernel
theorem dX2_init_14 : decode cX2_init 14 = .ok (.putfield 15, 3) := by decide +kernel
theorem dX2_init_17 : decode cX2_init 17 = .ok (.return_, 1) := by decide +kernel
theorem dX2_renew_0 : decode cX2_renew 0 = .ok (.aload_n 0, 1) := by decide +kernel
theorem dX2_renew_1 : decode cX2_renew 1 = .ok (.iload_n 1, 1) := by decide +kernel
theorem dX2_renew_2 : decode cX2_renew 2 = .ok (.putfield 9, 3) := by decide +kernel
theorem dX2_renew_5 : decode cX2_renew 5 = .ok (.aload_n 0, 1) := by decide +kernel
theorem dX2_renew_6 : decode cX2_renew 6 = .ok (.getfield 15, 3) := by decide +kernel
theorem dX2_renew_9 : decode cX2_renew 9 = .ok (.lconst 0, 1) := by decide +kernel
theorem dX2_renew_10 : decode cX2_renew 10 = .ok (.invokestatic 19, 3) := by decide +kernel
theorem dX2_renew_13 : decode cX2_renew 13 = .ok (.return_, 1) := by decide +kernel
theorem dX2_isMissing_0 : decode cX2_isMissing 0 = .ok (.aload_n 0, 1) := by decide +kernel
theorem dX2_isMissing_1 : decode cX2_isMissing 1 = .ok (.getfield 9, 3) := by decide +kernel
theorem dX2_isMissing_4 : decode cX2_isMissing 4 = .ok (.ifCond .ge 7, 3) := by decide +kernel
theorem dX2_isMissing_7 : decode cX2_isMissing 7 = .ok (.iconst 1, 1) := by decide +kernel
theorem dX2_isMissing_8 : decode cX2_isMissing 8 = .ok (.goto 4, 3) := by decide +kernel
theorem dX2_isMissing_11 : decode cX2_isMissing 11 = .ok (.iconst 0, 1) := by decide +kernel
theorem dX2_isMissing_12 : decode cX2_isMissing 12 = .ok (.ireturn, 1) := by decide +kernel
theorem dX2_has_0 : decode cX2_has 0 = .ok (.iload_n 1, 1) := by decide +kernel
theorem dX2_has_1 : decode cX2_has 1 = .ok (.ifCond .lt 15, 3) := by decide +kernel
theorem dX2_has_4 : decode cX2_has 4 = .ok (.iload_n 1, 1) := by decide +kernel
theorem dX2_has_5 : decode cX2_has 5 = .ok (.aload_n 0, 1) := by decide +kernel
theorem dX2_has_6 : decode cX2_has 6 = .ok (.getfield 9, 3) := by decide +kernel
theorem dX2_has_9 : decode cX2_has 9 = .ok (.if_icmp .ge 7, 3) := by decide +kernel
theorem dX2_has_12 : decode cX2_has 12 = .ok (.iconst 1, 1) := by decide +kernel
theorem dX2_has_13 : decode cX2_has 13 = .ok (.goto 4, 3) := by decide +kernel
theorem dX2_has_16 : decode cX2_has 16 = .ok (.iconst 0, 1) := by decide +kernel
theorem dX2_has_17 : decode cX2_has 17 = .ok (.ireturn, 1) := by decide +kernel
theorem dX3_init_0 : decode cX3_init 0 = .ok (.aload_n 0, 1) := by decide +kernel
theorem dX3_init_1 : decode cX3_init 1 = .ok (.invokespecial 3, 3) := by decide +kernel
theorem dX3_init_4 : decode cX3_init 4 = .ok (.aload_n 0, 1) := by decide +kernel
theorem dX3_init_5 : decode cX3_init 5 = .ok (.new 9, 3) := by decide +kernel
theorem dX3_init_8 : decode cX3_init 8 = .ok (.dup, 1) := by decide +kernel
theorem dX3_init_9 : decode cX3_init 9 = .ok (.invokespecial 11, 3) := by decide +kernel
theorem dX3_init_12 : decode cX3_init 12 = .ok (.putfield 12, 3) := by decide +kernel
theorem dX3_init_15 : decode cX3_init 15 = .ok (.aload_n 0, 1) := by decide +kernel
theorem dX3_init_16 : decode cX3_init 16 = .ok (.bipush 30, 2) := by decide +kernel
theorem dX3_init_18 : decode cX3_init 18 = .ok (.newarray .int, 2) := by decide +kernel
theorem dX3_init_20 : decode cX3_init 20 = .ok (.putfield 18, 3) := by decide +kernel
theorem dX3_init_23 : decode cX3_init 23 = .ok (.aload_n 0, 1) := by decide +kernel
theorem dX3_init_24 : decode cX3_init 24 = .ok (.aload_n 1, 1) := by decide +kernel
theorem dX3_init_25 : decode cX3_init 25 = .ok (.putfield 22, 3) := by decide +kernel
theorem dX3_init_28 : decode cX3_init 28 = .ok (.return_, 1) := by decide +kernel
theorem dX3_lookThrough_0 : decode cX3_lookThrough 0 = .ok (.aload_n 0, 1) := by decide +kernel
theorem dX3_lookThrough_1 : decode cX3_lookThrough 1 = .ok (.getfield 26, 3) := by decide +kernel
theorem dX3_lookThrough_4 : decode cX3_lookThrough 4 = .ok (.ifCond .eq 15, 3) := by decide +kernel
theorem dX3_lookThrough_7 : decode cX3_lookThrough 7 = .ok (.aload_n 0, 1) := by decide +kernel
theorem dX3_lookThrough_8 : decode cX3_lookThrough 8 = .ok (.getfield 12, 3) := by decide +kernel
theorem dX3_lookThrough_11 : decode cX3_lookThrough 11 = .ok (.aload_n 1, 1) := by decide +kernel
theorem dX3_lookThrough_12 : decode cX3_lookThrough 12 = .ok (.invokevirtual 30, 3) := by decide +kernel
theorem dX3_lookThrough_15 : decode cX3_lookThrough 15 = .ok (.ifCond .eq 4, 3) := by decide +kernel
theorem dX3_lookThrough_18 : decode cX3_lookThrough 18 = .ok (.return_, 1) := by decide +kernel
theorem dX3_lookThrough_19 : decode cX3_lookThrough 19 = .ok (.aload_n 0, 1) := by decide +kernel
theorem dX3_lookThrough_20 : decode cX3_lookThrough 20 = .ok (.iconst 1, 1) := by decide +kernel
theorem dX3_lookThrough_21 : decode cX3_lookThrough 21 = .ok (.putfield 26, 3) := by decide +kernel
theorem dX3_lookThrough_24 : decode cX3_lookThrough 24 = .ok (.aload_n 0, 1) := by decide +kernel
theorem dX3_lookThrough_25 : decode cX3_lookThrough 25 = .ok (.getfield 12, 3) := by decide +kernel
theorem dX3_lookThrough_28 : decode cX3_lookThrough 28 = .ok (.aload_n 1, 1) := by decide +kernel
theorem dX3_lookThrough_29 : decode cX3_lookThrough 29 = .ok (.invokevirtual 34, 3) := by decide +kernel
theorem dX3_lookThrough_32 : decode cX3_lookThrough 32 = .ok (.aload_n 0, 1) := by decide +kernel
theorem dX3_lookThrough_33 : decode cX3_lookThrough 33 = .ok (.iconst 0, 1) := by decide +kernel
theorem dX3_lookThrough_34 : decode cX3_lookThrough 34 = .ok (.putfield 38, 3) := by decide +kernel
theorem dX3_lookThrough_37 : decode cX3_lookThrough 37 = .ok (.aload_n 0, 1) := by decide +kernel
theorem dX3_lookThrough_38 : decode cX3_lookThrough 38 = .ok (.iconst 0, 1) := by decide +kernel
theorem dX3_lookThrough_39 : decode cX3_lookThrough 39 = .ok (.putfield 42, 3) := by decide +kernel
theorem dX3_lookThrough_42 : decode cX3_lookThrough 42 = .ok (.aload_n 0, 1) := by decide +kernel
theorem dX3_lookThrough_43 : decode cX3_lookThrough 43 = .ok (.iconst 0, 1) := by decide +kernel
theorem dX3_lookThrough_44 : decode cX3_lookThrough 44 = .ok (.putfield 45, 3) := by decide +kernel
theorem dX3_lookThrough_47 : decode cX3_lookThrough 47 = .ok (.aload_n 0, 1) := by decide +kernel
theorem dX3_lookThrough_48 : decode cX3_lookThrough 48 = .ok (.getfield 22, 3) := by decide +kernel
theorem dX3_lookThrough_51 : decode cX3_lookThrough 51 = .ok (.aload_n 1, 1) := by decide +kernel
theorem dX3_lookThrough_52 : decode cX3_lookThrough 52 = .ok (.getfield 48, 3) := by decide +kernel
theorem dX3_lookThrough_55 : decode cX3_lookThrough 55 = .ok (.aload_n 1, 1) := by decide +kernel
theorem dX3_lookThrough_56 : decode cX3_lookThrough 56 = .ok (.getfield 51, 3) := by decide +kernel
theorem dX3_lookThrough_59 : decode cX3_lookThrough 59 = .ok (.invokevirtual 54, 3) := by decide +kernel
theorem dX3_lookThrough_62 : decode cX3_lookThrough 62 = .ok (.iconst 0, 1) := by decide +kernel
theorem dX3_lookThrough_63 : decode cX3_lookThrough 63 = .ok (.istore_n 2, 1) := by decide +kernel
theorem dX3_lookThrough_64 : decode cX3_lookThrough 64 = .ok (.iload_n 2, 1) := by decide +kernel
theorem dX3_lookThrough_65 : decode cX3_lookThrough 65 = .ok (.sipush 20000, 3) := by decide +kernel
theorem dX3_lookThrough_68 : decode cX3_lookThrough 68 = .ok (.if_icmp .ge 33, 3) := by decide +kernel
theorem dX3_lookThrough_71 : decode cX3_lookThrough 71 = .ok (.aload_n 0, 1) := by decide +kernel
theorem dX3_lookThrough_72 : decode cX3_lookThrough 72 = .ok (.getfield 22, 3) := by decide +kernel
theorem dX3_lookThrough_75 : decode cX3_lookThrough 75 = .ok (.invokevirtual 60, 3) := by decide +kernel
theorem dX3_lookThrough_78 : decode cX3_lookThrough 78 = .ok (.ifCond .eq 23, 3) := by decide +kernel
theorem dX3_lookThrough_81 : decode cX3_lookThrough 81 = .ok (.aload_n 0, 1) := by decide +kernel
theorem dX3_lookThrough_82 : decode cX3_lookThrough 82 = .ok (.getfield 22, 3) := by decide +kernel
theorem dX3_lookThrough_85 : decode cX3_lookThrough 85 = .ok (.invokevirtual 64, 3) := by decide +kernel
theorem dX3_lookThrough_88 : decode cX3_lookThrough 88 = .ok (.ifCond .eq 7, 3) := by decide +kernel
theorem dX3_lookThrough_91 : decode cX3_lookThrough 91 = .ok (.aload_n 0, 1) := by decide +kernel
theorem dX3_lookThrough_92 : decode cX3_lookThrough 92 = .ok (.invokevirtual 67, 3) := by decide +kernel
theorem dX3_lookThrough_95 : decode cX3_lookThrough 95 = .ok (.iinc 2 1, 3) := by decide +kernel
theorem dX3_lookThrough_98 : decode cX3_lookThrough 98 = .ok (.goto (-34), 3) := by decide +kernel
theorem dX3_lookThrough_101 : decode cX3_lookThrough 101 = .ok (.return_, 1) := by decide +kernel
theorem dX3_note_0 : decode cX3_note 0 = .ok (.aload_n 0, 1) := by decide +kernel
theorem dX3_note_1 : decode cX3_note 1 = .ok (.dup, 1) := by decide +kernel
theorem dX3_note_2 : decode cX3_note 2 = .ok (.getfield 38, 3) := by decide +kernel
theorem dX3_note_5 : decode cX3_note 5 = .ok (.iconst 1, 1) := by decide +kernel
theorem dX3_note_6 : decode cX3_note 6 = .ok (.iadd, 1) := by decide +kernel
theorem dX3_note_7 : decode cX3_note 7 = .ok (.putfield 38, 3) := by decide +kernel
theorem dX3_note_10 : decode cX3_note 10 = .ok (.aload_n 0, 1) := by decide +kernel
theorem dX3_note_11 : decode cX3_note 11 = .ok (.getfield 38, 3) := by decide +kernel
theorem dX3_note_14 : decode cX3_note 14 = .ok (.iconst 1, 1) := by decide +kernel
theorem dX3_note_15 : decode cX3_note 15 = .ok (.if_icmp .eq 17, 3) := by decide +kernel
theorem dX3_note_18 : decode cX3_note 18 = .ok (.aload_n 0, 1) := by decide +kernel
theorem dX3_note_19 : decode cX3_note 19 = .ok (.getfield 22, 3) := by decide +kernel
theorem dX3_note_22 : decode cX3_note 22 = .ok (.getfield 70, 3) := by decide +kernel
theorem dX3_note_25 : decode cX3_note 25 = .ok (.aload_n 0, 1) := by decide +kernel
theorem dX3_note_26 : decode cX3_note 26 = .ok (.getfield 42, 3) := by decide +kernel
theorem dX3_note_29 : decode cX3_note 29 = .ok (.if_icmp .ge 26, 3) := by decide +kernel
theorem dX3_note_32 : decode cX3_note 32 = .ok (.aload_n 0, 1) := by decide +kernel
theorem dX3_note_33 : decode cX3_note 33 = .ok (.aload_n 0, 1) := by decide +kernel
theorem dX3_note_34 : decode cX3_note 34 = .ok (.getfield 22, 3) := by decide +kernel
theorem dX3_note_37 : decode cX3_note 37 = .ok (.getfield 70, 3) := by decide +kernel
theorem dX3_note_40 : decode cX3_note 40 = .ok (.putfield 42, 3) := by decide +kernel
theorem dX3_note_43 : decode cX3_note 43 = .ok (.aload_n 0, 1) := by decide +kernel
theorem dX3_note_44 : decode cX3_note 44 = .ok (.iconst 1, 1) := by decide +kernel
theorem dX3_note_45 : decode cX3_note 45 = .ok (.putfield 45, 3) := by decide +kernel
theorem dX3_note_48 : decode cX3_note 48 = .ok (.aload_n 0, 1) := by decide +kernel
theorem dX3_note_49 : decode cX3_note 49 = .ok (.invokevirtual 73, 3) := by decide +kernel
theorem dX3_note_52 : decode cX3_note 52 = .ok (.goto 38, 3) := by decide +kernel
theorem dX3_note_55 : decode cX3_note 55 = .ok (.aload_n 0, 1) := by decide +kernel
theorem dX3_note_56 : decode cX3_note 56 = .ok (.getfield 22, 3) := by decide +kernel
theorem dX3_note_59 : decode cX3_note 59 = .ok (.getfield 70, 3) := by decide +kernel
theorem dX3_note_62 : decode cX3_note 62 = .ok (.aload_n 0, 1) := by decide +kernel
theorem dX3_note_63 : decode cX3_note 63 = .ok (.getfield 42, 3) := by decide +kernel
theorem dX3_note_66 : decode cX3_note 66 = .ok (.if_icmp .ne 24, 3) := by decide +kernel
theorem dX3_note_69 : decode cX3_note 69 = .ok (.aload_n 0, 1) := by decide +kernel
theorem dX3_note_70 : decode cX3_note 70 = .ok (.dup, 1) := by decide +kernel
theorem dX3_note_71 : decode cX3_note 71 = .ok (.getfield 45, 3) := by decide +kernel
theorem dX3_note_74 : decode cX3_note 74 = .ok (.iconst 1, 1) := by decide +kernel
theorem dX3_note_75 : decode cX3_note 75 = .ok (.iadd, 1) := by decide +kernel
theorem dX3_note_76 : decode cX3_note 76 = .ok (.putfield 45, 3) := by decide +kernel
theorem dX3_note_79 : decode cX3_note 79 = .ok (.aload_n 0, 1) := by decide +kernel
theorem dX3_note_80 : decode cX3_note 80 = .ok (.invokevirtual 76, 3) := by decide +kernel
theorem dX3_note_83 : decode cX3_note 83 = .ok (.ifCond .eq 7, 3) := by decide +kernel
theorem dX3_note_86 : decode cX3_note 86 = .ok (.aload_n 0, 1) := by decide +kernel
theorem dX3_note_87 : decode cX3_note 87 = .ok (.invokevirtual 73, 3) := by decide +kernel
theorem dX3_note_90 : decode cX3_note 90 = .ok (.return_, 1) := by decide +kernel
theorem dX3_isAheadOfFirst_0 : decode cX3_isAheadOfFirst 0 = .ok (.iconst 0, 1) := by decide +kernel
theorem dX3_isAheadOfFirst_1 : decode cX3_isAheadOfFirst 1 = .ok (.istore_n 1, 1) := by decide +kernel
theorem dX3_isAheadOfFirst_2 : decode cX3_isAheadOfFirst 2 = .ok (.iload_n 1, 1) := by decide +kernel
theorem dX3_isAheadOfFirst_3 : decode cX3_isAheadOfFirst 3 = .ok (.aload_n 0, 1) := by decide +kernel
theorem dX3_isAheadOfFirst_4 : decode cX3_isAheadOfFirst 4 = .ok (.getfield 12, 3) := by decide +kernel
theorem dX3_isAheadOfFirst_7 : decode cX3_isAheadOfFirst 7 = .ok (.getfield 48, 3) := by decide +kernel
theorem dX3_isAheadOfFirst_10 : decode cX3_isAheadOfFirst 10 = .ok (.if_icmp .ge 51, 3) := by decide +kernel
theorem dX3_isAheadOfFirst_13 : decode cX3_isAheadOfFirst 13 = .ok (.aload_n 0, 1) := by decide +kernel
theorem dX3_isAheadOfFirst_14 : decode cX3_isAheadOfFirst 14 = .ok (.getfield 22, 3) := by decide +kernel
theorem dX3_isAheadOfFirst_17 : decode cX3_isAheadOfFirst 17 = .ok (.getfield 79, 3) := by decide +kernel
theorem dX3_isAheadOfFirst_20 : decode cX3_isAheadOfFirst 20 = .ok (.iload_n 1, 1) := by decide +kernel
theorem dX3_isAheadOfFirst_21 : decode cX3_isAheadOfFirst 21 = .ok (.iaload, 1) := by decide +kernel
theorem dX3_isAheadOfFirst_22 : decode cX3_isAheadOfFirst 22 = .ok (.aload_n 0, 1) := by decide +kernel
theorem dX3_isAheadOfFirst_23 : decode cX3_isAheadOfFirst 23 = .ok (.getfield 18, 3) := by decide +kernel
theorem dX3_isAheadOfFirst_26 : decode cX3_isAheadOfFirst 26 = .ok (.iload_n 1, 1) := by decide +kernel
theorem dX3_isAheadOfFirst_27 : decode cX3_isAheadOfFirst 27 = .ok (.iaload, 1) := by decide +kernel
theorem dX3_isAheadOfFirst_28 : decode cX3_isAheadOfFirst 28 = .ok (.if_icmp .eq 27, 3) := by decide +kernel
theorem dX3_isAheadOfFirst_31 : decode cX3_isAheadOfFirst 31 = .ok (.aload_n 0, 1) := by decide +kernel
theorem dX3_isAheadOfFirst_32 : decode cX3_isAheadOfFirst 32 = .ok (.getfield 22, 3) := by decide +kernel
theorem dX3_isAheadOfFirst_35 : decode cX3_isAheadOfFirst 35 = .ok (.getfield 79, 3) := by decide +kernel
theorem dX3_isAheadOfFirst_38 : decode cX3_isAheadOfFirst 38 = .ok (.iload_n 1, 1) := by decide +kernel
theorem dX3_isAheadOfFirst_39 : decode cX3_isAheadOfFirst 39 = .ok (.iaload, 1) := by decide +kernel
theorem dX3_isAheadOfFirst_40 : decode cX3_isAheadOfFirst 40 = .ok (.aload_n 0, 1) := by decide +kernel
theorem dX3_isAheadOfFirst_41 : decode cX3_isAheadOfFirst 41 = .ok (.getfield 18, 3) := by decide +kernel
theorem dX3_isAheadOfFirst_44 : decode cX3_isAheadOfFirst 44 = .ok (.iload_n 1, 1) := by decide +kernel
theorem dX3_isAheadOfFirst_45 : decode cX3_isAheadOfFirst 45 = .ok (.iaload, 1) := by decide +kernel
theorem dX3_isAheadOfFirst_46 : decode cX3_isAheadOfFirst 46 = .ok (.if_icmp .le 7, 3) := by decide +kernel
theorem dX3_isAheadOfFirst_49 : decode cX3_isAheadOfFirst 49 = .ok (.iconst 1, 1) := by decide +kernel
theorem dX3_isAheadOfFirst_50 : decode cX3_isAheadOfFirst 50 = .ok (.goto 4, 3) := by decide +kernel
theorem dX3_isAheadOfFirst_53 : decode cX3_isAheadOfFirst 53 = .ok (.iconst 0, 1) := by decide +kernel
theorem dX3_isAheadOfFirst_54 : decode cX3_isAheadOfFirst 54 = .ok (.ireturn, 1) := by decide +kernel
theorem dX3_isAheadOfFirst_55 : decode cX3_isAheadOfFirst 55 = .ok (.iinc 1 1, 3) := by decide +kernel
theorem dX3_isAheadOfFirst_58 : decode cX3_isAheadOfFirst 58 = .ok (.goto (-56), 3) := by decide +kernel
theorem dX3_isAheadOfFirst_61 : decode cX3_isAheadOfFirst 61 = .ok (.iconst 0, 1) := by decide +kernel
theorem dX3_isAheadOfFirst_62 : decode cX3_isAheadOfFirst 62 = .ok (.ireturn, 1) := by decide +kernel
theorem dX3_becomeFirst_0 : decode cX3_becomeFirst 0 = .ok (.aload_n 0, 1) := by decide +kernel
theorem dX3_becomeFirst_1 : decode cX3_becomeFirst 1 = .ok (.getfield 22, 3) := by decide +kernel
theorem dX3_becomeFirst_4 : decode cX3_becomeFirst 4 = .ok (.getfield 79, 3) := by decide +kernel
theorem dX3_becomeFirst_7 : decode cX3_becomeFirst 7 = .ok (.iconst 0, 1) := by decide +kernel
theorem dX3_becomeFirst_8 : decode cX3_becomeFirst 8 = .ok (.aload_n 0, 1) := by decide +kernel
theorem dX3_becomeFirst_9 : decode cX3_becomeFirst 9 = .ok (.getfield 18, 3) := by decide +kernel
theorem dX3_becomeFirst_12 : decode cX3_becomeFirst 12 = .ok (.iconst 0, 1) := by decide +kernel
theorem dX3_becomeFirst_13 : decode cX3_becomeFirst 13 = .ok (.bipush 30, 2) := by decide +kernel
theorem dX3_becomeFirst_15 : decode cX3_becomeFirst 15 = .ok (.invokestatic 82, 3) := by decide +kernel
theorem dX3_becomeFirst_18 : decode cX3_becomeFirst 18 = .ok (.return_, 1) := by decide +kernel
theorem dX4_init_0 : decode cX4_init 0 = .ok (.aload_n 0, 1) := by decide +kernel
theorem dX4_init_1 : decode cX4_init 1 = .ok (.invokespecial 3, 3) := by decide +kernel
theorem dX4_init_4 : decode cX4_init 4 = .ok (.aload_n 0, 1) := by decide +kernel
theorem dX4_init_5 : decode cX4_init 5 = .ok (.bipush 8, 2) := by decide +kernel
theorem dX4_init_7 : decode cX4_init 7 = .ok (.newarray .int, 2) := by decide +kernel
theorem dX4_init_9 : decode cX4_init 9 = .ok (.putfield 9, 3) := by decide +kernel
theorem dX4_init_12 : decode cX4_init 12 = .ok (.aload_n 0, 1) := by decide +kernel
theorem dX4_init_13 : decode cX4_init 13 = .ok (.bipush 8, 2) := by decide +kernel
theorem dX4_init_15 : decode cX4_init 15 = .ok (.newarray .int, 2) := by decide +kernel
theorem dX4_init_17 : decode cX4_init 17 = .ok (.putfield 15, 3) := by decide +kernel
theorem dX4_init_20 : decode cX4_init 20 = .ok (.return_, 1) := by decide +kernel
theorem dX4_append_0 : decode cX4_append 0 = .ok (.aload_n 0, 1) := by decide +kernel
theorem dX4_append_1 : decode cX4_append 1 = .ok (.getfield 18, 3) := by decide +kernel
theorem dX4_append_4 : decode cX4_append 4 = .ok (.bipush 8, 2) := by decide +kernel
theorem dX4_append_6 : decode cX4_append 6 = .ok (.if_icmp .ge 33, 3) := by decide +kernel
theorem dX4_append_9 : decode cX4_append 9 = .ok (.aload_n 0, 1) := by decide +kernel
theorem dX4_append_10 : decode cX4_append 10 = .ok (.getfield 9, 3) := by decide +kernel
theorem dX4_append_13 : decode cX4_append 13 = .ok (.aload_n 0, 1) := by decide +kernel
theorem dX4_append_14 : decode cX4_append 14 = .ok (.getfield 18, 3) := by decide +kernel
theorem dX4_append_17 : decode cX4_append 17 = .ok (.iload_n 1, 1) := by decide +kernel
theorem dX4_append_18 : decode cX4_append 18 = .ok (.iastore, 1) := by decide +kernel
theorem dX4_append_19 : decode cX4_append 19 = .ok (.aload_n 0, 1) := by decide +kernel
theorem dX4_append_20 : decode cX4_append 20 = .ok (.getfield 15, 3) := by decide +kernel
theorem dX4_append_23 : decode cX4_append 23 = .ok (.aload_n 0, 1) := by decide +kernel
theorem dX4_append_24 : decode cX4_append 24 = .ok (.getfield 18, 3) := by decide +kernel
theorem dX4_append_27 : decode cX4_append 27 = .ok (.iload_n 2, 1) := by decide +kernel
theorem dX4_append_28 : decode cX4_append 28 = .ok (.iastore, 1) := by decide +kernel
theorem dX4_append_29 : decode cX4_append 29 = .ok (.aload_n 0, 1) := by decide +kernel
theorem dX4_append_30 : decode cX4_append 30 = .ok (.dup, 1) := by decide +kernel
theorem dX4_append_31 : decode cX4_append 31 = .ok (.getfield 18, 3) := by decide +kernel
theorem dX4_append_34 : decode cX4_append 34 = .ok (.iconst 1, 1) := by decide +kernel
theorem dX4_append_35 : decode cX4_append 35 = .ok (.iadd, 1) := by decide +kernel
theorem dX4_append_36 : decode cX4_append 36 = .ok (.putfield 18, 3) := by decide +kernel
theorem dX4_append_39 : decode cX4_append 39 = .ok (.return_, 1) := by decide +kernel
theorem dX4_become_0 : decode cX4_become 0 = .ok (.aload_n 0, 1) := by decide +kernel
theorem dX4_become_1 : decode cX4_become 1 = .ok (.aload_n 1, 1) := by decide +kernel
theorem dX4_become_2 : decode cX4_become 2 = .ok (.getfield 18, 3) := by decide +kernel
theorem dX4_become_5 : decode cX4_become 5 = .ok (.putfield 18, 3) := by decide +kernel
theorem dX4_become_8 : decode cX4_become 8 = .ok (.aload_n 1, 1) := by decide +kernel
theorem dX4_become_9 : decode cX4_become 9 = .ok (.getfield 9, 3) := by decide +kernel
theorem dX4_become_12 : decode cX4_become 12 = .ok (.iconst 0, 1) := by decide +kernel
theorem dX4_become_13 : decode cX4_become 13 = .ok (.aload_n 0, 1) := by decide +kernel
theorem dX4_become_14 : decode cX4_become 14 = .ok (.getfield 9, 3) := by decide +kernel
theorem dX4_become_17 : decode cX4_become 17 = .ok (.iconst 0, 1) := by decide +kernel
theorem dX4_become_18 : decode cX4_become 18 = .ok (.bipush 8, 2) := by decide +kernel
theorem dX4_become_20 : decode cX4_become 20 = .ok (.invokestatic 22, 3) := by decide +kernel
theorem dX4_become_23 : decode cX4_become 23 = .ok (.aload_n 1, 1) := by decide +kernel
theorem dX4_become_24 : decode cX4_become 24 = .ok (.getfield 15, 3) := by decide +kernel
theorem dX4_become_27 : decode cX4_become 27 = .ok (.iconst 0, 1) := by decide +kernel
theorem dX4_become_28 : decode cX4_become 28 = .ok (.aload_n 0, 1) := by decide +kernel
theorem dX4_become_29 : decode cX4_become 29 = .ok (.getfield 15, 3) := by decide +kernel
theorem dX4_become_32 : decode cX4_become 32 = .ok (.iconst 0, 1) := by decide +kernel
theorem dX4_become_33 : decode cX4_become 33 = .ok (.bipush 8, 2) := by decide +kernel
theorem dX4_become_35 : decode cX4_become 35 = .ok (.invokestatic 22, 3) := by decide +kernel
theorem dX4_become_38 : decode cX4_become 38 = .ok (.return_, 1) := by decide +kernel
theorem dX5_init_0 : decode cX5_init 0 = .ok (.aload_n 0, 1) := by decide +kernel
theorem dX5_init_1 : decode cX5_init 1 = .ok (.invokespecial 3, 3) := by decide +kernel
theorem dX5_init_4 : decode cX5_init 4 = .ok (.aload_n 0, 1) := by decide +kernel
theorem dX5_init_5 : decode cX5_init 5 = .ok (.bipush 6, 2) := by decide +kernel
theorem dX5_init_7 : decode cX5_init 7 = .ok (.putfield 9, 3) := by decide +kernel
theorem dX5_init_10 : decode cX5_init 10 = .ok (.aload_n 0, 1) := by decide +kernel
theorem dX5_init_11 : decode cX5_init 11 = .ok (.bipush 30, 2) := by decide +kernel
theorem dX5_init_13 : decode cX5_init 13 = .ok (.newarray .int, 2) := by decide +kernel
theorem dX5_init_15 : decode cX5_init 15 = .ok (.putfield 15, 3) := by decide +kernel
theorem dX5_init_18 : decode cX5_init 18 = .ok (.return_, 1) := by decide +kernel
theorem dX5_renew_0 : decode cX5_renew 0 = .ok (.aload_n 0, 1) := by decide +kernel
theorem dX5_renew_1 : decode cX5_renew 1 = .ok (.iload_n 1, 1) := by decide +kernel
theorem dX5_renew_2 : decode cX5_renew 2 = .ok (.putfield 9, 3) := by decide +kernel
theorem dX5_renew_5 : decode cX5_renew 5 = .ok (.aload_n 0, 1) := by decide +kernel
theorem dX5_renew_6 : decode cX5_renew 6 = .ok (.getfield 15, 3) := by decide +kernel
theorem dX5_renew_9 : decode cX5_renew 9 = .ok (.iconst 0, 1) := by decide +kernel
theorem dX5_renew_10 : decode cX5_renew 10 = .ok (.invokestatic 19, 3) := by decide +kernel
theorem dX5_renew_13 : decode cX5_renew 13 = .ok (.return_, 1) := by decide +kernel
theorem dX5_become_0 : decode cX5_become 0 = .ok (.aload_n 0, 1) := by decide +kernel
theorem dX5_become_1 : decode cX5_become 1 = .ok (.aload_n 1, 1) := by decide +kernel
theorem dX5_become_2 : decode cX5_become 2 = .ok (.getfield 9, 3) := by decide +kernel
theorem dX5_become_5 : decode cX5_become 5 = .ok (.putfield 9, 3) := by decide +kernel
theorem dX5_become_8 : decode cX5_become 8 = .ok (.aload_n 1, 1) := by decide +kernel
theorem dX5_become_9 : decode cX5_become 9 = .ok (.getfield 15, 3) := by decide +kernel
theorem dX5_become_12 : decode cX5_become 12 = .ok (.iconst 0, 1) := by decide +kernel
theorem dX5_become_13 : decode cX5_become 13 = .ok (.aload_n 0, 1) := by decide +kernel
theorem dX5_become_14 : decode cX5_become 14 = .ok (.getfield 15, 3) := by decide +kernel
theorem dX5_become_17 : decode cX5_become 17 = .ok (.iconst 0, 1) := by decide +kernel
theorem dX5_become_18 : decode cX5_become 18 = .ok (.bipush 30, 2) := by decide +kernel
theorem dX5_become_20 : decode cX5_become 20 = .ok (.invokestatic 25, 3) := by decide +kernel
theorem dX5_become_23 : decode cX5_become 23 = .ok (.return_, 1) := by decide +kernel
theorem dX5_has_0 : decode cX5_has 0 = .ok (.iload_n 1, 1) := by decide +kernel
theorem dX5_has_1 : decode cX5_has 1 = .ok (.ifCond .lt 15, 3) := by decide +kernel
theorem dX5_has_4 : decode cX5_has 4 = .ok (.iload_n 1, 1) := by decide +kernel
theorem dX5_has_5 : decode cX5_has 5 = .ok (.aload_n 0, 1) := by decide +kernel
theorem dX5_has_6 : decode cX5_has 6 = .ok (.getfield 9, 3) := by decide +kernel
theorem dX5_has_9 : decode cX5_has 9 = .ok (.if_icmp .ge 7, 3) := by decide +kernel
theorem dX5_has_12 : decode cX5_has 12 = .ok (.iconst 1, 1) := by decide +kernel
theorem dX5_has_13 : decode cX5_has 13 = .ok (.goto 4, 3) := by decide +kernel
theorem dX5_has_16 : decode cX5_has 16 = .ok (.iconst 0, 1) := by decide +kernel
theorem dX5_has_17 : decode cX5_has 17 = .ok (.ireturn, 1) := by decide +kernel
theorem dX5_isSame_0 : decode cX5_isSame 0 = .ok (.aload_n 0, 1) := by decide +kernel
theorem dX5_isSame_1 : decode cX5_isSame 1 = .ok (.getfield 9, 3) := by decide +kernel
theorem dX5_isSame_4 : decode cX5_isSame 4 = .ok (.aload_n 1, 1) := by decide +kernel
theorem dX5_isSame_5 : decode cX5_isSame 5 = .ok (.getfield 9, 3) := by decide +kernel
theorem dX5_isSame_8 : decode cX5_isSame 8 = .ok (.if_icmp .eq 5, 3) := by decide +kernel
theorem dX5_isSame_11 : decode cX5_isSame 11 = .ok (.iconst 0, 1) := by decide +kernel
theorem dX5_isSame_12 : decode cX5_isSame 12 = .ok (.ireturn, 1) := by decide +kernel
theorem dX5_isSame_13 : decode cX5_isSame 13 = .ok (.iconst 0, 1) := by decide +kernel
theorem dX5_isSame_14 : decode cX5_isSame 14 = .ok (.istore_n 2, 1) := by decide +kernel
theorem dX5_isSame_15 : decode cX5_isSame 15 = .ok (.iload_n 2, 1) := by decide +kernel
theorem dX5_isSame_16 : decode cX5_isSame 16 = .ok (.aload_n 0, 1) := by decide +kernel
theorem dX5_isSame_17 : decode cX5_isSame 17 = .ok (.getfield 9, 3) := by decide +kernel
theorem dX5_isSame_20 : decode cX5_isSame 20 = .ok (.if_icmp .ge 26, 3) := by decide +kernel
theorem dX5_isSame_23 : decode cX5_isSame 23 = .ok (.aload_n 0, 1) := by decide +kernel
theorem dX5_isSame_24 : decode cX5_isSame 24 = .ok (.getfield 15, 3) := by decide +kernel
theorem dX5_isSame_27 : decode cX5_isSame 27 = .ok (.iload_n 2, 1) := by decide +kernel
theorem dX5_isSame_28 : decode cX5_isSame 28 = .ok (.iaload, 1) := by decide +kernel
theorem dX5_isSame_29 : decode cX5_isSame 29 = .ok (.aload_n 1, 1) := by decide +kernel
theorem dX5_isSame_30 : decode cX5_isSame 30 = .ok (.getfield 15, 3) := by decide +kernel
theorem dX5_isSame_33 : decode cX5_isSame 33 = .ok (.iload_n 2, 1) := by decide +kernel
theorem dX5_isSame_34 : decode cX5_isSame 34 = .ok (.iaload, 1) := by decide +kernel
theorem dX5_isSame_35 : decode cX5_isSame 35 = .ok (.if_icmp .eq 5, 3) := by decide +kernel
theorem dX5_isSame_38 : decode cX5_isSame 38 = .ok (.iconst 0, 1) := by decide +kernel
theorem dX5_isSame_39 : decode cX5_isSame 39 = .ok (.ireturn, 1) := by decide +kernel
theorem dX5_isSame_40 : decode cX5_isSame 40 = .ok (.iinc 2 1, 3) := by decide +kernel
theorem dX5_isSame_43 : decode cX5_isSame 43 = .ok (.goto (-28), 3) := by decide +kernel
theorem dX5_isSame_46 : decode cX5_isSame 46 = .ok (.iconst 1, 1) := by decide +kernel
theorem dX5_isSame_47 : decode cX5_isSame 47 = .ok (.ireturn, 1) := by decide +kernel
theorem dX5_total_0 : decode cX5_total 0 = .ok (.iconst 0, 1) := by decide +kernel
theorem dX5_total_1 : decode cX5_total 1 = .ok (.istore_n 1, 1) := by decide +kernel
theorem dX5_total_2 : decode cX5_total 2 = .ok (.iconst 0, 1) := by decide +kernel
theorem dX5_total_3 : decode cX5_total 3 = .ok (.istore_n 2, 1) := by decide +kernel
theorem dX5_total_4 : decode cX5_total 4 = .ok (.iload_n 2, 1) := by decide +kernel
theorem dX5_total_5 : decode cX5_total 5 = .ok (.aload_n 0, 1) := by decide +kernel
theorem dX5_total_6 : decode cX5_total 6 = .ok (.getfield 9, 3) := by decide +kernel
theorem dX5_total_9 : decode cX5_total 9 = .ok (.if_icmp .ge 18, 3) := by decide +kernel
theorem dX5_total_12 : decode cX5_total 12 = .ok (.iload_n 1, 1) := by decide +kernel
theorem dX5_total_13 : decode cX5_total 13 = .ok (.aload_n 0, 1) := by decide +kernel
theorem dX5_total_14 : decode cX5_total 14 = .ok (.getfield 15, 3) := by decide +kernel
theorem dX5_total_17 : decode cX5_total 17 = .ok (.iload_n 2, 1) := by decide +kernel
theorem dX5_total_18 : decode cX5_total 18 = .ok (.iaload, 1) := by decide +kernel
theorem dX5_total_19 : decode cX5_total 19 = .ok (.iadd, 1) := by decide +kernel
theorem dX5_total_20 : decode cX5_total 20 = .ok (.istore_n 1, 1) := by decide +kernel
theorem dX5_total_21 : decode cX5_total 21 = .ok (.iinc 2 1, 3) := by decide +kernel
theorem dX5_total_24 : decode cX5_total 24 = .ok (.goto (-20), 3) := by decide +kernel
theorem dX5_total_27 : decode cX5_total 27 = .ok (.iload_n 1, 1) := by decide +kernel
theorem dX5_total_28 : decode cX5_total 28 = .ok (.ireturn, 1) := by decide +kernel
theorem dX5_rootsTaken_0 : decode cX5_rootsTaken 0 = .ok (.iconst 0, 1) := by decide +kernel
theorem dX5_rootsTaken_1 : decode cX5_rootsTaken 1 = .ok (.istore_n 1, 1) := by decide +kernel
theorem dX5_rootsTaken_2 : decode cX5_rootsTaken 2 = .ok (.iconst 0, 1) := by decide +kernel
theorem dX5_rootsTaken_3 : decode cX5_rootsTaken 3 = .ok (.istore_n 2, 1) := by decide +kernel
theorem dX5_rootsTaken_4 : decode cX5_rootsTaken 4 = .ok (.iload_n 2, 1) := by decide +kernel
theorem dX5_rootsTaken_5 : decode cX5_rootsTaken 5 = .ok (.aload_n 0, 1) := by decide +kernel
theorem dX5_rootsTaken_6 : decode cX5_rootsTaken 6 = .ok (.getfield 9, 3) := by decide +kernel
theorem dX5_rootsTaken_9 : decode cX5_rootsTaken 9 = .ok (.if_icmp .ge 21, 3) := by decide +kernel
theorem dX5_rootsTaken_12 : decode cX5_rootsTaken 12 = .ok (.aload_n 0, 1) := by decide +kernel
theorem dX5_rootsTaken_13 : decode cX5_rootsTaken 13 = .ok (.getfield 15, 3) := by decide +kernel
theorem dX5_rootsTaken_16 : decode cX5_rootsTaken 16 = .ok (.iload_n 2, 1) := by decide +kernel
theorem dX5_rootsTaken_17 : decode cX5_rootsTaken 17 = .ok (.iaload, 1) := by decide +kernel
theorem dX5_rootsTaken_18 : decode cX5_rootsTaken 18 = .ok (.ifCond .le 6, 3) := by decide +kernel
theorem dX5_rootsTaken_21 : decode cX5_rootsTaken 21 = .ok (.iinc 1 1, 3) := by decide +kernel
theorem dX5_rootsTaken_24 : decode cX5_rootsTaken 24 = .ok (.iinc 2 1, 3) := by decide +kernel
theorem dX5_rootsTaken_27 : decode cX5_rootsTaken 27 = .ok (.goto (-23), 3) := by decide +kernel
theorem dX5_rootsTaken_30 : decode cX5_rootsTaken 30 = .ok (.iload_n 1, 1) := by decide +kernel
theorem dX5_rootsTaken_31 : decode cX5_rootsTaken 31 = .ok (.ireturn, 1) := by decide +kernel
theorem dX5_isDear_0 : decode cX5_isDear 0 = .ok (.iconst 1, 1) := by decide +kernel
theorem dX5_isDear_1 : decode cX5_isDear 1 = .ok (.istore_n 1, 1) := by decide +kernel
theorem dX5_isDear_2 : decode cX5_isDear 2 = .ok (.iconst 0, 1) := by decide +kernel
theorem dX5_isDear_3 : decode cX5_isDear 3 = .ok (.istore_n 2, 1) := by decide +kernel
theorem dX5_isDear_4 : decode cX5_isDear 4 = .ok (.iload_n 2, 1) := by decide +kernel
theorem dX5_isDear_5 : decode cX5_isDear 5 = .ok (.aload_n 0, 1) := by decide +kernel
theorem dX5_isDear_6 : decode cX5_isDear 6 = .ok (.getfield 9, 3) := by decide +kernel
theorem dX5_isDear_9 : decode cX5_isDear 9 = .ok (.if_icmp .ge 27, 3) := by decide +kernel
theorem dX5_isDear_12 : decode cX5_isDear 12 = .ok (.iload_n 1, 1) := by decide +kernel
theorem dX5_isDear_13 : decode cX5_isDear 13 = .ok (.sipush 20000, 3) := by decide +kernel
theorem dX5_isDear_16 : decode cX5_isDear 16 = .ok (.if_icmp .gt 20, 3) := by decide +kernel
theorem dX5_isDear_19 : decode cX5_isDear 19 = .ok (.iload_n 1, 1) := by decide +kernel
theorem dX5_isDear_20 : decode cX5_isDear 20 = .ok (.aload_n 0, 1) := by decide +kernel
theorem dX5_isDear_21 : decode cX5_isDear 21 = .ok (.getfield 15, 3) := by decide +kernel
theorem dX5_isDear_24 : decode cX5_isDear 24 = .ok (.iload_n 2, 1) := by decide +kernel
theorem dX5_isDear_25 : decode cX5_isDear 25 = .ok (.iaload, 1) := by decide +kernel
theorem dX5_isDear_26 : decode cX5_isDear 26 = .ok (.iconst 1, 1) := by decide +kernel
theorem dX5_isDear_27 : decode cX5_isDear 27 = .ok (.iadd, 1) := by decide +kernel
theorem dX5_isDear_28 : decode cX5_isDear 28 = .ok (.imul, 1) := by decide +kernel
theorem dX5_isDear_29 : decode cX5_isDear 29 = .ok (.istore_n 1, 1) := by decide +kernel
theorem dX5_isDear_30 : decode cX5_isDear 30 = .ok (.iinc 2 1, 3) := by decide +kernel
theorem dX5_isDear_33 : decode cX5_isDear 33 = .ok (.goto (-29), 3) := by decide +kernel
theorem dX5_isDear_36 : decode cX5_isDear 36 = .ok (.iload_n 1, 1) := by decide +kernel
theorem dX5_isDear_37 : decode cX5_isDear 37 = .ok (.sipush 20000, 3) := by decide +kernel
theorem dX5_isDear_40 : decode cX5_isDear 40 = .ok (.if_icmp .le 7, 3) := by decide +kernel
theorem dX5_isDear_43 : decode cX5_isDear 43 = .ok (.iconst 1, 1) := by decide +kernel
theorem dX5_isDear_44 : decode cX5_isDear 44 = .ok (.goto 4, 3) := by decide +kernel
theorem dX5_isDear_47 : decode cX5_isDear 47 = .ok (.iconst 0, 1) := by decide +kernel
theorem dX5_isDear_48 : decode cX5_isDear 48 = .ok (.ireturn, 1) := by decide +kernel
theorem dX5_turnedAt_0 : decode cX5_turnedAt 0 = .ok (.aload_n 0, 1) := by decide +kernel
theorem dX5_turnedAt_1 : decode cX5_turnedAt 1 = .ok (.getfield 15, 3) := by decide +kernel
theorem dX5_turnedAt_4 : decode cX5_turnedAt 4 = .ok (.iload_n 2, 1) := by decide +kernel
theorem dX5_turnedAt_5 : decode cX5_turnedAt 5 = .ok (.iload_n 1, 1) := by decide +kernel
theorem dX5_turnedAt_6 : decode cX5_turnedAt 6 = .ok (.if_icmp .ge 14, 3) := by decide +kernel
theorem dX5_turnedAt_9 : decode cX5_turnedAt 9 = .ok (.iload_n 2, 1) := by decide +kernel
theorem dX5_turnedAt_10 : decode cX5_turnedAt 10 = .ok (.iload_n 1, 1) := by decide +kernel
theorem dX5_turnedAt_11 : decode cX5_turnedAt 11 = .ok (.isub, 1) := by decide +kernel
theorem dX5_turnedAt_12 : decode cX5_turnedAt 12 = .ok (.aload_n 0, 1) := by decide +kernel
theorem dX5_turnedAt_13 : decode cX5_turnedAt 13 = .ok (.getfield 9, 3) := by decide +kernel
theorem dX5_turnedAt_16 : decode cX5_turnedAt 16 = .ok (.iadd, 1) := by decide +kernel
theorem dX5_turnedAt_17 : decode cX5_turnedAt 17 = .ok (.goto 6, 3) := by decide +kernel
theorem dX5_turnedAt_20 : decode cX5_turnedAt 20 = .ok (.iload_n 2, 1) := by decide +kernel
theorem dX5_turnedAt_21 : decode cX5_turnedAt 21 = .ok (.iload_n 1, 1) := by decide +kernel
theorem dX5_turnedAt_22 : decode cX5_turnedAt 22 = .ok (.isub, 1) := by decide +kernel
theorem dX5_turnedAt_23 : decode cX5_turnedAt 23 = .ok (.iaload, 1) := by decide +kernel
theorem dX5_turnedAt_24 : decode cX5_turnedAt 24 = .ok (.ireturn, 1) := by decide +kernel
theorem dX5_compareTurned_0 : decode cX5_compareTurned 0 = .ok (.iconst 0, 1) := by decide +kernel
theorem dX5_compareTurned_1 : decode cX5_compareTurned 1 = .ok (.istore_n 3, 1) := by decide +kernel
theorem dX5_compareTurned_2 : decode cX5_compareTurned 2 = .ok (.iload_n 3, 1) := by decide +kernel
theorem dX5_compareTurned_3 : decode cX5_compareTurned 3 = .ok (.aload_n 0, 1) := by decide +kernel
theorem dX5_compareTurned_4 : decode cX5_compareTurned 4 = .ok (.getfield 9, 3) := by decide +kernel
theorem dX5_compareTurned_7 : decode cX5_compareTurned 7 = .ok (.if_icmp .ge 32, 3) := by decide +kernel
theorem dX5_compareTurned_10 : decode cX5_compareTurned 10 = .ok (.aload_n 0, 1) := by decide +kernel
theorem dX5_compareTurned_11 : decode cX5_compareTurned 11 = .ok (.iload_n 1, 1) := by decide +kernel
theorem dX5_compareTurned_12 : decode cX5_compareTurned 12 = .ok (.iload_n 3, 1) := by decide +kernel
theorem dX5_compareTurned_13 : decode cX5_compareTurned 13 = .ok (.invokevirtual 31, 3) := by decide +kernel
theorem dX5_compareTurned_16 : decode cX5_compareTurned 16 = .ok (.aload_n 0, 1) := by decide +kernel
theorem dX5_compareTurned_17 : decode cX5_compareTurned 17 = .ok (.iload_n 2, 1) := by decide +kernel
theorem dX5_compareTurned_18 : decode cX5_compareTurned 18 = .ok (.iload_n 3, 1) := by decide +kernel
theorem dX5_compareTurned_19 : decode cX5_compareTurned 19 = .ok (.invokevirtual 31, 3) := by decide +kernel
theorem dX5_compareTurned_22 : decode cX5_compareTurned 22 = .ok (.isub, 1) := by decide +kernel
theorem dX5_compareTurned_23 : decode cX5_compareTurned 23 = .ok (.istore 4, 2) := by decide +kernel
theorem dX5_compareTurned_25 : decode cX5_compareTurned 25 = .ok (.iload 4, 2) := by decide +kernel
theorem dX5_compareTurned_27 : decode cX5_compareTurned 27 = .ok (.ifCond .eq 6, 3) := by decide +kernel
theorem dX5_compareTurned_30 : decode cX5_compareTurned 30 = .ok (.iload 4, 2) := by decide +kernel
theorem dX5_compareTurned_32 : decode cX5_compareTurned 32 = .ok (.ireturn, 1) := by decide +kernel
theorem dX5_compareTurned_33 : decode cX5_compareTurned 33 = .ok (.iinc 3 1, 3) := by decide +kernel
theorem dX5_compareTurned_36 : decode cX5_compareTurned 36 = .ok (.goto (-34), 3) := by decide +kernel
theorem dX5_compareTurned_39 : decode cX5_compareTurned 39 = .ok (.iconst 0, 1) := by decide +kernel
theorem dX5_compareTurned_40 : decode cX5_compareTurned 40 = .ok (.ireturn, 1) := by decide +kernel
theorem dX5_isToldTurned_0 : decode cX5_isToldTurned 0 = .ok (.iconst 0, 1) := by decide +kernel
theorem dX5_isToldTurned_1 : decode cX5_isToldTurned 1 = .ok (.istore_n 3, 1) := by decide +kernel
theorem dX5_isToldTurned_2 : decode cX5_isToldTurned 2 = .ok (.iload_n 3, 1) := by decide +kernel
theorem dX5_isToldTurned_3 : decode cX5_isToldTurned 3 = .ok (.aload_n 0, 1) := by decide +kernel
theorem dX5_isToldTurned_4 : decode cX5_isToldTurned 4 = .ok (.getfield 9, 3) := by decide +kernel
theorem dX5_isToldTurned_7 : decode cX5_isToldTurned 7 = .ok (.if_icmp .ge 25, 3) := by decide +kernel
theorem dX5_isToldTurned_10 : decode cX5_isToldTurned 10 = .ok (.aload_n 0, 1) := by decide +kernel
theorem dX5_isToldTurned_11 : decode cX5_isToldTurned 11 = .ok (.iload_n 1, 1) := by decide +kernel
theorem dX5_isToldTurned_12 : decode cX5_isToldTurned 12 = .ok (.iload_n 3, 1) := by decide +kernel
theorem dX5_isToldTurned_13 : decode cX5_isToldTurned 13 = .ok (.invokevirtual 31, 3) := by decide +kernel
theorem dX5_isToldTurned_16 : decode cX5_isToldTurned 16 = .ok (.i2l, 1) := by decide +kernel
theorem dX5_isToldTurned_17 : decode cX5_isToldTurned 17 = .ok (.aload_n 2, 1) := by decide +kernel
theorem dX5_isToldTurned_18 : decode cX5_isToldTurned 18 = .ok (.iload_n 3, 1) := by decide +kernel
theorem dX5_isToldTurned_19 : decode cX5_isToldTurned 19 = .ok (.laload, 1) := by decide +kernel
theorem dX5_isToldTurned_20 : decode cX5_isToldTurned 20 = .ok (.lcmp, 1) := by decide +kernel
theorem dX5_isToldTurned_21 : decode cX5_isToldTurned 21 = .ok (.ifCond .eq 5, 3) := by decide +kernel
theorem dX5_isToldTurned_24 : decode cX5_isToldTurned 24 = .ok (.iconst 0, 1) := by decide +kernel
theorem dX5_isToldTurned_25 : decode cX5_isToldTurned 25 = .ok (.ireturn, 1) := by decide +kernel
theorem dX5_isToldTurned_26 : decode cX5_isToldTurned 26 = .ok (.iinc 3 1, 3) := by decide +kernel
theorem dX5_isToldTurned_29 : decode cX5_isToldTurned 29 = .ok (.goto (-27), 3) := by decide +kernel
theorem dX5_isToldTurned_32 : decode cX5_isToldTurned 32 = .ok (.iconst 1, 1) := by decide +kernel
theorem dX5_isToldTurned_33 : decode cX5_isToldTurned 33 = .ok (.ireturn, 1) := by decide +kernel
theorem dX6_init_0 : decode cX6_init 0 = .ok (.aload_n 0, 1) := by decide +kernel
theorem dX6_init_1 : decode cX6_init 1 = .ok (.invokespecial 3, 3) := by decide +kernel
theorem dX6_init_4 : decode cX6_init 4 = .ok (.aload_n 0, 1) := by decide +kernel
theorem dX6_init_5 : decode cX6_init 5 = .ok (.bipush 8, 2) := by decide +kernel
theorem dX6_init_7 : decode cX6_init 7 = .ok (.anewarray 9, 3) := by decide +kernel
theorem dX6_init_10 : decode cX6_init 10 = .ok (.putfield 11, 3) := by decide +kernel
theorem dX6_init_13 : decode cX6_init 13 = .ok (.iconst 0, 1) := by decide +kernel
theorem dX6_init_14 : decode cX6_init 14 = .ok (.istore_n 1, 1) := by decide +kernel
theorem dX6_init_15 : decode cX6_init 15 = .ok (.iload_n 1, 1) := by decide +kernel
theorem dX6_init_16 : decode cX6_init 16 = .ok (.bipush 8, 2) := by decide +kernel
theorem dX6_init_18 : decode cX6_init 18 = .ok (.if_icmp .ge 22, 3) := by decide +kernel
theorem dX6_init_21 : decode cX6_init 21 = .ok (.aload_n 0, 1) := by decide +kernel
theorem dX6_init_22 : decode cX6_init 22 = .ok (.getfield 11, 3) := by decide +kernel
theorem dX6_init_25 : decode cX6_init 25 = .ok (.iload_n 1, 1) := by decide +kernel
theorem dX6_init_26 : decode cX6_init 26 = .ok (.new 9, 3) := by decide +kernel
theorem dX6_init_29 : decode cX6_init 29 = .ok (.dup, 1) := by decide +kernel
theorem dX6_init_30 : decode cX6_init 30 = .ok (.invokespecial 17, 3) := by decide +kernel
theorem dX6_init_33 : decode cX6_init 33 = .ok (.aastore, 1) := by decide +kernel
theorem dX6_init_34 : decode cX6_init 34 = .ok (.iinc 1 1, 3) := by decide +kernel
theorem dX6_init_37 : decode cX6_init 37 = .ok (.goto (-22), 3) := by decide +kernel
theorem dX6_init_40 : decode cX6_init 40 = .ok (.return_, 1) := by decide +kernel
theorem dX6_has_0 : decode cX6_has 0 = .ok (.iload_n 1, 1) := by decide +kernel
theorem dX6_has_1 : decode cX6_has 1 = .ok (.ifCond .lt 15, 3) := by decide +kernel
theorem dX6_has_4 : decode cX6_has 4 = .ok (.iload_n 1, 1) := by decide +kernel
theorem dX6_has_5 : decode cX6_has 5 = .ok (.aload_n 0, 1) := by decide +kernel
theorem dX6_has_6 : decode cX6_has 6 = .ok (.getfield 18, 3) := by decide +kernel
theorem dX6_has_9 : decode cX6_has 9 = .ok (.if_icmp .ge 7, 3) := by decide +kernel
theorem dX6_has_12 : decode cX6_has 12 = .ok (.iconst 1, 1) := by decide +kernel
theorem dX6_has_13 : decode cX6_has 13 = .ok (.goto 4, 3) := by decide +kernel
theorem dX6_has_16 : decode cX6_has 16 = .ok (.iconst 0, 1) := by decide +kernel
theorem dX6_has_17 : decode cX6_has 17 = .ok (.ireturn, 1) := by decide +kernel
theorem dX6_append_0 : decode cX6_append 0 = .ok (.aload_n 0, 1) := by decide +kernel
theorem dX6_append_1 : decode cX6_append 1 = .ok (.getfield 18, 3) := by decide +kernel
theorem dX6_append_4 : decode cX6_append 4 = .ok (.bipush 8, 2) := by decide +kernel
theorem dX6_append_6 : decode cX6_append 6 = .ok (.if_icmp .ge 26, 3) := by decide +kernel
theorem dX6_append_9 : decode cX6_append 9 = .ok (.aload_n 0, 1) := by decide +kernel
theorem dX6_append_10 : decode cX6_append 10 = .ok (.getfield 11, 3) := by decide +kernel
theorem dX6_append_13 : decode cX6_append 13 = .ok (.aload_n 0, 1) := by decide +kernel
theorem dX6_append_14 : decode cX6_append 14 = .ok (.getfield 18, 3) := by decide +kernel
theorem dX6_append_17 : decode cX6_append 17 = .ok (.aaload, 1) := by decide +kernel
theorem dX6_append_18 : decode cX6_append 18 = .ok (.aload_n 1, 1) := by decide +kernel
theorem dX6_append_19 : decode cX6_append 19 = .ok (.invokevirtual 22, 3) := by decide +kernel
theorem dX6_append_22 : decode cX6_append 22 = .ok (.aload_n 0, 1) := by decide +kernel
theorem dX6_append_23 : decode cX6_append 23 = .ok (.dup, 1) := by decide +kernel
theorem dX6_append_24 : decode cX6_append 24 = .ok (.getfield 18, 3) := by decide +kernel
theorem dX6_append_27 : decode cX6_append 27 = .ok (.iconst 1, 1) := by decide +kernel
theorem dX6_append_28 : decode cX6_append 28 = .ok (.iadd, 1) := by decide +kernel
theorem dX6_append_29 : decode cX6_append 29 = .ok (.putfield 18, 3) := by decide +kernel
theorem dX6_append_32 : decode cX6_append 32 = .ok (.return_, 1) := by decide +kernel
theorem dX6_remove_0 : decode cX6_remove 0 = .ok (.aload_n 0, 1) := by decide +kernel
theorem dX6_remove_1 : decode cX6_remove 1 = .ok (.iload_n 1, 1) := by decide +kernel
theorem dX6_remove_2 : decode cX6_remove 2 = .ok (.invokevirtual 26, 3) := by decide +kernel
theorem dX6_remove_5 : decode cX6_remove 5 = .ok (.ifCond .eq 48, 3) := by decide +kernel
theorem dX6_remove_8 : decode cX6_remove 8 = .ok (.iload_n 1, 1) := by decide +kernel
theorem dX6_remove_9 : decode cX6_remove 9 = .ok (.istore_n 2, 1) := by decide +kernel
theorem dX6_remove_10 : decode cX6_remove 10 = .ok (.iload_n 2, 1) := by decide +kernel
theorem dX6_remove_11 : decode cX6_remove 11 = .ok (.iconst 1, 1) := by decide +kernel
theorem dX6_remove_12 : decode cX6_remove 12 = .ok (.iadd, 1) := by decide +kernel
theorem dX6_remove_13 : decode cX6_remove 13 = .ok (.aload_n 0, 1) := by decide +kernel
theorem dX6_remove_14 : decode cX6_remove 14 = .ok (.getfield 18, 3) := by decide +kernel
theorem dX6_remove_17 : decode cX6_remove 17 = .ok (.if_icmp .ge 26, 3) := by decide +kernel
theorem dX6_remove_20 : decode cX6_remove 20 = .ok (.aload_n 0, 1) := by decide +kernel
theorem dX6_remove_21 : decode cX6_remove 21 = .ok (.getfield 11, 3) := by decide +kernel
theorem dX6_remove_24 : decode cX6_remove 24 = .ok (.iload_n 2, 1) := by decide +kernel
theorem dX6_remove_25 : decode cX6_remove 25 = .ok (.aaload, 1) := by decide +kernel
theorem dX6_remove_26 : decode cX6_remove 26 = .ok (.aload_n 0, 1) := by decide +kernel
theorem dX6_remove_27 : decode cX6_remove 27 = .ok (.getfield 11, 3) := by decide +kernel
theorem dX6_remove_30 : decode cX6_remove 30 = .ok (.iload_n 2, 1) := by decide +kernel
theorem dX6_remove_31 : decode cX6_remove 31 = .ok (.iconst 1, 1) := by decide +kernel
theorem dX6_remove_32 : decode cX6_remove 32 = .ok (.iadd, 1) := by decide +kernel
theorem dX6_remove_33 : decode cX6_remove 33 = .ok (.aaload, 1) := by decide +kernel
theorem dX6_remove_34 : decode cX6_remove 34 = .ok (.invokevirtual 22, 3) := by decide +kernel
theorem dX6_remove_37 : decode cX6_remove 37 = .ok (.iinc 2 1, 3) := by decide +kernel
theorem dX6_remove_40 : decode cX6_remove 40 = .ok (.goto (-30), 3) := by decide +kernel
theorem dX6_remove_43 : decode cX6_remove 43 = .ok (.aload_n 0, 1) := by decide +kernel
theorem dX6_remove_44 : decode cX6_remove 44 = .ok (.dup, 1) := by decide +kernel
theorem dX6_remove_45 : decode cX6_remove 45 = .ok (.getfield 18, 3) := by decide +kernel
theorem dX6_remove_48 : decode cX6_remove 48 = .ok (.iconst 1, 1) := by decide +kernel
theorem dX6_remove_49 : decode cX6_remove 49 = .ok (.isub, 1) := by decide +kernel
theorem dX6_remove_50 : decode cX6_remove 50 = .ok (.putfield 18, 3) := by decide +kernel
theorem dX6_remove_53 : decode cX6_remove 53 = .ok (.return_, 1) := by decide +kernel
theorem dX6_become_0 : decode cX6_become 0 = .ok (.aload_n 0, 1) := by decide +kernel
theorem dX6_become_1 : decode cX6_become 1 = .ok (.aload_n 1, 1) := by decide +kernel
theorem dX6_become_2 : decode cX6_become 2 = .ok (.getfield 18, 3) := by decide +kernel
theorem dX6_become_5 : decode cX6_become 5 = .ok (.putfield 18, 3) := by decide +kernel
theorem dX6_become_8 : decode cX6_become 8 = .ok (.iconst 0, 1) := by decide +kernel
theorem dX6_become_9 : decode cX6_become 9 = .ok (.istore_n 2, 1) := by decide +kernel
theorem dX6_become_10 : decode cX6_become 10 = .ok (.iload_n 2, 1) := by decide +kernel
theorem dX6_become_11 : decode cX6_become 11 = .ok (.aload_n 0, 1) := by decide +kernel
theorem dX6_become_12 : decode cX6_become 12 = .ok (.getfield 18, 3) := by decide +kernel
theorem dX6_become_15 : decode cX6_become 15 = .ok (.if_icmp .ge 24, 3) := by decide +kernel
theorem dX6_become_18 : decode cX6_become 18 = .ok (.aload_n 0, 1) := by decide +kernel
theorem dX6_become_19 : decode cX6_become 19 = .ok (.getfield 11, 3) := by decide +kernel
theorem dX6_become_22 : decode cX6_become 22 = .ok (.iload_n 2, 1) := by decide +kernel
theorem dX6_become_23 : decode cX6_become 23 = .ok (.aaload, 1) := by decide +kernel
theorem dX6_become_24 : decode cX6_become 24 = .ok (.aload_n 1, 1) := by decide +kernel
theorem dX6_become_25 : decode cX6_become 25 = .ok (.getfield 11, 3) := by decide +kernel
theorem dX6_become_28 : decode cX6_become 28 = .ok (.iload_n 2, 1) := by decide +kernel
theorem dX6_become_29 : decode cX6_become 29 = .ok (.aaload, 1) := by decide +kernel
theorem dX6_become_30 : decode cX6_become 30 = .ok (.invokevirtual 22, 3) := by decide +kernel
theorem dX6_become_33 : decode cX6_become 33 = .ok (.iinc 2 1, 3) := by decide +kernel
theorem dX6_become_36 : decode cX6_become 36 = .ok (.goto (-26), 3) := by decide +kernel
theorem dX6_become_39 : decode cX6_become 39 = .ok (.return_, 1) := by decide +kernel
theorem dX7_init_0 : decode cX7_init 0 = .ok (.aload_n 0, 1) := by decide +kernel
theorem dX7_init_1 : decode cX7_init 1 = .ok (.invokespecial 3, 3) := by decide +kernel
theorem dX7_init_4 : decode cX7_init 4 = .ok (.aload_n 0, 1) := by decide +kernel
theorem dX7_init_5 : decode cX7_init 5 = .ok (.sipush 160, 3) := by decide +kernel
theorem dX7_init_8 : decode cX7_init 8 = .ok (.newarray .int, 2) := by decide +kernel
theorem dX7_init_10 : decode cX7_init 10 = .ok (.putfield 9, 3) := by decide +kernel
theorem dX7_init_13 : decode cX7_init 13 = .ok (.return_, 1) := by decide +kernel
theorem dX7_spell_0 : decode cX7_spell 0 = .ok (.aload_n 0, 1) := by decide +kernel
theorem dX7_spell_1 : decode cX7_spell 1 = .ok (.iconst 0, 1) := by decide +kernel
theorem dX7_spell_2 : decode cX7_spell 2 = .ok (.putfield 15, 3) := by decide +kernel
theorem dX7_spell_5 : decode cX7_spell 5 = .ok (.aload_n 0, 1) := by decide +kernel
theorem dX7_spell_6 : decode cX7_spell 6 = .ok (.aload_n 1, 1) := by decide +kernel
theorem dX7_spell_7 : decode cX7_spell 7 = .ok (.getfield 19, 3) := by decide +kernel
theorem dX7_spell_10 : decode cX7_spell 10 = .ok (.invokevirtual 24, 3) := by decide +kernel
theorem dX7_spell_13 : decode cX7_spell 13 = .ok (.aload_n 0, 1) := by decide +kernel
theorem dX7_spell_14 : decode cX7_spell 14 = .ok (.bipush 58, 2) := by decide +kernel
theorem dX7_spell_16 : decode cX7_spell 16 = .ok (.invokevirtual 28, 3) := by decide +kernel
theorem dX7_spell_19 : decode cX7_spell 19 = .ok (.iconst 0, 1) := by decide +kernel
theorem dX7_spell_20 : decode cX7_spell 20 = .ok (.istore_n 2, 1) := by decide +kernel
theorem dX7_spell_21 : decode cX7_spell 21 = .ok (.iconst 0, 1) := by decide +kernel
theorem dX7_spell_22 : decode cX7_spell 22 = .ok (.istore_n 3, 1) := by decide +kernel
theorem dX7_spell_23 : decode cX7_spell 23 = .ok (.iload_n 3, 1) := by decide +kernel
theorem dX7_spell_24 : decode cX7_spell 24 = .ok (.aload_n 1, 1) := by decide +kernel
theorem dX7_spell_25 : decode cX7_spell 25 = .ok (.getfield 19, 3) := by decide +kernel
theorem dX7_spell_28 : decode cX7_spell 28 = .ok (.if_icmp .ge 41, 3) := by decide +kernel
theorem dX7_spell_31 : decode cX7_spell 31 = .ok (.aload_n 1, 1) := by decide +kernel
theorem dX7_spell_32 : decode cX7_spell 32 = .ok (.getfield 31, 3) := by decide +kernel
theorem dX7_spell_35 : decode cX7_spell 35 = .ok (.iload_n 3, 1) := by decide +kernel
theorem dX7_spell_36 : decode cX7_spell 36 = .ok (.iaload, 1) := by decide +kernel
theorem dX7_spell_37 : decode cX7_spell 37 = .ok (.ifCond .le 26, 3) := by decide +kernel
theorem dX7_spell_40 : decode cX7_spell 40 = .ok (.iload_n 2, 1) := by decide +kernel
theorem dX7_spell_41 : decode cX7_spell 41 = .ok (.ifCond .eq 9, 3) := by decide +kernel
theorem dX7_spell_44 : decode cX7_spell 44 = .ok (.aload_n 0, 1) := by decide +kernel
theorem dX7_spell_45 : decode cX7_spell 45 = .ok (.bipush 44, 2) := by decide +kernel
theorem dX7_spell_47 : decode cX7_spell 47 = .ok (.invokevirtual 28, 3) := by decide +kernel
theorem dX7_spell_50 : decode cX7_spell 50 = .ok (.iconst 1, 1) := by decide +kernel
theorem dX7_spell_51 : decode cX7_spell 51 = .ok (.istore_n 2, 1) := by decide +kernel
theorem dX7_spell_52 : decode cX7_spell 52 = .ok (.aload_n 0, 1) := by decide +kernel
theorem dX7_spell_53 : decode cX7_spell 53 = .ok (.iload_n 3, 1) := by decide +kernel
theorem dX7_spell_54 : decode cX7_spell 54 = .ok (.aload_n 1, 1) := by decide +kernel
theorem dX7_spell_55 : decode cX7_spell 55 = .ok (.getfield 31, 3) := by decide +kernel
theorem dX7_spell_58 : decode cX7_spell 58 = .ok (.iload_n 3, 1) := by decide +kernel
theorem dX7_spell_59 : decode cX7_spell 59 = .ok (.iaload, 1) := by decide +kernel
theorem dX7_spell_60 : decode cX7_spell 60 = .ok (.invokevirtual 34, 3) := by decide +kernel
theorem dX7_spell_63 : decode cX7_spell 63 = .ok (.iinc 3 1, 3) := by decide +kernel
theorem dX7_spell_66 : decode cX7_spell 66 = .ok (.goto (-43), 3) := by decide +kernel
theorem dX7_spell_69 : decode cX7_spell 69 = .ok (.return_, 1) := by decide +kernel
theorem dX7_item_0 : decode cX7_item 0 = .ok (.aload_n 0, 1) := by decide +kernel
theorem dX7_item_1 : decode cX7_item 1 = .ok (.iload_n 1, 1) := by decide +kernel
theorem dX7_item_2 : decode cX7_item 2 = .ok (.invokevirtual 24, 3) := by decide +kernel
theorem dX7_item_5 : decode cX7_item 5 = .ok (.iload_n 2, 1) := by decide +kernel
theorem dX7_item_6 : decode cX7_item 6 = .ok (.iconst 1, 1) := by decide +kernel
theorem dX7_item_7 : decode cX7_item 7 = .ok (.if_icmp .le 14, 3) := by decide +kernel
theorem dX7_item_10 : decode cX7_item 10 = .ok (.aload_n 0, 1) := by decide +kernel
theorem dX7_item_11 : decode cX7_item 11 = .ok (.bipush 120, 2) := by decide +kernel
theorem dX7_item_13 : decode cX7_item 13 = .ok (.invokevirtual 28, 3) := by decide +kernel
theorem dX7_item_16 : decode cX7_item 16 = .ok (.aload_n 0, 1) := by decide +kernel
theorem dX7_item_17 : decode cX7_item 17 = .ok (.iload_n 2, 1) := by decide +kernel
theorem dX7_item_18 : decode cX7_item 18 = .ok (.invokevirtual 24, 3) := by decide +kernel
theorem dX7_item_21 : decode cX7_item 21 = .ok (.return_, 1) := by decide +kernel
theorem dX7_number_0 : decode cX7_number 0 = .ok (.iload_n 1, 1) := by decide +kernel
theorem dX7_number_1 : decode cX7_number 1 = .ok (.bipush 9, 2) := by decide +kernel
theorem dX7_number_3 : decode cX7_number 3 = .ok (.if_icmp .le 14, 3) := by decide +kernel
theorem dX7_number_6 : decode cX7_number 6 = .ok (.aload_n 0, 1) := by decide +kernel
theorem dX7_number_7 : decode cX7_number 7 = .ok (.bipush 48, 2) := by decide +kernel
theorem dX7_number_9 : decode cX7_number 9 = .ok (.iload_n 1, 1) := by decide +kernel
theorem dX7_number_10 : decode cX7_number 10 = .ok (.bipush 10, 2) := by decide +kernel
theorem dX7_number_12 : decode cX7_number 12 = .ok (.idiv, 1) := by decide +kernel
theorem dX7_number_13 : decode cX7_number 13 = .ok (.iadd, 1) := by decide +kernel
theorem dX7_number_14 : decode cX7_number 14 = .ok (.invokevirtual 28, 3) := by decide +kernel
theorem dX7_number_17 : decode cX7_number 17 = .ok (.aload_n 0, 1) := by decide +kernel
theorem dX7_number_18 : decode cX7_number 18 = .ok (.bipush 48, 2) := by decide +kernel
theorem dX7_number_20 : decode cX7_number 20 = .ok (.iload_n 1, 1) := by decide +kernel
theorem dX7_number_21 : decode cX7_number 21 = .ok (.bipush 10, 2) := by decide +kernel
theorem dX7_number_23 : decode cX7_number 23 = .ok (.irem, 1) := by decide +kernel
theorem dX7_number_24 : decode cX7_number 24 = .ok (.iadd, 1) := by decide +kernel
theorem dX7_number_25 : decode cX7_number 25 = .ok (.invokevirtual 28, 3) := by decide +kernel
theorem dX7_number_28 : decode cX7_number 28 = .ok (.return_, 1) := by decide +kernel
theorem dX7_append_0 : decode cX7_append 0 = .ok (.aload_n 0, 1) := by decide +kernel
theorem dX7_append_1 : decode cX7_append 1 = .ok (.getfield 15, 3) := by decide +kernel
theorem dX7_append_4 : decode cX7_append 4 = .ok (.sipush 160, 3) := by decide +kernel
theorem dX7_append_7 : decode cX7_append 7 = .ok (.if_icmp .ge 23, 3) := by decide +kernel
theorem dX7_append_10 : decode cX7_append 10 = .ok (.aload_n 0, 1) := by decide +kernel
theorem dX7_append_11 : decode cX7_append 11 = .ok (.getfield 9, 3) := by decide +kernel
theorem dX7_append_14 : decode cX7_append 14 = .ok (.aload_n 0, 1) := by decide +kernel
theorem dX7_append_15 : decode cX7_append 15 = .ok (.getfield 15, 3) := by decide +kernel
theorem dX7_append_18 : decode cX7_append 18 = .ok (.iload_n 1, 1) := by decide +kernel
theorem dX7_append_19 : decode cX7_append 19 = .ok (.iastore, 1) := by decide +kernel
theorem dX7_append_20 : decode cX7_append 20 = .ok (.aload_n 0, 1) := by decide +kernel
theorem dX7_append_21 : decode cX7_append 21 = .ok (.dup, 1) := by decide +kernel
theorem dX7_append_22 : decode cX7_append 22 = .ok (.getfield 15, 3) := by decide +kernel
theorem dX7_append_25 : decode cX7_append 25 = .ok (.iconst 1, 1) := by decide +kernel
theorem dX7_append_26 : decode cX7_append 26 = .ok (.iadd, 1) := by decide +kernel
theorem dX7_append_27 : decode cX7_append 27 = .ok (.putfield 15, 3) := by decide +kernel
theorem dX7_append_30 : decode cX7_append 30 = .ok (.return_, 1) := by decide +kernel
theorem dX8_init_0 : decode cX8_init 0 = .ok (.aload_n 0, 1) := by decide +kernel
theorem dX8_init_1 : decode cX8_init 1 = .ok (.invokespecial 3, 3) := by decide +kernel
theorem dX8_init_4 : decode cX8_init 4 = .ok (.aload_n 0, 1) := by decide +kernel
theorem dX8_init_5 : decode cX8_init 5 = .ok (.new 9, 3) := by decide +kernel
theorem dX8_init_8 : decode cX8_init 8 = .ok (.dup, 1) := by decide +kernel
theorem dX8_init_9 : decode cX8_init 9 = .ok (.invokespecial 11, 3) := by decide +kernel
theorem dX8_init_12 : decode cX8_init 12 = .ok (.putfield 12, 3) := by decide +kernel
theorem dX8_init_15 : decode cX8_init 15 = .ok (.aload_n 0, 1) := by decide +kernel
theorem dX8_init_16 : decode cX8_init 16 = .ok (.new 18, 3) := by decide +kernel
theorem dX8_init_19 : decode cX8_init 19 = .ok (.dup, 1) := by decide +kernel
theorem dX8_init_20 : decode cX8_init 20 = .ok (.invokespecial 20, 3) := by decide +kernel
theorem dX8_init_23 : decode cX8_init 23 = .ok (.putfield 21, 3) := by decide +kernel
theorem dX8_init_26 : decode cX8_init 26 = .ok (.aload_n 0, 1) := by decide +kernel
theorem dX8_init_27 : decode cX8_init 27 = .ok (.iconst 2, 1) := by decide +kernel
theorem dX8_init_28 : decode cX8_init 28 = .ok (.anewarray 25, 3) := by decide +kernel
theorem dX8_init_31 : decode cX8_init 31 = .ok (.dup, 1) := by decide +kernel
theorem dX8_init_32 : decode cX8_init 32 = .ok (.iconst 0, 1) := by decide +kernel
theorem dX8_init_33 : decode cX8_init 33 = .ok (.new 25, 3) := by decide +kernel
theorem dX8_init_36 : decode cX8_init 36 = .ok (.dup, 1) := by decide +kernel
theorem dX8_init_37 : decode cX8_init 37 = .ok (.invokespecial 27, 3) := by decide +kernel
theorem dX8_init_40 : decode cX8_init 40 = .ok (.aastore, 1) := by decide +kernel
theorem dX8_init_41 : decode cX8_init 41 = .ok (.dup, 1) := by decide +kernel
theorem dX8_init_42 : decode cX8_init 42 = .ok (.iconst 1, 1) := by decide +kernel
theorem dX8_init_43 : decode cX8_init 43 = .ok (.new 25, 3) := by decide +kernel
theorem dX8_init_46 : decode cX8_init 46 = .ok (.dup, 1) := by decide +kernel
theorem dX8_init_47 : decode cX8_init 47 = .ok (.invokespecial 27, 3) := by decide +kernel
theorem dX8_init_50 : decode cX8_init 50 = .ok (.aastore, 1) := by decide +kernel
theorem dX8_init_51 : decode cX8_init 51 = .ok (.putfield 28, 3) := by decide +kernel
theorem dX8_init_54 : decode cX8_init 54 = .ok (.return_, 1) := by decide +kernel
theorem dX8_become_0 : decode cX8_become 0 = .ok (.aload_n 0, 1) := by decide +kernel
theorem dX8_become_1 : decode cX8_become 1 = .ok (.getfield 12, 3) := by decide +kernel
theorem dX8_become_4 : decode cX8_become 4 = .ok (.aload_n 1, 1) := by decide +kernel
theorem dX8_become_5 : decode cX8_become 5 = .ok (.getfield 12, 3) := by decide +kernel
theorem dX8_become_8 : decode cX8_become 8 = .ok (.invokevirtual 32, 3) := by decide +kernel
theorem dX8_become_11 : decode cX8_become 11 = .ok (.aload_n 0, 1) := by decide +kernel
theorem dX8_become_12 : decode cX8_become 12 = .ok (.getfield 21, 3) := by decide +kernel
theorem dX8_become_15 : decode cX8_become 15 = .ok (.aload_n 1, 1) := by decide +kernel
theorem dX8_become_16 : decode cX8_become 16 = .ok (.getfield 21, 3) := by decide +kernel
theorem dX8_become_19 : decode cX8_become 19 = .ok (.invokevirtual 36, 3) := by decide +kernel
theorem dX8_become_22 : decode cX8_become 22 = .ok (.iconst 0, 1) := by decide +kernel
theorem dX8_become_23 : decode cX8_become 23 = .ok (.istore_n 2, 1) := by decide +kernel
theorem dX8_become_24 : decode cX8_become 24 = .ok (.iload_n 2, 1) := by decide +kernel
theorem dX8_become_25 : decode cX8_become 25 = .ok (.iconst 2, 1) := by decide +kernel
theorem dX8_become_26 : decode cX8_become 26 = .ok (.if_icmp .ge 24, 3) := by decide +kernel
theorem dX8_become_29 : decode cX8_become 29 = .ok (.aload_n 0, 1) := by decide +kernel
theorem dX8_become_30 : decode cX8_become 30 = .ok (.getfield 28, 3) := by decide +kernel
theorem dX8_become_33 : decode cX8_become 33 = .ok (.iload_n 2, 1) := by decide +kernel
theorem dX8_become_34 : decode cX8_become 34 = .ok (.aaload, 1) := by decide +kernel
theorem dX8_become_35 : decode cX8_become 35 = .ok (.aload_n 1, 1) := by decide +kernel
theorem dX8_become_36 : decode cX8_become 36 = .ok (.getfield 28, 3) := by decide +kernel
theorem dX8_become_39 : decode cX8_become 39 = .ok (.iload_n 2, 1) := by decide +kernel
theorem dX8_become_40 : decode cX8_become 40 = .ok (.aaload, 1) := by decide +kernel
theorem dX8_become_41 : decode cX8_become 41 = .ok (.invokevirtual 39, 3) := by decide +kernel
theorem dX8_become_44 : decode cX8_become 44 = .ok (.iinc 2 1, 3) := by decide +kernel
theorem dX8_become_47 : decode cX8_become 47 = .ok (.goto (-23), 3) := by decide +kernel
theorem dX8_become_50 : decode cX8_become 50 = .ok (.return_, 1) := by decide +kernel
theorem dX9_init_0 : decode cX9_init 0 = .ok (.aload_n 0, 1) := by decide +kernel
theorem dX9_init_1 : decode cX9_init 1 = .ok (.invokespecial 3, 3) := by decide +kernel
theorem dX9_init_4 : decode cX9_init 4 = .ok (.aload_n 0, 1) := by decide +kernel
theorem dX9_init_5 : decode cX9_init 5 = .ok (.bipush 100, 2) := by decide +kernel
theorem dX9_init_7 : decode cX9_init 7 = .ok (.newarray .int, 2) := by decide +kernel
theorem dX9_init_9 : decode cX9_init 9 = .ok (.putfield 9, 3) := by decide +kernel
theorem dX9_init_12 : decode cX9_init 12 = .ok (.aload_n 0, 1) := by decide +kernel
theorem dX9_init_13 : decode cX9_init 13 = .ok (.new 15, 3) := by decide +kernel
theorem dX9_init_16 : decode cX9_init 16 = .ok (.dup, 1) := by decide +kernel
theorem dX9_init_17 : decode cX9_init 17 = .ok (.invokespecial 17, 3) := by decide +kernel
theorem dX9_init_20 : decode cX9_init 20 = .ok (.putfield 18, 3) := by decide +kernel
theorem dX9_init_23 : decode cX9_init 23 = .ok (.return_, 1) := by decide +kernel
theorem dX9_append_0 : decode cX9_append 0 = .ok (.aload_n 0, 1) := by decide +kernel
theorem dX9_append_1 : decode cX9_append 1 = .ok (.getfield 22, 3) := by decide +kernel
theorem dX9_append_4 : decode cX9_append 4 = .ok (.bipush 100, 2) := by decide +kernel
theorem dX9_append_6 : decode cX9_append 6 = .ok (.if_icmp .ge 23, 3) := by decide +kernel
theorem dX9_append_9 : decode cX9_append 9 = .ok (.aload_n 0, 1) := by decide +kernel
theorem dX9_append_10 : decode cX9_append 10 = .ok (.getfield 9, 3) := by decide +kernel
theorem dX9_append_13 : decode cX9_append 13 = .ok (.aload_n 0, 1) := by decide +kernel
theorem dX9_append_14 : decode cX9_append 14 = .ok (.getfield 22, 3) := by decide +kernel
theorem dX9_append_17 : decode cX9_append 17 = .ok (.iload_n 1, 1) := by decide +kernel
theorem dX9_append_18 : decode cX9_append 18 = .ok (.iastore, 1) := by decide +kernel
theorem dX9_append_19 : decode cX9_append 19 = .ok (.aload_n 0, 1) := by decide +kernel
theorem dX9_append_20 : decode cX9_append 20 = .ok (.dup, 1) := by decide +kernel
theorem dX9_append_21 : decode cX9_append 21 = .ok (.getfield 22, 3) := by decide +kernel
theorem dX9_append_24 : decode cX9_append 24 = .ok (.iconst 1, 1) := by decide +kernel
theorem dX9_append_25 : decode cX9_append 25 = .ok (.iadd, 1) := by decide +kernel
theorem dX9_append_26 : decode cX9_append 26 = .ok (.putfield 22, 3) := by decide +kernel
theorem dX9_append_29 : decode cX9_append 29 = .ok (.return_, 1) := by decide +kernel
theorem dX9_isWrong_0 : decode cX9_isWrong 0 = .ok (.aload_n 0, 1) := by decide +kernel
theorem dX9_isWrong_1 : decode cX9_isWrong 1 = .ok (.getfield 26, 3) := by decide +kernel
theorem dX9_isWrong_4 : decode cX9_isWrong 4 = .ok (.ireturn, 1) := by decide +kernel
theorem dX9_scan_0 : decode cX9_scan 0 = .ok (.aload_n 0, 1) := by decide +kernel
theorem dX9_scan_1 : decode cX9_scan 1 = .ok (.iconst 0, 1) := by decide +kernel
theorem dX9_scan_2 : decode cX9_scan 2 = .ok (.putfield 30, 3) := by decide +kernel
theorem dX9_scan_5 : decode cX9_scan 5 = .ok (.aload_n 0, 1) := by decide +kernel
theorem dX9_scan_6 : decode cX9_scan 6 = .ok (.invokevirtual 33, 3) := by decide +kernel
theorem dX9_scan_9 : decode cX9_scan 9 = .ok (.istore_n 1, 1) := by decide +kernel
theorem dX9_scan_10 : decode cX9_scan 10 = .ok (.iload_n 1, 1) := by decide +kernel
theorem dX9_scan_11 : decode cX9_scan 11 = .ok (.ifCond .lt 12, 3) := by decide +kernel
theorem dX9_scan_14 : decode cX9_scan 14 = .ok (.aload_n 0, 1) := by decide +kernel
theorem dX9_scan_15 : decode cX9_scan 15 = .ok (.bipush 58, 2) := by decide +kernel
theorem dX9_scan_17 : decode cX9_scan 17 = .ok (.invokevirtual 37, 3) := by decide +kernel
theorem dX9_scan_20 : decode cX9_scan 20 = .ok (.ifCond .ne 5, 3) := by decide +kernel
theorem dX9_scan_23 : decode cX9_scan 23 = .ok (.iconst 0, 1) := by decide +kernel
theorem dX9_scan_24 : decode cX9_scan 24 = .ok (.ireturn, 1) := by decide +kernel
theorem dX9_scan_25 : decode cX9_scan 25 = .ok (.aload_n 0, 1) := by decide +kernel
theorem dX9_scan_26 : decode cX9_scan 26 = .ok (.iload_n 1, 1) := by decide +kernel
theorem dX9_scan_27 : decode cX9_scan 27 = .ok (.invokestatic 41, 3) := by decide +kernel
theorem dX9_scan_30 : decode cX9_scan 30 = .ok (.ifCond .ne 7, 3) := by decide +kernel
theorem dX9_scan_33 : decode cX9_scan 33 = .ok (.iconst 1, 1) := by decide +kernel
theorem dX9_scan_34 : decode cX9_scan 34 = .ok (.goto 4, 3) := by decide +kernel
theorem dX9_scan_37 : decode cX9_scan 37 = .ok (.iconst 0, 1) := by decide +kernel
theorem dX9_scan_38 : decode cX9_scan 38 = .ok (.putfield 26, 3) := by decide +kernel
theorem dX9_scan_41 : decode cX9_scan 41 = .ok (.aload_n 0, 1) := by decide +kernel
theorem dX9_scan_42 : decode cX9_scan 42 = .ok (.getfield 18, 3) := by decide +kernel
theorem dX9_scan_45 : decode cX9_scan 45 = .ok (.aload_n 0, 1) := by decide +kernel
theorem dX9_scan_46 : decode cX9_scan 46 = .ok (.getfield 26, 3) := by decide +kernel
theorem dX9_scan_49 : decode cX9_scan 49 = .ok (.ifCond .eq 8, 3) := by decide +kernel
theorem dX9_scan_52 : decode cX9_scan 52 = .ok (.bipush 30, 2) := by decide +kernel
theorem dX9_scan_54 : decode cX9_scan 54 = .ok (.goto 4, 3) := by decide +kernel
theorem dX9_scan_57 : decode cX9_scan 57 = .ok (.iload_n 1, 1) := by decide +kernel
theorem dX9_scan_58 : decode cX9_scan 58 = .ok (.invokevirtual 45, 3) := by decide +kernel
theorem dX9_scan_61 : decode cX9_scan 61 = .ok (.aload_n 0, 1) := by decide +kernel
theorem dX9_scan_62 : decode cX9_scan 62 = .ok (.getfield 30, 3) := by decide +kernel
theorem dX9_scan_65 : decode cX9_scan 65 = .ok (.aload_n 0, 1) := by decide +kernel
theorem dX9_scan_66 : decode cX9_scan 66 = .ok (.getfield 22, 3) := by decide +kernel
theorem dX9_scan_69 : decode cX9_scan 69 = .ok (.if_icmp .ne 5, 3) := by decide +kernel
theorem dX9_scan_72 : decode cX9_scan 72 = .ok (.iconst 1, 1) := by decide +kernel
theorem dX9_scan_73 : decode cX9_scan 73 = .ok (.ireturn, 1) := by decide +kernel
theorem dX9_scan_74 : decode cX9_scan 74 = .ok (.iconst 0, 1) := by decide +kernel
theorem dX9_scan_75 : decode cX9_scan 75 = .ok (.istore_n 2, 1) := by decide +kernel
theorem dX9_scan_76 : decode cX9_scan 76 = .ok (.iload_n 2, 1) := by decide +kernel
theorem dX9_scan_77 : decode cX9_scan 77 = .ok (.bipush 100, 2) := by decide +kernel
theorem dX9_scan_79 : decode cX9_scan 79 = .ok (.if_icmp .ge 42, 3) := by decide +kernel
theorem dX9_scan_82 : decode cX9_scan 82 = .ok (.aload_n 0, 1) := by decide +kernel
theorem dX9_scan_83 : decode cX9_scan 83 = .ok (.invokevirtual 49, 3) := by decide +kernel
theorem dX9_scan_86 : decode cX9_scan 86 = .ok (.ifCond .ne 5, 3) := by decide +kernel
theorem dX9_scan_89 : decode cX9_scan 89 = .ok (.iconst 0, 1) := by decide +kernel
theorem dX9_scan_90 : decode cX9_scan 90 = .ok (.ireturn, 1) := by decide +kernel
theorem dX9_scan_91 : decode cX9_scan 91 = .ok (.aload_n 0, 1) := by decide +kernel
theorem dX9_scan_92 : decode cX9_scan 92 = .ok (.getfield 30, 3) := by decide +kernel
theorem dX9_scan_95 : decode cX9_scan 95 = .ok (.aload_n 0, 1) := by decide +kernel
theorem dX9_scan_96 : decode cX9_scan 96 = .ok (.getfield 22, 3) := by decide +kernel
theorem dX9_scan_99 : decode cX9_scan 99 = .ok (.if_icmp .ne 5, 3) := by decide +kernel
theorem dX9_scan_102 : decode cX9_scan 102 = .ok (.iconst 1, 1) := by decide +kernel
theorem dX9_scan_103 : decode cX9_scan 103 = .ok (.ireturn, 1) := by decide +kernel
theorem dX9_scan_104 : decode cX9_scan 104 = .ok (.aload_n 0, 1) := by decide +kernel
theorem dX9_scan_105 : decode cX9_scan 105 = .ok (.bipush 44, 2) := by decide +kernel
theorem dX9_scan_107 : decode cX9_scan 107 = .ok (.invokevirtual 37, 3) := by decide +kernel
theorem dX9_scan_110 : decode cX9_scan 110 = .ok (.ifCond .ne 5, 3) := by decide +kernel
theorem dX9_scan_113 : decode cX9_scan 113 = .ok (.iconst 0, 1) := by decide +kernel
theorem dX9_scan_114 : decode cX9_scan 114 = .ok (.ireturn, 1) := by decide +kernel
theorem dX9_scan_115 : decode cX9_scan 115 = .ok (.iinc 2 1, 3) := by decide +kernel
theorem dX9_scan_118 : decode cX9_scan 118 = .ok (.goto (-42), 3) := by decide +kernel
theorem dX9_scan_121 : decode cX9_scan 121 = .ok (.iconst 0, 1) := by decide +kernel
theorem dX9_scan_122 : decode cX9_scan 122 = .ok (.ireturn, 1) := by decide +kernel
theorem dX9_item_0 : decode cX9_item 0 = .ok (.aload_n 0, 1) := by decide +kernel
theorem dX9_item_1 : decode cX9_item 1 = .ok (.invokevirtual 33, 3) := by decide +kernel
theorem dX9_item_4 : decode cX9_item 4 = .ok (.istore_n 1, 1) := by decide +kernel
theorem dX9_item_5 : decode cX9_item 5 = .ok (.iload_n 1, 1) := by decide +kernel
theorem dX9_item_6 : decode cX9_item 6 = .ok (.ifCond .ge 5, 3) := by decide +kernel
theorem dX9_item_9 : decode cX9_item 9 = .ok (.iconst 0, 1) := by decide +kernel
theorem dX9_item_10 : decode cX9_item 10 = .ok (.ireturn, 1) := by decide +kernel
theorem dX9_item_11 : decode cX9_item 11 = .ok (.iconst 1, 1) := by decide +kernel
theorem dX9_item_12 : decode cX9_item 12 = .ok (.istore_n 2, 1) := by decide +kernel
theorem dX9_item_13 : decode cX9_item 13 = .ok (.aload_n 0, 1) := by decide +kernel
theorem dX9_item_14 : decode cX9_item 14 = .ok (.bipush 120, 2) := by decide +kernel
theorem dX9_item_16 : decode cX9_item 16 = .ok (.invokevirtual 37, 3) := by decide +kernel
theorem dX9_item_19 : decode cX9_item 19 = .ok (.ifCond .eq 25, 3) := by decide +kernel
theorem dX9_item_22 : decode cX9_item 22 = .ok (.aload_n 0, 1) := by decide +kernel
theorem dX9_item_23 : decode cX9_item 23 = .ok (.invokevirtual 53, 3) := by decide +kernel
theorem dX9_item_26 : decode cX9_item 26 = .ok (.istore_n 2, 1) := by decide +kernel
theorem dX9_item_27 : decode cX9_item 27 = .ok (.iload_n 2, 1) := by decide +kernel
theorem dX9_item_28 : decode cX9_item 28 = .ok (.iconst 1, 1) := by decide +kernel
theorem dX9_item_29 : decode cX9_item 29 = .ok (.if_icmp .ge 5, 3) := by decide +kernel
theorem dX9_item_32 : decode cX9_item 32 = .ok (.iconst 0, 1) := by decide +kernel
theorem dX9_item_33 : decode cX9_item 33 = .ok (.ireturn, 1) := by decide +kernel
theorem dX9_item_34 : decode cX9_item 34 = .ok (.aload_n 0, 1) := by decide +kernel
theorem dX9_item_35 : decode cX9_item 35 = .ok (.dup, 1) := by decide +kernel
theorem dX9_item_36 : decode cX9_item 36 = .ok (.getfield 30, 3) := by decide +kernel
theorem dX9_item_39 : decode cX9_item 39 = .ok (.iconst 1, 1) := by decide +kernel
theorem dX9_item_40 : decode cX9_item 40 = .ok (.iadd, 1) := by decide +kernel
theorem dX9_item_41 : decode cX9_item 41 = .ok (.putfield 30, 3) := by decide +kernel
theorem dX9_item_44 : decode cX9_item 44 = .ok (.aload_n 0, 1) := by decide +kernel
theorem dX9_item_45 : decode cX9_item 45 = .ok (.getfield 18, 3) := by decide +kernel
theorem dX9_item_48 : decode cX9_item 48 = .ok (.iload_n 1, 1) := by decide +kernel
theorem dX9_item_49 : decode cX9_item 49 = .ok (.invokevirtual 56, 3) := by decide +kernel
theorem dX9_item_52 : decode cX9_item 52 = .ok (.ifCond .eq 19, 3) := by decide +kernel
theorem dX9_item_55 : decode cX9_item 55 = .ok (.aload_n 0, 1) := by decide +kernel
theorem dX9_item_56 : decode cX9_item 56 = .ok (.getfield 18, 3) := by decide +kernel
theorem dX9_item_59 : decode cX9_item 59 = .ok (.getfield 59, 3) := by decide +kernel
theorem dX9_item_62 : decode cX9_item 62 = .ok (.iload_n 1, 1) := by decide +kernel
theorem dX9_item_63 : decode cX9_item 63 = .ok (.iaload, 1) := by decide +kernel
theorem dX9_item_64 : decode cX9_item 64 = .ok (.iload_n 2, 1) := by decide +kernel
theorem dX9_item_65 : decode cX9_item 65 = .ok (.iadd, 1) := by decide +kernel
theorem dX9_item_66 : decode cX9_item 66 = .ok (.bipush 9, 2) := by decide +kernel
theorem dX9_item_68 : decode cX9_item 68 = .ok (.if_icmp .le 11, 3) := by decide +kernel
theorem dX9_item_71 : decode cX9_item 71 = .ok (.aload_n 0, 1) := by decide +kernel
theorem dX9_item_72 : decode cX9_item 72 = .ok (.iconst 1, 1) := by decide +kernel
theorem dX9_item_73 : decode cX9_item 73 = .ok (.putfield 26, 3) := by decide +kernel
theorem dX9_item_76 : decode cX9_item 76 = .ok (.goto 16, 3) := by decide +kernel
theorem dX9_item_79 : decode cX9_item 79 = .ok (.aload_n 0, 1) := by decide +kernel
theorem dX9_item_80 : decode cX9_item 80 = .ok (.getfield 18, 3) := by decide +kernel
theorem dX9_item_83 : decode cX9_item 83 = .ok (.getfield 59, 3) := by decide +kernel
theorem dX9_item_86 : decode cX9_item 86 = .ok (.iload_n 1, 1) := by decide +kernel
theorem dX9_item_87 : decode cX9_item 87 = .ok (.dup2, 1) := by decide +kernel
theorem dX9_item_88 : decode cX9_item 88 = .ok (.iaload, 1) := by decide +kernel
theorem dX9_item_89 : decode cX9_item 89 = .ok (.iload_n 2, 1) := by decide +kernel
theorem dX9_item_90 : decode cX9_item 90 = .ok (.iadd, 1) := by decide +kernel
theorem dX9_item_91 : decode cX9_item 91 = .ok (.iastore, 1) := by decide +kernel
theorem dX9_item_92 : decode cX9_item 92 = .ok (.iconst 1, 1) := by decide +kernel
theorem dX9_item_93 : decode cX9_item 93 = .ok (.ireturn, 1) := by decide +kernel
theorem dX9_number_0 : decode cX9_number 0 = .ok (.aload_n 0, 1) := by decide +kernel
theorem dX9_number_1 : decode cX9_number 1 = .ok (.invokevirtual 53, 3) := by decide +kernel
theorem dX9_number_4 : decode cX9_number 4 = .ok (.istore_n 1, 1) := by decide +kernel
theorem dX9_number_5 : decode cX9_number 5 = .ok (.iload_n 1, 1) := by decide +kernel
theorem dX9_number_6 : decode cX9_number 6 = .ok (.ifCond .ge 5, 3) := by decide +kernel
theorem dX9_number_9 : decode cX9_number 9 = .ok (.iconst (-1), 1) := by decide +kernel
theorem dX9_number_10 : decode cX9_number 10 = .ok (.ireturn, 1) := by decide +kernel
theorem dX9_number_11 : decode cX9_number 11 = .ok (.aload_n 0, 1) := by decide +kernel
theorem dX9_number_12 : decode cX9_number 12 = .ok (.dup, 1) := by decide +kernel
theorem dX9_number_13 : decode cX9_number 13 = .ok (.getfield 30, 3) := by decide +kernel
theorem dX9_number_16 : decode cX9_number 16 = .ok (.iconst 1, 1) := by decide +kernel
theorem dX9_number_17 : decode cX9_number 17 = .ok (.iadd, 1) := by decide +kernel
theorem dX9_number_18 : decode cX9_number 18 = .ok (.putfield 30, 3) := by decide +kernel
theorem dX9_number_21 : decode cX9_number 21 = .ok (.aload_n 0, 1) := by decide +kernel
theorem dX9_number_22 : decode cX9_number 22 = .ok (.invokevirtual 53, 3) := by decide +kernel
theorem dX9_number_25 : decode cX9_number 25 = .ok (.istore_n 2, 1) := by decide +kernel
theorem dX9_number_26 : decode cX9_number 26 = .ok (.iload_n 2, 1) := by decide +kernel
theorem dX9_number_27 : decode cX9_number 27 = .ok (.ifCond .lt 20, 3) := by decide +kernel
theorem dX9_number_30 : decode cX9_number 30 = .ok (.iload_n 1, 1) := by decide +kernel
theorem dX9_number_31 : decode cX9_number 31 = .ok (.bipush 10, 2) := by decide +kernel
theorem dX9_number_33 : decode cX9_number 33 = .ok (.imul, 1) := by decide +kernel
theorem dX9_number_34 : decode cX9_number 34 = .ok (.iload_n 2, 1) := by decide +kernel
theorem dX9_number_35 : decode cX9_number 35 = .ok (.iadd, 1) := by decide +kernel
theorem dX9_number_36 : decode cX9_number 36 = .ok (.istore_n 1, 1) := by decide +kernel
theorem dX9_number_37 : decode cX9_number 37 = .ok (.aload_n 0, 1) := by decide +kernel
theorem dX9_number_38 : decode cX9_number 38 = .ok (.dup, 1) := by decide +kernel
theorem dX9_number_39 : decode cX9_number 39 = .ok (.getfield 30, 3) := by decide +kernel
theorem dX9_number_42 : decode cX9_number 42 = .ok (.iconst 1, 1) := by decide +kernel
theorem dX9_number_43 : decode cX9_number 43 = .ok (.iadd, 1) := by decide +kernel
theorem dX9_number_44 : decode cX9_number 44 = .ok (.putfield 30, 3) := by decide +kernel
theorem dX9_number_47 : decode cX9_number 47 = .ok (.iload_n 1, 1) := by decide +kernel
theorem dX9_number_48 : decode cX9_number 48 = .ok (.ireturn, 1) := by decide +kernel
theorem dX9_figure_0 : decode cX9_figure 0 = .ok (.aload_n 0, 1) := by decide +kernel
theorem dX9_figure_1 : decode cX9_figure 1 = .ok (.getfield 30, 3) := by decide +kernel
theorem dX9_figure_4 : decode cX9_figure 4 = .ok (.aload_n 0, 1) := by decide +kernel
theorem dX9_figure_5 : decode cX9_figure 5 = .ok (.getfield 22, 3) := by decide +kernel
theorem dX9_figure_8 : decode cX9_figure 8 = .ok (.if_icmp .ge 31, 3) := by decide +kernel
theorem dX9_figure_11 : decode cX9_figure 11 = .ok (.aload_n 0, 1) := by decide +kernel
theorem dX9_figure_12 : decode cX9_figure 12 = .ok (.getfield 9, 3) := by decide +kernel
theorem dX9_figure_15 : decode cX9_figure 15 = .ok (.aload_n 0, 1) := by decide +kernel
theorem dX9_figure_16 : decode cX9_figure 16 = .ok (.getfield 30, 3) := by decide +kernel
theorem dX9_figure_19 : decode cX9_figure 19 = .ok (.iaload, 1) := by decide +kernel
theorem dX9_figure_20 : decode cX9_figure 20 = .ok (.bipush 48, 2) := by decide +kernel
theorem dX9_figure_22 : decode cX9_figure 22 = .ok (.if_icmp .lt 17, 3) := by decide +kernel
theorem dX9_figure_25 : decode cX9_figure 25 = .ok (.aload_n 0, 1) := by decide +kernel
theorem dX9_figure_26 : decode cX9_figure 26 = .ok (.getfield 9, 3) := by decide +kernel
theorem dX9_figure_29 : decode cX9_figure 29 = .ok (.aload_n 0, 1) := by decide +kernel
theorem dX9_figure_30 : decode cX9_figure 30 = .ok (.getfield 30, 3) := by decide +kernel
theorem dX9_figure_33 : decode cX9_figure 33 = .ok (.iaload, 1) := by decide +kernel
theorem dX9_figure_34 : decode cX9_figure 34 = .ok (.bipush 57, 2) := by decide +kernel
theorem dX9_figure_36 : decode cX9_figure 36 = .ok (.if_icmp .le 5, 3) := by decide +kernel
theorem dX9_figure_39 : decode cX9_figure 39 = .ok (.iconst (-1), 1) := by decide +kernel
theorem dX9_figure_40 : decode cX9_figure 40 = .ok (.ireturn, 1) := by decide +kernel
theorem dX9_figure_41 : decode cX9_figure 41 = .ok (.aload_n 0, 1) := by decide +kernel
theorem dX9_figure_42 : decode cX9_figure 42 = .ok (.getfield 9, 3) := by decide +kernel
theorem dX9_figure_45 : decode cX9_figure 45 = .ok (.aload_n 0, 1) := by decide +kernel
theorem dX9_figure_46 : decode cX9_figure 46 = .ok (.getfield 30, 3) := by decide +kernel
theorem dX9_figure_49 : decode cX9_figure 49 = .ok (.iaload, 1) := by decide +kernel
theorem dX9_figure_50 : decode cX9_figure 50 = .ok (.bipush 48, 2) := by decide +kernel
theorem dX9_figure_52 : decode cX9_figure 52 = .ok (.isub, 1) := by decide +kernel
theorem dX9_figure_53 : decode cX9_figure 53 = .ok (.ireturn, 1) := by decide +kernel
theorem dX9_passes_0 : decode cX9_passes 0 = .ok (.aload_n 0, 1) := by decide +kernel
theorem dX9_passes_1 : decode cX9_passes 1 = .ok (.getfield 30, 3) := by decide +kernel
theorem dX9_passes_4 : decode cX9_passes 4 = .ok (.aload_n 0, 1) := by decide +kernel
theorem dX9_passes_5 : decode cX9_passes 5 = .ok (.getfield 22, 3) := by decide +kernel
theorem dX9_passes_8 : decode cX9_passes 8 = .ok (.if_icmp .ge 16, 3) := by decide +kernel
theorem dX9_passes_11 : decode cX9_passes 11 = .ok (.aload_n 0, 1) := by decide +kernel
theorem dX9_passes_12 : decode cX9_passes 12 = .ok (.getfield 9, 3) := by decide +kernel
theorem dX9_passes_15 : decode cX9_passes 15 = .ok (.aload_n 0, 1) := by decide +kernel
theorem dX9_passes_16 : decode cX9_passes 16 = .ok (.getfield 30, 3) := by decide +kernel
theorem dX9_passes_19 : decode cX9_passes 19 = .ok (.iaload, 1) := by decide +kernel
theorem dX9_passes_20 : decode cX9_passes 20 = .ok (.iload_n 1, 1) := by decide +kernel
theorem dX9_passes_21 : decode cX9_passes 21 = .ok (.if_icmp .eq 5, 3) := by decide +kernel
theorem dX9_passes_24 : decode cX9_passes 24 = .ok (.iconst 0, 1) := by decide +kernel
theorem dX9_passes_25 : decode cX9_passes 25 = .ok (.ireturn, 1) := by decide +kernel
theorem dX9_passes_26 : decode cX9_passes 26 = .ok (.aload_n 0, 1) := by decide +kernel
theorem dX9_passes_27 : decode cX9_passes 27 = .ok (.dup, 1) := by decide +kernel
theorem dX9_passes_28 : decode cX9_passes 28 = .ok (.getfield 30, 3) := by decide +kernel
theorem dX9_passes_31 : decode cX9_passes 31 = .ok (.iconst 1, 1) := by decide +kernel
theorem dX9_passes_32 : decode cX9_passes 32 = .ok (.iadd, 1) := by decide +kernel
theorem dX9_passes_33 : decode cX9_passes 33 = .ok (.putfield 30, 3) := by decide +kernel
theorem dX9_passes_36 : decode cX9_passes 36 = .ok (.iconst 1, 1) := by decide +kernel
theorem dX9_passes_37 : decode cX9_passes 37 = .ok (.ireturn, 1) := by decide +kernel
theorem dX10_init_0 : decode cX10_init 0 = .ok (.aload_n 0, 1) := by decide +kernel
theorem dX10_init_1 : decode cX10_init 1 = .ok (.invokespecial 3, 3) := by decide +kernel
theorem dX10_init_4 : decode cX10_init 4 = .ok (.aload_n 0, 1) := by decide +kernel
theorem dX10_init_5 : decode cX10_init 5 = .ok (.bipush 30, 2) := by decide +kernel
theorem dX10_init_7 : decode cX10_init 7 = .ok (.newarray .int, 2) := by decide +kernel
theorem dX10_init_9 : decode cX10_init 9 = .ok (.putfield 9, 3) := by decide +kernel
theorem dX10_init_12 : decode cX10_init 12 = .ok (.aload_n 0, 1) := by decide +kernel
theorem dX10_init_13 : decode cX10_init 13 = .ok (.bipush 30, 2) := by decide +kernel
theorem dX10_init_15 : decode cX10_init 15 = .ok (.newarray .int, 2) := by decide +kernel
theorem dX10_init_17 : decode cX10_init 17 = .ok (.putfield 15, 3) := by decide +kernel
theorem dX10_init_20 : decode cX10_init 20 = .ok (.aload_n 0, 1) := by decide +kernel
theorem dX10_init_21 : decode cX10_init 21 = .ok (.iconst 4, 1) := by decide +kernel
theorem dX10_init_22 : decode cX10_init 22 = .ok (.newarray .long, 2) := by decide +kernel
theorem dX10_init_24 : decode cX10_init 24 = .ok (.putfield 18, 3) := by decide +kernel
theorem dX10_init_27 : decode cX10_init 27 = .ok (.aload_n 0, 1) := by decide +kernel
theorem dX10_init_28 : decode cX10_init 28 = .ok (.bipush 30, 2) := by decide +kernel
theorem dX10_init_30 : decode cX10_init 30 = .ok (.newarray .int, 2) := by decide +kernel
theorem dX10_init_32 : decode cX10_init 32 = .ok (.putfield 22, 3) := by decide +kernel
theorem dX10_init_35 : decode cX10_init 35 = .ok (.aload_n 0, 1) := by decide +kernel
theorem dX10_init_36 : decode cX10_init 36 = .ok (.aload_n 1, 1) := by decide +kernel
theorem dX10_init_37 : decode cX10_init 37 = .ok (.putfield 25, 3) := by decide +kernel
theorem dX10_init_40 : decode cX10_init 40 = .ok (.return_, 1) := by decide +kernel
theorem dX10_begin_0 : decode cX10_begin 0 = .ok (.aload_n 0, 1) := by decide +kernel
theorem dX10_begin_1 : decode cX10_begin 1 = .ok (.getfield 25, 3) := by decide +kernel
theorem dX10_begin_4 : decode cX10_begin 4 = .ok (.iload_n 1, 1) := by decide +kernel
theorem dX10_begin_5 : decode cX10_begin 5 = .ok (.invokevirtual 29, 3) := by decide +kernel
theorem dX10_begin_8 : decode cX10_begin 8 = .ok (.aload_n 0, 1) := by decide +kernel
theorem dX10_begin_9 : decode cX10_begin 9 = .ok (.getfield 25, 3) := by decide +kernel
theorem dX10_begin_12 : decode cX10_begin 12 = .ok (.invokevirtual 35, 3) := by decide +kernel
theorem dX10_begin_15 : decode cX10_begin 15 = .ok (.aload_n 0, 1) := by decide +kernel
theorem dX10_begin_16 : decode cX10_begin 16 = .ok (.iconst 0, 1) := by decide +kernel
theorem dX10_begin_17 : decode cX10_begin 17 = .ok (.putfield 38, 3) := by decide +kernel
theorem dX10_begin_20 : decode cX10_begin 20 = .ok (.aload_n 0, 1) := by decide +kernel
theorem dX10_begin_21 : decode cX10_begin 21 = .ok (.iconst 0, 1) := by decide +kernel
theorem dX10_begin_22 : decode cX10_begin 22 = .ok (.putfield 42, 3) := by decide +kernel
theorem dX10_begin_25 : decode cX10_begin 25 = .ok (.aload_n 0, 1) := by decide +kernel
theorem dX10_begin_26 : decode cX10_begin 26 = .ok (.getfield 22, 3) := by decide +kernel
theorem dX10_begin_29 : decode cX10_begin 29 = .ok (.iconst 0, 1) := by decide +kernel
theorem dX10_begin_30 : decode cX10_begin 30 = .ok (.invokestatic 45, 3) := by decide +kernel
theorem dX10_begin_33 : decode cX10_begin 33 = .ok (.aload_n 0, 1) := by decide +kernel
theorem dX10_begin_34 : decode cX10_begin 34 = .ok (.getfield 18, 3) := by decide +kernel
theorem dX10_begin_37 : decode cX10_begin 37 = .ok (.lconst 0, 1) := by decide +kernel
theorem dX10_begin_38 : decode cX10_begin 38 = .ok (.invokestatic 51, 3) := by decide +kernel
theorem dX10_begin_41 : decode cX10_begin 41 = .ok (.iconst 0, 1) := by decide +kernel
theorem dX10_begin_42 : decode cX10_begin 42 = .ok (.istore_n 3, 1) := by decide +kernel
theorem dX10_begin_43 : decode cX10_begin 43 = .ok (.iload_n 3, 1) := by decide +kernel
theorem dX10_begin_44 : decode cX10_begin 44 = .ok (.iload_n 1, 1) := by decide +kernel
theorem dX10_begin_45 : decode cX10_begin 45 = .ok (.if_icmp .ge 44, 3) := by decide +kernel
theorem dX10_begin_48 : decode cX10_begin 48 = .ok (.aload_n 0, 1) := by decide +kernel
theorem dX10_begin_49 : decode cX10_begin 49 = .ok (.getfield 15, 3) := by decide +kernel
theorem dX10_begin_52 : decode cX10_begin 52 = .ok (.iload_n 3, 1) := by decide +kernel
theorem dX10_begin_53 : decode cX10_begin 53 = .ok (.aload_n 2, 1) := by decide +kernel
theorem dX10_begin_54 : decode cX10_begin 54 = .ok (.iload_n 3, 1) := by decide +kernel
theorem dX10_begin_55 : decode cX10_begin 55 = .ok (.iaload, 1) := by decide +kernel
theorem dX10_begin_56 : decode cX10_begin 56 = .ok (.iastore, 1) := by decide +kernel
theorem dX10_begin_57 : decode cX10_begin 57 = .ok (.aload_n 2, 1) := by decide +kernel
theorem dX10_begin_58 : decode cX10_begin 58 = .ok (.iload_n 3, 1) := by decide +kernel
theorem dX10_begin_59 : decode cX10_begin 59 = .ok (.iaload, 1) := by decide +kernel
theorem dX10_begin_60 : decode cX10_begin 60 = .ok (.ifCond .le 23, 3) := by decide +kernel
theorem dX10_begin_63 : decode cX10_begin 63 = .ok (.aload_n 0, 1) := by decide +kernel
theorem dX10_begin_64 : decode cX10_begin 64 = .ok (.getfield 9, 3) := by decide +kernel
theorem dX10_begin_67 : decode cX10_begin 67 = .ok (.aload_n 0, 1) := by decide +kernel
theorem dX10_begin_68 : decode cX10_begin 68 = .ok (.getfield 38, 3) := by decide +kernel
theorem dX10_begin_71 : decode cX10_begin 71 = .ok (.iload_n 3, 1) := by decide +kernel
theorem dX10_begin_72 : decode cX10_begin 72 = .ok (.iastore, 1) := by decide +kernel
theorem dX10_begin_73 : decode cX10_begin 73 = .ok (.aload_n 0, 1) := by decide +kernel
theorem dX10_begin_74 : decode cX10_begin 74 = .ok (.dup, 1) := by decide +kernel
theorem dX10_begin_75 : decode cX10_begin 75 = .ok (.getfield 38, 3) := by decide +kernel
theorem dX10_begin_78 : decode cX10_begin 78 = .ok (.iconst 1, 1) := by decide +kernel
theorem dX10_begin_79 : decode cX10_begin 79 = .ok (.iadd, 1) := by decide +kernel
theorem dX10_begin_80 : decode cX10_begin 80 = .ok (.putfield 38, 3) := by decide +kernel
theorem dX10_begin_83 : decode cX10_begin 83 = .ok (.iinc 3 1, 3) := by decide +kernel
theorem dX10_begin_86 : decode cX10_begin 86 = .ok (.goto (-43), 3) := by decide +kernel
theorem dX10_begin_89 : decode cX10_begin 89 = .ok (.return_, 1) := by decide +kernel
theorem dX10_goesOn_0 : decode cX10_goesOn 0 = .ok (.iconst 0, 1) := by decide +kernel
theorem dX10_goesOn_1 : decode cX10_goesOn 1 = .ok (.istore_n 1, 1) := by decide +kernel
theorem dX10_goesOn_2 : decode cX10_goesOn 2 = .ok (.iload_n 1, 1) := by decide +kernel
theorem dX10_goesOn_3 : decode cX10_goesOn 3 = .ok (.aload_n 0, 1) := by decide +kernel
theorem dX10_goesOn_4 : decode cX10_goesOn 4 = .ok (.getfield 38, 3) := by decide +kernel
theorem dX10_goesOn_7 : decode cX10_goesOn 7 = .ok (.if_icmp .ge 107, 3) := by decide +kernel
theorem dX10_goesOn_10 : decode cX10_goesOn 10 = .ok (.aload_n 0, 1) := by decide +kernel
theorem dX10_goesOn_11 : decode cX10_goesOn 11 = .ok (.getfield 9, 3) := by decide +kernel
theorem dX10_goesOn_14 : decode cX10_goesOn 14 = .ok (.iload_n 1, 1) := by decide +kernel
theorem dX10_goesOn_15 : decode cX10_goesOn 15 = .ok (.iaload, 1) := by decide +kernel
theorem dX10_goesOn_16 : decode cX10_goesOn 16 = .ok (.istore_n 2, 1) := by decide +kernel
theorem dX10_goesOn_17 : decode cX10_goesOn 17 = .ok (.aload_n 0, 1) := by decide +kernel
theorem dX10_goesOn_18 : decode cX10_goesOn 18 = .ok (.getfield 22, 3) := by decide +kernel
theorem dX10_goesOn_21 : decode cX10_goesOn 21 = .ok (.iload_n 2, 1) := by decide +kernel
theorem dX10_goesOn_22 : decode cX10_goesOn 22 = .ok (.iaload, 1) := by decide +kernel
theorem dX10_goesOn_23 : decode cX10_goesOn 23 = .ok (.aload_n 0, 1) := by decide +kernel
theorem dX10_goesOn_24 : decode cX10_goesOn 24 = .ok (.getfield 15, 3) := by decide +kernel
theorem dX10_goesOn_27 : decode cX10_goesOn 27 = .ok (.iload_n 2, 1) := by decide +kernel
theorem dX10_goesOn_28 : decode cX10_goesOn 28 = .ok (.iaload, 1) := by decide +kernel
theorem dX10_goesOn_29 : decode cX10_goesOn 29 = .ok (.if_icmp .ge 38, 3) := by decide +kernel
theorem dX10_goesOn_32 : decode cX10_goesOn 32 = .ok (.aload_n 0, 1) := by decide +kernel
theorem dX10_goesOn_33 : decode cX10_goesOn 33 = .ok (.getfield 22, 3) := by decide +kernel
theorem dX10_goesOn_36 : decode cX10_goesOn 36 = .ok (.iload_n 2, 1) := by decide +kernel
theorem dX10_goesOn_37 : decode cX10_goesOn 37 = .ok (.dup2, 1) := by decide +kernel
theorem dX10_goesOn_38 : decode cX10_goesOn 38 = .ok (.iaload, 1) := by decide +kernel
theorem dX10_goesOn_39 : decode cX10_goesOn 39 = .ok (.iconst 1, 1) := by decide +kernel
theorem dX10_goesOn_40 : decode cX10_goesOn 40 = .ok (.iadd, 1) := by decide +kernel
theorem dX10_goesOn_41 : decode cX10_goesOn 41 = .ok (.iastore, 1) := by decide +kernel
theorem dX10_goesOn_42 : decode cX10_goesOn 42 = .ok (.aload_n 0, 1) := by decide +kernel
theorem dX10_goesOn_43 : decode cX10_goesOn 43 = .ok (.dup, 1) := by decide +kernel
theorem dX10_goesOn_44 : decode cX10_goesOn 44 = .ok (.getfield 42, 3) := by decide +kernel
theorem dX10_goesOn_47 : decode cX10_goesOn 47 = .ok (.iconst 1, 1) := by decide +kernel
theorem dX10_goesOn_48 : decode cX10_goesOn 48 = .ok (.iadd, 1) := by decide +kernel
theorem dX10_goesOn_49 : decode cX10_goesOn 49 = .ok (.putfield 42, 3) := by decide +kernel
theorem dX10_goesOn_52 : decode cX10_goesOn 52 = .ok (.aload_n 0, 1) := by decide +kernel
theorem dX10_goesOn_53 : decode cX10_goesOn 53 = .ok (.getfield 25, 3) := by decide +kernel
theorem dX10_goesOn_56 : decode cX10_goesOn 56 = .ok (.aload_n 0, 1) := by decide +kernel
theorem dX10_goesOn_57 : decode cX10_goesOn 57 = .ok (.getfield 18, 3) := by decide +kernel
theorem dX10_goesOn_60 : decode cX10_goesOn 60 = .ok (.iload_n 2, 1) := by decide +kernel
theorem dX10_goesOn_61 : decode cX10_goesOn 61 = .ok (.iconst 1, 1) := by decide +kernel
theorem dX10_goesOn_62 : decode cX10_goesOn 62 = .ok (.invokevirtual 54, 3) := by decide +kernel
theorem dX10_goesOn_65 : decode cX10_goesOn 65 = .ok (.iconst 1, 1) := by decide +kernel
theorem dX10_goesOn_66 : decode cX10_goesOn 66 = .ok (.ireturn, 1) := by decide +kernel
theorem dX10_goesOn_67 : decode cX10_goesOn 67 = .ok (.aload_n 0, 1) := by decide +kernel
theorem dX10_goesOn_68 : decode cX10_goesOn 68 = .ok (.getfield 25, 3) := by decide +kernel
theorem dX10_goesOn_71 : decode cX10_goesOn 71 = .ok (.aload_n 0, 1) := by decide +kernel
theorem dX10_goesOn_72 : decode cX10_goesOn 72 = .ok (.getfield 18, 3) := by decide +kernel
theorem dX10_goesOn_75 : decode cX10_goesOn 75 = .ok (.iload_n 2, 1) := by decide +kernel
theorem dX10_goesOn_76 : decode cX10_goesOn 76 = .ok (.aload_n 0, 1) := by decide +kernel
theorem dX10_goesOn_77 : decode cX10_goesOn 77 = .ok (.getfield 22, 3) := by decide +kernel
theorem dX10_goesOn_80 : decode cX10_goesOn 80 = .ok (.iload_n 2, 1) := by decide +kernel
theorem dX10_goesOn_81 : decode cX10_goesOn 81 = .ok (.iaload, 1) := by decide +kernel
theorem dX10_goesOn_82 : decode cX10_goesOn 82 = .ok (.ineg, 1) := by decide +kernel
theorem dX10_goesOn_83 : decode cX10_goesOn 83 = .ok (.invokevirtual 54, 3) := by decide +kernel
theorem dX10_goesOn_86 : decode cX10_goesOn 86 = .ok (.aload_n 0, 1) := by decide +kernel
theorem dX10_goesOn_87 : decode cX10_goesOn 87 = .ok (.dup, 1) := by decide +kernel
theorem dX10_goesOn_88 : decode cX10_goesOn 88 = .ok (.getfield 42, 3) := by decide +kernel
theorem dX10_goesOn_91 : decode cX10_goesOn 91 = .ok (.aload_n 0, 1) := by decide +kernel
theorem dX10_goesOn_92 : decode cX10_goesOn 92 = .ok (.getfield 22, 3) := by decide +kernel
theorem dX10_goesOn_95 : decode cX10_goesOn 95 = .ok (.iload_n 2, 1) := by decide +kernel
theorem dX10_goesOn_96 : decode cX10_goesOn 96 = .ok (.iaload, 1) := by decide +kernel
theorem dX10_goesOn_97 : decode cX10_goesOn 97 = .ok (.isub, 1) := by decide +kernel
theorem dX10_goesOn_98 : decode cX10_goesOn 98 = .ok (.putfield 42, 3) := by decide +kernel
theorem dX10_goesOn_101 : decode cX10_goesOn 101 = .ok (.aload_n 0, 1) := by decide +kernel
theorem dX10_goesOn_102 : decode cX10_goesOn 102 = .ok (.getfield 22, 3) := by decide +kernel
theorem dX10_goesOn_105 : decode cX10_goesOn 105 = .ok (.iload_n 2, 1) := by decide +kernel
theorem dX10_goesOn_106 : decode cX10_goesOn 106 = .ok (.iconst 0, 1) := by decide +kernel
theorem dX10_goesOn_107 : decode cX10_goesOn 107 = .ok (.iastore, 1) := by decide +kernel
theorem dX10_goesOn_108 : decode cX10_goesOn 108 = .ok (.iinc 1 1, 3) := by decide +kernel
theorem dX10_goesOn_111 : decode cX10_goesOn 111 = .ok (.goto (-109), 3) := by decide +kernel
theorem dX10_goesOn_114 : decode cX10_goesOn 114 = .ok (.iconst 0, 1) := by decide +kernel
theorem dX10_goesOn_115 : decode cX10_goesOn 115 = .ok (.ireturn, 1) := by decide +kernel
theorem dX10_isAtNought_0 : decode cX10_isAtNought 0 = .ok (.iconst 0, 1) := by decide +kernel
theorem dX10_isAtNought_1 : decode cX10_isAtNought 1 = .ok (.istore_n 1, 1) := by decide +kernel
theorem dX10_isAtNought_2 : decode cX10_isAtNought 2 = .ok (.iload_n 1, 1) := by decide +kernel
theorem dX10_isAtNought_3 : decode cX10_isAtNought 3 = .ok (.iconst 4, 1) := by decide +kernel
theorem dX10_isAtNought_4 : decode cX10_isAtNought 4 = .ok (.if_icmp .ge 22, 3) := by decide +kernel
theorem dX10_isAtNought_7 : decode cX10_isAtNought 7 = .ok (.aload_n 0, 1) := by decide +kernel
theorem dX10_isAtNought_8 : decode cX10_isAtNought 8 = .ok (.getfield 18, 3) := by decide +kernel
theorem dX10_isAtNought_11 : decode cX10_isAtNought 11 = .ok (.iload_n 1, 1) := by decide +kernel
theorem dX10_isAtNought_12 : decode cX10_isAtNought 12 = .ok (.laload, 1) := by decide +kernel
theorem dX10_isAtNought_13 : decode cX10_isAtNought 13 = .ok (.lconst 0, 1) := by decide +kernel
theorem dX10_isAtNought_14 : decode cX10_isAtNought 14 = .ok (.lcmp, 1) := by decide +kernel
theorem dX10_isAtNought_15 : decode cX10_isAtNought 15 = .ok (.ifCond .eq 5, 3) := by decide +kernel
theorem dX10_isAtNought_18 : decode cX10_isAtNought 18 = .ok (.iconst 0, 1) := by decide +kernel
theorem dX10_isAtNought_19 : decode cX10_isAtNought 19 = .ok (.ireturn, 1) := by decide +kernel
theorem dX10_isAtNought_20 : decode cX10_isAtNought 20 = .ok (.iinc 1 1, 3) := by decide +kernel
theorem dX10_isAtNought_23 : decode cX10_isAtNought 23 = .ok (.goto (-21), 3) := by decide +kernel
theorem dX10_isAtNought_26 : decode cX10_isAtNought 26 = .ok (.iconst 1, 1) := by decide +kernel
theorem dX10_isAtNought_27 : decode cX10_isAtNought 27 = .ok (.ireturn, 1) := by decide +kernel
theorem dX11_init_0 : decode cX11_init 0 = .ok (.aload_n 0, 1) := by decide +kernel
theorem dX11_init_1 : decode cX11_init 1 = .ok (.invokespecial 3, 3) := by decide +kernel
theorem dX11_init_4 : decode cX11_init 4 = .ok (.aload_n 0, 1) := by decide +kernel
theorem dX11_init_5 : decode cX11_init 5 = .ok (.new 9, 3) := by decide +kernel
theorem dX11_init_8 : decode cX11_init 8 = .ok (.dup, 1) := by decide +kernel
theorem dX11_init_9 : decode cX11_init 9 = .ok (.invokespecial 11, 3) := by decide +kernel
theorem dX11_init_12 : decode cX11_init 12 = .ok (.putfield 12, 3) := by decide +kernel
theorem dX11_init_15 : decode cX11_init 15 = .ok (.aload_n 0, 1) := by decide +kernel
theorem dX11_init_16 : decode cX11_init 16 = .ok (.new 9, 3) := by decide +kernel
theorem dX11_init_19 : decode cX11_init 19 = .ok (.dup, 1) := by decide +kernel
theorem dX11_init_20 : decode cX11_init 20 = .ok (.invokespecial 11, 3) := by decide +kernel
theorem dX11_init_23 : decode cX11_init 23 = .ok (.putfield 18, 3) := by decide +kernel
theorem dX11_init_26 : decode cX11_init 26 = .ok (.aload_n 0, 1) := by decide +kernel
theorem dX11_init_27 : decode cX11_init 27 = .ok (.new 21, 3) := by decide +kernel
theorem dX11_init_30 : decode cX11_init 30 = .ok (.dup, 1) := by decide +kernel
theorem dX11_init_31 : decode cX11_init 31 = .ok (.invokespecial 23, 3) := by decide +kernel
theorem dX11_init_34 : decode cX11_init 34 = .ok (.putfield 24, 3) := by decide +kernel
theorem dX11_init_37 : decode cX11_init 37 = .ok (.aload_n 0, 1) := by decide +kernel
theorem dX11_init_38 : decode cX11_init 38 = .ok (.new 28, 3) := by decide +kernel
theorem dX11_init_41 : decode cX11_init 41 = .ok (.dup, 1) := by decide +kernel
theorem dX11_init_42 : decode cX11_init 42 = .ok (.aload_n 0, 1) := by decide +kernel
theorem dX11_init_43 : decode cX11_init 43 = .ok (.getfield 24, 3) := by decide +kernel
theorem dX11_init_46 : decode cX11_init 46 = .ok (.invokespecial 30, 3) := by decide +kernel
theorem dX11_init_49 : decode cX11_init 49 = .ok (.putfield 33, 3) := by decide +kernel
theorem dX11_init_52 : decode cX11_init 52 = .ok (.aload_n 0, 1) := by decide +kernel
theorem dX11_init_53 : decode cX11_init 53 = .ok (.new 37, 3) := by decide +kernel
theorem dX11_init_56 : decode cX11_init 56 = .ok (.dup, 1) := by decide +kernel
theorem dX11_init_57 : decode cX11_init 57 = .ok (.aload_n 0, 1) := by decide +kernel
theorem dX11_init_58 : decode cX11_init 58 = .ok (.getfield 33, 3) := by decide +kernel
theorem dX11_init_61 : decode cX11_init 61 = .ok (.invokespecial 39, 3) := by decide +kernel
theorem dX11_init_64 : decode cX11_init 64 = .ok (.putfield 42, 3) := by decide +kernel
theorem dX11_init_67 : decode cX11_init 67 = .ok (.aload_n 0, 1) := by decide +kernel
theorem dX11_init_68 : decode cX11_init 68 = .ok (.new 46, 3) := by decide +kernel
theorem dX11_init_71 : decode cX11_init 71 = .ok (.dup, 1) := by decide +kernel
theorem dX11_init_72 : decode cX11_init 72 = .ok (.aload_n 0, 1) := by decide +kernel
theorem dX11_init_73 : decode cX11_init 73 = .ok (.getfield 33, 3) := by decide +kernel
theorem dX11_init_76 : decode cX11_init 76 = .ok (.invokespecial 48, 3) := by decide +kernel
theorem dX11_init_79 : decode cX11_init 79 = .ok (.putfield 49, 3) := by decide +kernel
theorem dX11_init_82 : decode cX11_init 82 = .ok (.aload_n 0, 1) := by decide +kernel
theorem dX11_init_83 : decode cX11_init 83 = .ok (.iconst 3, 1) := by decide +kernel
theorem dX11_init_84 : decode cX11_init 84 = .ok (.anewarray 53, 3) := by decide +kernel
theorem dX11_init_87 : decode cX11_init 87 = .ok (.dup, 1) := by decide +kernel
theorem dX11_init_88 : decode cX11_init 88 = .ok (.iconst 0, 1) := by decide +kernel
theorem dX11_init_89 : decode cX11_init 89 = .ok (.new 53, 3) := by decide +kernel
theorem dX11_init_92 : decode cX11_init 92 = .ok (.dup, 1) := by decide +kernel
theorem dX11_init_93 : decode cX11_init 93 = .ok (.invokespecial 55, 3) := by decide +kernel
theorem dX11_init_96 : decode cX11_init 96 = .ok (.aastore, 1) := by decide +kernel
theorem dX11_init_97 : decode cX11_init 97 = .ok (.dup, 1) := by decide +kernel
theorem dX11_init_98 : decode cX11_init 98 = .ok (.iconst 1, 1) := by decide +kernel
theorem dX11_init_99 : decode cX11_init 99 = .ok (.new 53, 3) := by decide +kernel
theorem dX11_init_102 : decode cX11_init 102 = .ok (.dup, 1) := by decide +kernel
theorem dX11_init_103 : decode cX11_init 103 = .ok (.invokespecial 55, 3) := by decide +kernel
theorem dX11_init_106 : decode cX11_init 106 = .ok (.aastore, 1) := by decide +kernel
theorem dX11_init_107 : decode cX11_init 107 = .ok (.dup, 1) := by decide +kernel
theorem dX11_init_108 : decode cX11_init 108 = .ok (.iconst 2, 1) := by decide +kernel
theorem dX11_init_109 : decode cX11_init 109 = .ok (.new 53, 3) := by decide +kernel
theorem dX11_init_112 : decode cX11_init 112 = .ok (.dup, 1) := by decide +kernel
theorem dX11_init_113 : decode cX11_init 113 = .ok (.invokespecial 55, 3) := by decide +kernel
theorem dX11_init_116 : decode cX11_init 116 = .ok (.aastore, 1) := by decide +kernel
theorem dX11_init_117 : decode cX11_init 117 = .ok (.putfield 56, 3) := by decide +kernel
theorem dX11_init_120 : decode cX11_init 120 = .ok (.aload_n 0, 1) := by decide +kernel
theorem dX11_init_121 : decode cX11_init 121 = .ok (.new 60, 3) := by decide +kernel
theorem dX11_init_124 : decode cX11_init 124 = .ok (.dup, 1) := by decide +kernel
theorem dX11_init_125 : decode cX11_init 125 = .ok (.invokespecial 62, 3) := by decide +kernel
theorem dX11_init_128 : decode cX11_init 128 = .ok (.putfield 63, 3) := by decide +kernel
theorem dX11_init_131 : decode cX11_init 131 = .ok (.aload_n 0, 1) := by decide +kernel
theorem dX11_init_132 : decode cX11_init 132 = .ok (.new 67, 3) := by decide +kernel
theorem dX11_init_135 : decode cX11_init 135 = .ok (.dup, 1) := by decide +kernel
theorem dX11_init_136 : decode cX11_init 136 = .ok (.invokespecial 69, 3) := by decide +kernel
theorem dX11_init_139 : decode cX11_init 139 = .ok (.putfield 70, 3) := by decide +kernel
theorem dX11_init_142 : decode cX11_init 142 = .ok (.aload_n 0, 1) := by decide +kernel
theorem dX11_init_143 : decode cX11_init 143 = .ok (.new 74, 3) := by decide +kernel
theorem dX11_init_146 : decode cX11_init 146 = .ok (.dup, 1) := by decide +kernel
theorem dX11_init_147 : decode cX11_init 147 = .ok (.invokespecial 76, 3) := by decide +kernel
theorem dX11_init_150 : decode cX11_init 150 = .ok (.putfield 77, 3) := by decide +kernel
theorem dX11_init_153 : decode cX11_init 153 = .ok (.aload_n 0, 1) := by decide +kernel
theorem dX11_init_154 : decode cX11_init 154 = .ok (.bipush 30, 2) := by decide +kernel
theorem dX11_init_156 : decode cX11_init 156 = .ok (.newarray .int, 2) := by decide +kernel
theorem dX11_init_158 : decode cX11_init 158 = .ok (.putfield 81, 3) := by decide +kernel
theorem dX11_init_161 : decode cX11_init 161 = .ok (.aload_n 0, 1) := by decide +kernel
theorem dX11_init_162 : decode cX11_init 162 = .ok (.bipush 30, 2) := by decide +kernel
theorem dX11_init_164 : decode cX11_init 164 = .ok (.newarray .int, 2) := by decide +kernel
theorem dX11_init_166 : decode cX11_init 166 = .ok (.putfield 85, 3) := by decide +kernel
theorem dX11_init_169 : decode cX11_init 169 = .ok (.aload_n 0, 1) := by decide +kernel
theorem dX11_init_170 : decode cX11_init 170 = .ok (.sipush 201, 3) := by decide +kernel
theorem dX11_init_173 : decode cX11_init 173 = .ok (.newarray .int, 2) := by decide +kernel
theorem dX11_init_175 : decode cX11_init 175 = .ok (.putfield 88, 3) := by decide +kernel
theorem dX11_init_178 : decode cX11_init 178 = .ok (.return_, 1) := by decide +kernel
theorem dX11_base_0 : decode cX11_base 0 = .ok (.iload_n 1, 1) := by decide +kernel
theorem dX11_base_1 : decode cX11_base 1 = .ok (.invokestatic 91, 3) := by decide +kernel
theorem dX11_base_4 : decode cX11_base 4 = .ok (.ifCond .ne 6, 3) := by decide +kernel
theorem dX11_base_7 : decode cX11_base 7 = .ok (.bipush (-2), 2) := by decide +kernel
theorem dX11_base_9 : decode cX11_base 9 = .ok (.ireturn, 1) := by decide +kernel
theorem dX11_base_10 : decode cX11_base 10 = .ok (.aload_n 0, 1) := by decide +kernel
theorem dX11_base_11 : decode cX11_base 11 = .ok (.getfield 12, 3) := by decide +kernel
theorem dX11_base_14 : decode cX11_base 14 = .ok (.getfield 95, 3) := by decide +kernel
theorem dX11_base_17 : decode cX11_base 17 = .ok (.getfield 98, 3) := by decide +kernel
theorem dX11_base_20 : decode cX11_base 20 = .ok (.istore_n 2, 1) := by decide +kernel
theorem dX11_base_21 : decode cX11_base 21 = .ok (.aload_n 0, 1) := by decide +kernel
theorem dX11_base_22 : decode cX11_base 22 = .ok (.getfield 12, 3) := by decide +kernel
theorem dX11_base_25 : decode cX11_base 25 = .ok (.getfield 95, 3) := by decide +kernel
theorem dX11_base_28 : decode cX11_base 28 = .ok (.iload_n 1, 1) := by decide +kernel
theorem dX11_base_29 : decode cX11_base 29 = .ok (.invokevirtual 102, 3) := by decide +kernel
theorem dX11_base_32 : decode cX11_base 32 = .ok (.iload_n 2, 1) := by decide +kernel
theorem dX11_base_33 : decode cX11_base 33 = .ok (.ireturn, 1) := by decide +kernel
theorem dX11_set_0 : decode cX11_set 0 = .ok (.aload_n 0, 1) := by decide +kernel
theorem dX11_set_1 : decode cX11_set 1 = .ok (.getfield 12, 3) := by decide +kernel
theorem dX11_set_4 : decode cX11_set 4 = .ok (.getfield 95, 3) := by decide +kernel
theorem dX11_set_7 : decode cX11_set 7 = .ok (.astore_n 3, 1) := by decide +kernel
theorem dX11_set_8 : decode cX11_set 8 = .ok (.aload_n 3, 1) := by decide +kernel
theorem dX11_set_9 : decode cX11_set 9 = .ok (.iload_n 1, 1) := by decide +kernel
theorem dX11_set_10 : decode cX11_set 10 = .ok (.invokevirtual 106, 3) := by decide +kernel
theorem dX11_set_13 : decode cX11_set 13 = .ok (.ifCond .ne 5, 3) := by decide +kernel
theorem dX11_set_16 : decode cX11_set 16 = .ok (.iconst (-1), 1) := by decide +kernel
theorem dX11_set_17 : decode cX11_set 17 = .ok (.ireturn, 1) := by decide +kernel
theorem dX11_set_18 : decode cX11_set 18 = .ok (.iload_n 2, 1) := by decide +kernel
theorem dX11_set_19 : decode cX11_set 19 = .ok (.ifCond .lt 9, 3) := by decide +kernel
theorem dX11_set_22 : decode cX11_set 22 = .ok (.iload_n 2, 1) := by decide +kernel
theorem dX11_set_23 : decode cX11_set 23 = .ok (.bipush 9, 2) := by decide +kernel
theorem dX11_set_25 : decode cX11_set 25 = .ok (.if_icmp .le 6, 3) := by decide +kernel
theorem dX11_set_28 : decode cX11_set 28 = .ok (.bipush (-2), 2) := by decide +kernel
theorem dX11_set_30 : decode cX11_set 30 = .ok (.ireturn, 1) := by decide +kernel
theorem dX11_set_31 : decode cX11_set 31 = .ok (.aload_n 3, 1) := by decide +kernel
theorem dX11_set_32 : decode cX11_set 32 = .ok (.getfield 109, 3) := by decide +kernel
theorem dX11_set_35 : decode cX11_set 35 = .ok (.iload_n 1, 1) := by decide +kernel
theorem dX11_set_36 : decode cX11_set 36 = .ok (.iaload, 1) := by decide +kernel
theorem dX11_set_37 : decode cX11_set 37 = .ok (.istore 4, 2) := by decide +kernel
theorem dX11_set_39 : decode cX11_set 39 = .ok (.aload_n 3, 1) := by decide +kernel
theorem dX11_set_40 : decode cX11_set 40 = .ok (.getfield 109, 3) := by decide +kernel
theorem dX11_set_43 : decode cX11_set 43 = .ok (.iload_n 1, 1) := by decide +kernel
theorem dX11_set_44 : decode cX11_set 44 = .ok (.iload_n 2, 1) := by decide +kernel
theorem dX11_set_45 : decode cX11_set 45 = .ok (.iastore, 1) := by decide +kernel
theorem dX11_set_46 : decode cX11_set 46 = .ok (.iload 4, 2) := by decide +kernel
theorem dX11_set_48 : decode cX11_set 48 = .ok (.ireturn, 1) := by decide +kernel
theorem dX11_add_0 : decode cX11_add 0 = .ok (.aload_n 0, 1) := by decide +kernel
theorem dX11_add_1 : decode cX11_add 1 = .ok (.getfield 12, 3) := by decide +kernel
theorem dX11_add_4 : decode cX11_add 4 = .ok (.getfield 95, 3) := by decide +kernel
theorem dX11_add_7 : decode cX11_add 7 = .ok (.astore_n 2, 1) := by decide +kernel
theorem dX11_add_8 : decode cX11_add 8 = .ok (.aload_n 2, 1) := by decide +kernel
theorem dX11_add_9 : decode cX11_add 9 = .ok (.iload_n 1, 1) := by decide +kernel
theorem dX11_add_10 : decode cX11_add 10 = .ok (.invokevirtual 106, 3) := by decide +kernel
theorem dX11_add_13 : decode cX11_add 13 = .ok (.ifCond .ne 5, 3) := by decide +kernel
theorem dX11_add_16 : decode cX11_add 16 = .ok (.iconst (-1), 1) := by decide +kernel
theorem dX11_add_17 : decode cX11_add 17 = .ok (.ireturn, 1) := by decide +kernel
theorem dX11_add_18 : decode cX11_add 18 = .ok (.aload_n 2, 1) := by decide +kernel
theorem dX11_add_19 : decode cX11_add 19 = .ok (.getfield 109, 3) := by decide +kernel
theorem dX11_add_22 : decode cX11_add 22 = .ok (.iload_n 1, 1) := by decide +kernel
theorem dX11_add_23 : decode cX11_add 23 = .ok (.iaload, 1) := by decide +kernel
theorem dX11_add_24 : decode cX11_add 24 = .ok (.bipush 9, 2) := by decide +kernel
theorem dX11_add_26 : decode cX11_add 26 = .ok (.if_icmp .lt 6, 3) := by decide +kernel
theorem dX11_add_29 : decode cX11_add 29 = .ok (.bipush (-4), 2) := by decide +kernel
theorem dX11_add_31 : decode cX11_add 31 = .ok (.ireturn, 1) := by decide +kernel
theorem dX11_add_32 : decode cX11_add 32 = .ok (.aload_n 2, 1) := by decide +kernel
theorem dX11_add_33 : decode cX11_add 33 = .ok (.getfield 109, 3) := by decide +kernel
theorem dX11_add_36 : decode cX11_add 36 = .ok (.iload_n 1, 1) := by decide +kernel
theorem dX11_add_37 : decode cX11_add 37 = .ok (.dup2, 1) := by decide +kernel
theorem dX11_add_38 : decode cX11_add 38 = .ok (.iaload, 1) := by decide +kernel
theorem dX11_add_39 : decode cX11_add 39 = .ok (.iconst 1, 1) := by decide +kernel
theorem dX11_add_40 : decode cX11_add 40 = .ok (.iadd, 1) := by decide +kernel
theorem dX11_add_41 : decode cX11_add 41 = .ok (.iastore, 1) := by decide +kernel
theorem dX11_add_42 : decode cX11_add 42 = .ok (.aload_n 2, 1) := by decide +kernel
theorem dX11_add_43 : decode cX11_add 43 = .ok (.getfield 109, 3) := by decide +kernel
theorem dX11_add_46 : decode cX11_add 46 = .ok (.iload_n 1, 1) := by decide +kernel
theorem dX11_add_47 : decode cX11_add 47 = .ok (.iaload, 1) := by decide +kernel
theorem dX11_add_48 : decode cX11_add 48 = .ok (.ireturn, 1) := by decide +kernel
theorem dX11_of_0 : decode cX11_of 0 = .ok (.aload_n 0, 1) := by decide +kernel
theorem dX11_of_1 : decode cX11_of 1 = .ok (.getfield 12, 3) := by decide +kernel
theorem dX11_of_4 : decode cX11_of 4 = .ok (.getfield 95, 3) := by decide +kernel
theorem dX11_of_7 : decode cX11_of 7 = .ok (.iload_n 1, 1) := by decide +kernel
theorem dX11_of_8 : decode cX11_of 8 = .ok (.invokevirtual 106, 3) := by decide +kernel
theorem dX11_of_11 : decode cX11_of 11 = .ok (.ifCond .eq 18, 3) := by decide +kernel
theorem dX11_of_14 : decode cX11_of 14 = .ok (.aload_n 0, 1) := by decide +kernel
theorem dX11_of_15 : decode cX11_of 15 = .ok (.getfield 12, 3) := by decide +kernel
theorem dX11_of_18 : decode cX11_of 18 = .ok (.getfield 95, 3) := by decide +kernel
theorem dX11_of_21 : decode cX11_of 21 = .ok (.getfield 109, 3) := by decide +kernel
theorem dX11_of_24 : decode cX11_of 24 = .ok (.iload_n 1, 1) := by decide +kernel
theorem dX11_of_25 : decode cX11_of 25 = .ok (.iaload, 1) := by decide +kernel
theorem dX11_of_26 : decode cX11_of 26 = .ok (.goto 4, 3) := by decide +kernel
theorem dX11_of_29 : decode cX11_of 29 = .ok (.iconst (-1), 1) := by decide +kernel
theorem dX11_of_30 : decode cX11_of 30 = .ok (.ireturn, 1) := by decide +kernel
theorem dX11_weight_0 : decode cX11_weight 0 = .ok (.aload_n 0, 1) := by decide +kernel
theorem dX11_weight_1 : decode cX11_weight 1 = .ok (.getfield 12, 3) := by decide +kernel
theorem dX11_weight_4 : decode cX11_weight 4 = .ok (.getfield 95, 3) := by decide +kernel
theorem dX11_weight_7 : decode cX11_weight 7 = .ok (.invokevirtual 112, 3) := by decide +kernel
theorem dX11_weight_10 : decode cX11_weight 10 = .ok (.ireturn, 1) := by decide +kernel
theorem dX11_clear_0 : decode cX11_clear 0 = .ok (.aload_n 0, 1) := by decide +kernel
theorem dX11_clear_1 : decode cX11_clear 1 = .ok (.getfield 12, 3) := by decide +kernel
theorem dX11_clear_4 : decode cX11_clear 4 = .ok (.getfield 95, 3) := by decide +kernel
theorem dX11_clear_7 : decode cX11_clear 7 = .ok (.invokevirtual 112, 3) := by decide +kernel
theorem dX11_clear_10 : decode cX11_clear 10 = .ok (.istore_n 1, 1) := by decide +kernel
theorem dX11_clear_11 : decode cX11_clear 11 = .ok (.aload_n 0, 1) := by decide +kernel
theorem dX11_clear_12 : decode cX11_clear 12 = .ok (.getfield 12, 3) := by decide +kernel
theorem dX11_clear_15 : decode cX11_clear 15 = .ok (.getfield 95, 3) := by decide +kernel
theorem dX11_clear_18 : decode cX11_clear 18 = .ok (.aload_n 0, 1) := by decide +kernel
theorem dX11_clear_19 : decode cX11_clear 19 = .ok (.getfield 12, 3) := by decide +kernel
theorem dX11_clear_22 : decode cX11_clear 22 = .ok (.getfield 95, 3) := by decide +kernel
theorem dX11_clear_25 : decode cX11_clear 25 = .ok (.getfield 98, 3) := by decide +kernel
theorem dX11_clear_28 : decode cX11_clear 28 = .ok (.invokevirtual 102, 3) := by decide +kernel
theorem dX11_clear_31 : decode cX11_clear 31 = .ok (.iload_n 1, 1) := by decide +kernel
theorem dX11_clear_32 : decode cX11_clear 32 = .ok (.ireturn, 1) := by decide +kernel
theorem dX11_phi_0 : decode cX11_phi 0 = .ok (.aload_n 0, 1) := by decide +kernel
theorem dX11_phi_1 : decode cX11_phi 1 = .ok (.getfield 24, 3) := by decide +kernel
theorem dX11_phi_4 : decode cX11_phi 4 = .ok (.aload_n 0, 1) := by decide +kernel
theorem dX11_phi_5 : decode cX11_phi 5 = .ok (.getfield 12, 3) := by decide +kernel
theorem dX11_phi_8 : decode cX11_phi 8 = .ok (.getfield 95, 3) := by decide +kernel
theorem dX11_phi_11 : decode cX11_phi 11 = .ok (.getfield 98, 3) := by decide +kernel
theorem dX11_phi_14 : decode cX11_phi 14 = .ok (.invokevirtual 116, 3) := by decide +kernel
theorem dX11_phi_17 : decode cX11_phi 17 = .ok (.iload_n 1, 1) := by decide +kernel
theorem dX11_phi_18 : decode cX11_phi 18 = .ok (.iconst (-1), 1) := by decide +kernel
theorem dX11_phi_19 : decode cX11_phi 19 = .ok (.if_icmp .ne 12, 3) := by decide +kernel
theorem dX11_phi_22 : decode cX11_phi 22 = .ok (.aload_n 0, 1) := by decide +kernel
theorem dX11_phi_23 : decode cX11_phi 23 = .ok (.getfield 24, 3) := by decide +kernel
theorem dX11_phi_26 : decode cX11_phi 26 = .ok (.getfield 119, 3) := by decide +kernel
theorem dX11_phi_29 : decode cX11_phi 29 = .ok (.i2l, 1) := by decide +kernel
theorem dX11_phi_30 : decode cX11_phi 30 = .ok (.lreturn, 1) := by decide +kernel
theorem dX11_phi_31 : decode cX11_phi 31 = .ok (.iload_n 1, 1) := by decide +kernel
theorem dX11_phi_32 : decode cX11_phi 32 = .ok (.ifCond .lt 14, 3) := by decide +kernel
theorem dX11_phi_35 : decode cX11_phi 35 = .ok (.iload_n 1, 1) := by decide +kernel
theorem dX11_phi_36 : decode cX11_phi 36 = .ok (.aload_n 0, 1) := by decide +kernel
theorem dX11_phi_37 : decode cX11_phi 37 = .ok (.getfield 24, 3) := by decide +kernel
theorem dX11_phi_40 : decode cX11_phi 40 = .ok (.getfield 119, 3) := by decide +kernel
theorem dX11_phi_43 : decode cX11_phi 43 = .ok (.if_icmp .le 9, 3) := by decide +kernel
theorem dX11_phi_46 : decode cX11_phi 46 = .ok (.ldc2_w 122, 3) := by decide +kernel
theorem dX11_phi_49 : decode cX11_phi 49 = .ok (.goto 13, 3) := by decide +kernel
theorem dX11_phi_52 : decode cX11_phi 52 = .ok (.aload_n 0, 1) := by decide +kernel
theorem dX11_phi_53 : decode cX11_phi 53 = .ok (.getfield 24, 3) := by decide +kernel
theorem dX11_phi_56 : decode cX11_phi 56 = .ok (.getfield 124, 3) := by decide +kernel
theorem dX11_phi_59 : decode cX11_phi 59 = .ok (.iload_n 1, 1) := by decide +kernel
theorem dX11_phi_60 : decode cX11_phi 60 = .ok (.iaload, 1) := by decide +kernel
theorem dX11_phi_61 : decode cX11_phi 61 = .ok (.i2l, 1) := by decide +kernel
theorem dX11_phi_62 : decode cX11_phi 62 = .ok (.lreturn, 1) := by decide +kernel
theorem dX11_rest_0 : decode cX11_rest 0 = .ok (.aload_n 0, 1) := by decide +kernel
theorem dX11_rest_1 : decode cX11_rest 1 = .ok (.getfield 24, 3) := by decide +kernel
theorem dX11_rest_4 : decode cX11_rest 4 = .ok (.aload_n 0, 1) := by decide +kernel
theorem dX11_rest_5 : decode cX11_rest 5 = .ok (.getfield 12, 3) := by decide +kernel
theorem dX11_rest_8 : decode cX11_rest 8 = .ok (.getfield 95, 3) := by decide +kernel
theorem dX11_rest_11 : decode cX11_rest 11 = .ok (.getfield 98, 3) := by decide +kernel
theorem dX11_rest_14 : decode cX11_rest 14 = .ok (.invokevirtual 116, 3) := by decide +kernel
theorem dX11_rest_17 : decode cX11_rest 17 = .ok (.iload_n 1, 1) := by decide +kernel
theorem dX11_rest_18 : decode cX11_rest 18 = .ok (.ifCond .lt 14, 3) := by decide +kernel
theorem dX11_rest_21 : decode cX11_rest 21 = .ok (.iload_n 1, 1) := by decide +kernel
theorem dX11_rest_22 : decode cX11_rest 22 = .ok (.aload_n 0, 1) := by decide +kernel
theorem dX11_rest_23 : decode cX11_rest 23 = .ok (.getfield 24, 3) := by decide +kernel
theorem dX11_rest_26 : decode cX11_rest 26 = .ok (.getfield 119, 3) := by decide +kernel
theorem dX11_rest_29 : decode cX11_rest 29 = .ok (.if_icmp .lt 7, 3) := by decide +kernel
theorem dX11_rest_32 : decode cX11_rest 32 = .ok (.ldc2_w 122, 3) := by decide +kernel
theorem dX11_rest_35 : decode cX11_rest 35 = .ok (.lreturn, 1) := by decide +kernel
theorem dX11_rest_36 : decode cX11_rest 36 = .ok (.aload_n 0, 1) := by decide +kernel
theorem dX11_rest_37 : decode cX11_rest 37 = .ok (.getfield 24, 3) := by decide +kernel
theorem dX11_rest_40 : decode cX11_rest 40 = .ok (.aload_n 0, 1) := by decide +kernel
theorem dX11_rest_41 : decode cX11_rest 41 = .ok (.getfield 12, 3) := by decide +kernel
theorem dX11_rest_44 : decode cX11_rest 44 = .ok (.getfield 95, 3) := by decide +kernel
theorem dX11_rest_47 : decode cX11_rest 47 = .ok (.getfield 109, 3) := by decide +kernel
theorem dX11_rest_50 : decode cX11_rest 50 = .ok (.invokevirtual 127, 3) := by decide +kernel
theorem dX11_rest_53 : decode cX11_rest 53 = .ok (.aload_n 0, 1) := by decide +kernel
theorem dX11_rest_54 : decode cX11_rest 54 = .ok (.getfield 24, 3) := by decide +kernel
theorem dX11_rest_57 : decode cX11_rest 57 = .ok (.getfield 131, 3) := by decide +kernel
theorem dX11_rest_60 : decode cX11_rest 60 = .ok (.iload_n 1, 1) := by decide +kernel
theorem dX11_rest_61 : decode cX11_rest 61 = .ok (.iaload, 1) := by decide +kernel
theorem dX11_rest_62 : decode cX11_rest 62 = .ok (.i2l, 1) := by decide +kernel
theorem dX11_rest_63 : decode cX11_rest 63 = .ok (.lreturn, 1) := by decide +kernel
theorem dX11_nought_0 : decode cX11_nought 0 = .ok (.aload_n 0, 1) := by decide +kernel
theorem dX11_nought_1 : decode cX11_nought 1 = .ok (.aload_n 0, 1) := by decide +kernel
theorem dX11_nought_2 : decode cX11_nought 2 = .ok (.getfield 12, 3) := by decide +kernel
theorem dX11_nought_5 : decode cX11_nought 5 = .ok (.getfield 95, 3) := by decide +kernel
theorem dX11_nought_8 : decode cX11_nought 8 = .ok (.invokevirtual 134, 3) := by decide +kernel
theorem dX11_nought_11 : decode cX11_nought 11 = .ok (.ifCond .eq 7, 3) := by decide +kernel
theorem dX11_nought_14 : decode cX11_nought 14 = .ok (.iconst 1, 1) := by decide +kernel
theorem dX11_nought_15 : decode cX11_nought 15 = .ok (.goto 4, 3) := by decide +kernel
theorem dX11_nought_18 : decode cX11_nought 18 = .ok (.iconst 0, 1) := by decide +kernel
theorem dX11_nought_19 : decode cX11_nought 19 = .ok (.ireturn, 1) := by decide +kernel
theorem dX11_primitive_0 : decode cX11_primitive 0 = .ok (.aload_n 0, 1) := by decide +kernel
theorem dX11_primitive_1 : decode cX11_primitive 1 = .ok (.getfield 12, 3) := by decide +kernel
theorem dX11_primitive_4 : decode cX11_primitive 4 = .ok (.getfield 95, 3) := by decide +kernel
theorem dX11_primitive_7 : decode cX11_primitive 7 = .ok (.astore_n 1, 1) := by decide +kernel
theorem dX11_primitive_8 : decode cX11_primitive 8 = .ok (.aload_n 1, 1) := by decide +kernel
theorem dX11_primitive_9 : decode cX11_primitive 9 = .ok (.invokevirtual 138, 3) := by decide +kernel
theorem dX11_primitive_12 : decode cX11_primitive 12 = .ok (.ifCond .eq 6, 3) := by decide +kernel
theorem dX11_primitive_15 : decode cX11_primitive 15 = .ok (.bipush (-8), 2) := by decide +kernel
theorem dX11_primitive_17 : decode cX11_primitive 17 = .ok (.ireturn, 1) := by decide +kernel
theorem dX11_primitive_18 : decode cX11_primitive 18 = .ok (.aload_n 0, 1) := by decide +kernel
theorem dX11_primitive_19 : decode cX11_primitive 19 = .ok (.getfield 42, 3) := by decide +kernel
theorem dX11_primitive_22 : decode cX11_primitive 22 = .ok (.aload_n 1, 1) := by decide +kernel
theorem dX11_primitive_23 : decode cX11_primitive 23 = .ok (.invokevirtual 142, 3) := by decide +kernel
theorem dX11_primitive_26 : decode cX11_primitive 26 = .ok (.aload_n 0, 1) := by decide +kernel
theorem dX11_primitive_27 : decode cX11_primitive 27 = .ok (.getfield 42, 3) := by decide +kernel
theorem dX11_primitive_30 : decode cX11_primitive 30 = .ok (.getfield 146, 3) := by decide +kernel
theorem dX11_primitive_33 : decode cX11_primitive 33 = .ok (.iconst 1, 1) := by decide +kernel
theorem dX11_primitive_34 : decode cX11_primitive 34 = .ok (.if_icmp .ne 15, 3) := by decide +kernel
theorem dX11_primitive_37 : decode cX11_primitive 37 = .ok (.aload_n 0, 1) := by decide +kernel
theorem dX11_primitive_38 : decode cX11_primitive 38 = .ok (.aload_n 1, 1) := by decide +kernel
theorem dX11_primitive_39 : decode cX11_primitive 39 = .ok (.invokevirtual 134, 3) := by decide +kernel
theorem dX11_primitive_42 : decode cX11_primitive 42 = .ok (.ifCond .eq 7, 3) := by decide +kernel
theorem dX11_primitive_45 : decode cX11_primitive 45 = .ok (.iconst 1, 1) := by decide +kernel
theorem dX11_primitive_46 : decode cX11_primitive 46 = .ok (.goto 4, 3) := by decide +kernel
theorem dX11_primitive_49 : decode cX11_primitive 49 = .ok (.iconst 0, 1) := by decide +kernel
theorem dX11_primitive_50 : decode cX11_primitive 50 = .ok (.ireturn, 1) := by decide +kernel
theorem dX11_parts_0 : decode cX11_parts 0 = .ok (.iload_n 1, 1) := by decide +kernel
theorem dX11_parts_1 : decode cX11_parts 1 = .ok (.ifCond .lt 8, 3) := by decide +kernel
theorem dX11_parts_4 : decode cX11_parts 4 = .ok (.iload_n 1, 1) := by decide +kernel
theorem dX11_parts_5 : decode cX11_parts 5 = .ok (.iconst 2, 1) := by decide +kernel
theorem dX11_parts_6 : decode cX11_parts 6 = .ok (.if_icmp .le 5, 3) := by decide +kernel
theorem dX11_parts_9 : decode cX11_parts 9 = .ok (.iconst (-1), 1) := by decide +kernel
theorem dX11_parts_10 : decode cX11_parts 10 = .ok (.ireturn, 1) := by decide +kernel
theorem dX11_parts_11 : decode cX11_parts 11 = .ok (.aload_n 0, 1) := by decide +kernel
theorem dX11_parts_12 : decode cX11_parts 12 = .ok (.getfield 12, 3) := by decide +kernel
theorem dX11_parts_15 : decode cX11_parts 15 = .ok (.getfield 95, 3) := by decide +kernel
theorem dX11_parts_18 : decode cX11_parts 18 = .ok (.invokevirtual 138, 3) := by decide +kernel
theorem dX11_parts_21 : decode cX11_parts 21 = .ok (.ifCond .eq 6, 3) := by decide +kernel
theorem dX11_parts_24 : decode cX11_parts 24 = .ok (.bipush (-8), 2) := by decide +kernel
theorem dX11_parts_26 : decode cX11_parts 26 = .ok (.ireturn, 1) := by decide +kernel
theorem dX11_parts_27 : decode cX11_parts 27 = .ok (.aload_n 0, 1) := by decide +kernel
theorem dX11_parts_28 : decode cX11_parts 28 = .ok (.getfield 42, 3) := by decide +kernel
theorem dX11_parts_31 : decode cX11_parts 31 = .ok (.aload_n 0, 1) := by decide +kernel
theorem dX11_parts_32 : decode cX11_parts 32 = .ok (.getfield 12, 3) := by decide +kernel
theorem dX11_parts_35 : decode cX11_parts 35 = .ok (.getfield 95, 3) := by decide +kernel
theorem dX11_parts_38 : decode cX11_parts 38 = .ok (.invokevirtual 142, 3) := by decide +kernel
theorem dX11_parts_41 : decode cX11_parts 41 = .ok (.iload_n 1, 1) := by decide +kernel
theorem dX11_parts_42 : decode cX11_parts 42 = .ok (.ifCond .ne 11, 3) := by decide +kernel
theorem dX11_parts_45 : decode cX11_parts 45 = .ok (.aload_n 0, 1) := by decide +kernel
theorem dX11_parts_46 : decode cX11_parts 46 = .ok (.getfield 42, 3) := by decide +kernel
theorem dX11_parts_49 : decode cX11_parts 49 = .ok (.getfield 146, 3) := by decide +kernel
theorem dX11_parts_52 : decode cX11_parts 52 = .ok (.ireturn, 1) := by decide +kernel
theorem dX11_parts_53 : decode cX11_parts 53 = .ok (.iload_n 1, 1) := by decide +kernel
theorem dX11_parts_54 : decode cX11_parts 54 = .ok (.iconst 1, 1) := by decide +kernel
theorem dX11_parts_55 : decode cX11_parts 55 = .ok (.if_icmp .ne 26, 3) := by decide +kernel
theorem dX11_parts_58 : decode cX11_parts 58 = .ok (.aload_n 0, 1) := by decide +kernel
theorem dX11_parts_59 : decode cX11_parts 59 = .ok (.getfield 42, 3) := by decide +kernel
theorem dX11_parts_62 : decode cX11_parts 62 = .ok (.getfield 146, 3) := by decide +kernel
theorem dX11_parts_65 : decode cX11_parts 65 = .ok (.ifCond .ne 8, 3) := by decide +kernel
theorem dX11_parts_68 : decode cX11_parts 68 = .ok (.bipush (-5), 2) := by decide +kernel
theorem dX11_parts_70 : decode cX11_parts 70 = .ok (.goto 10, 3) := by decide +kernel
theorem dX11_parts_73 : decode cX11_parts 73 = .ok (.aload_n 0, 1) := by decide +kernel
theorem dX11_parts_74 : decode cX11_parts 74 = .ok (.getfield 42, 3) := by decide +kernel
theorem dX11_parts_77 : decode cX11_parts 77 = .ok (.getfield 149, 3) := by decide +kernel
theorem dX11_parts_80 : decode cX11_parts 80 = .ok (.ireturn, 1) := by decide +kernel
theorem dX11_parts_81 : decode cX11_parts 81 = .ok (.aload_n 0, 1) := by decide +kernel
theorem dX11_parts_82 : decode cX11_parts 82 = .ok (.getfield 42, 3) := by decide +kernel
theorem dX11_parts_85 : decode cX11_parts 85 = .ok (.getfield 152, 3) := by decide +kernel
theorem dX11_parts_88 : decode cX11_parts 88 = .ok (.ireturn, 1) := by decide +kernel
theorem dX11_part_0 : decode cX11_part 0 = .ok (.aload_n 0, 1) := by decide +kernel
theorem dX11_part_1 : decode cX11_part 1 = .ok (.getfield 12, 3) := by decide +kernel
theorem dX11_part_4 : decode cX11_part 4 = .ok (.getfield 95, 3) := by decide +kernel
theorem dX11_part_7 : decode cX11_part 7 = .ok (.astore_n 2, 1) := by decide +kernel
theorem dX11_part_8 : decode cX11_part 8 = .ok (.aload_n 2, 1) := by decide +kernel
theorem dX11_part_9 : decode cX11_part 9 = .ok (.iload_n 1, 1) := by decide +kernel
theorem dX11_part_10 : decode cX11_part 10 = .ok (.invokevirtual 106, 3) := by decide +kernel
theorem dX11_part_13 : decode cX11_part 13 = .ok (.ifCond .ne 5, 3) := by decide +kernel
theorem dX11_part_16 : decode cX11_part 16 = .ok (.iconst (-1), 1) := by decide +kernel
theorem dX11_part_17 : decode cX11_part 17 = .ok (.ireturn, 1) := by decide +kernel
theorem dX11_part_18 : decode cX11_part 18 = .ok (.aload_n 2, 1) := by decide +kernel
theorem dX11_part_19 : decode cX11_part 19 = .ok (.invokevirtual 138, 3) := by decide +kernel
theorem dX11_part_22 : decode cX11_part 22 = .ok (.ifCond .eq 6, 3) := by decide +kernel
theorem dX11_part_25 : decode cX11_part 25 = .ok (.bipush (-8), 2) := by decide +kernel
theorem dX11_part_27 : decode cX11_part 27 = .ok (.ireturn, 1) := by decide +kernel
theorem dX11_part_28 : decode cX11_part 28 = .ok (.aload_n 0, 1) := by decide +kernel
theorem dX11_part_29 : decode cX11_part 29 = .ok (.getfield 42, 3) := by decide +kernel
theorem dX11_part_32 : decode cX11_part 32 = .ok (.aload_n 2, 1) := by decide +kernel
theorem dX11_part_33 : decode cX11_part 33 = .ok (.invokevirtual 142, 3) := by decide +kernel
theorem dX11_part_36 : decode cX11_part 36 = .ok (.aload_n 0, 1) := by decide +kernel
theorem dX11_part_37 : decode cX11_part 37 = .ok (.getfield 42, 3) := by decide +kernel
theorem dX11_part_40 : decode cX11_part 40 = .ok (.getfield 146, 3) := by decide +kernel
theorem dX11_part_43 : decode cX11_part 43 = .ok (.ifCond .ne 8, 3) := by decide +kernel
theorem dX11_part_46 : decode cX11_part 46 = .ok (.bipush (-5), 2) := by decide +kernel
theorem dX11_part_48 : decode cX11_part 48 = .ok (.goto 12, 3) := by decide +kernel
theorem dX11_part_51 : decode cX11_part 51 = .ok (.aload_n 0, 1) := by decide +kernel
theorem dX11_part_52 : decode cX11_part 52 = .ok (.getfield 42, 3) := by decide +kernel
theorem dX11_part_55 : decode cX11_part 55 = .ok (.getfield 155, 3) := by decide +kernel
theorem dX11_part_58 : decode cX11_part 58 = .ok (.iload_n 1, 1) := by decide +kernel
theorem dX11_part_59 : decode cX11_part 59 = .ok (.iaload, 1) := by decide +kernel
theorem dX11_part_60 : decode cX11_part 60 = .ok (.ireturn, 1) := by decide +kernel
theorem dX11_take_0 : decode cX11_take 0 = .ok (.aload_n 0, 1) := by decide +kernel
theorem dX11_take_1 : decode cX11_take 1 = .ok (.getfield 12, 3) := by decide +kernel
theorem dX11_take_4 : decode cX11_take 4 = .ok (.getfield 95, 3) := by decide +kernel
theorem dX11_take_7 : decode cX11_take 7 = .ok (.astore_n 1, 1) := by decide +kernel
theorem dX11_take_8 : decode cX11_take 8 = .ok (.aload_n 1, 1) := by decide +kernel
theorem dX11_take_9 : decode cX11_take 9 = .ok (.invokevirtual 138, 3) := by decide +kernel
theorem dX11_take_12 : decode cX11_take 12 = .ok (.ifCond .eq 6, 3) := by decide +kernel
theorem dX11_take_15 : decode cX11_take 15 = .ok (.bipush (-8), 2) := by decide +kernel
theorem dX11_take_17 : decode cX11_take 17 = .ok (.ireturn, 1) := by decide +kernel
theorem dX11_take_18 : decode cX11_take 18 = .ok (.aload_n 0, 1) := by decide +kernel
theorem dX11_take_19 : decode cX11_take 19 = .ok (.aload_n 1, 1) := by decide +kernel
theorem dX11_take_20 : decode cX11_take 20 = .ok (.invokevirtual 158, 3) := by decide +kernel
theorem dX11_take_23 : decode cX11_take 23 = .ok (.ifCond .eq 13, 3) := by decide +kernel
theorem dX11_take_26 : decode cX11_take 26 = .ok (.aload_n 0, 1) := by decide +kernel
theorem dX11_take_27 : decode cX11_take 27 = .ok (.getfield 42, 3) := by decide +kernel
theorem dX11_take_30 : decode cX11_take 30 = .ok (.getfield 149, 3) := by decide +kernel
theorem dX11_take_33 : decode cX11_take 33 = .ok (.goto 5, 3) := by decide +kernel
theorem dX11_take_36 : decode cX11_take 36 = .ok (.bipush (-5), 2) := by decide +kernel
theorem dX11_take_38 : decode cX11_take 38 = .ok (.ireturn, 1) := by decide +kernel
theorem dX11_pieces_0 : decode cX11_pieces 0 = .ok (.aload_n 0, 1) := by decide +kernel
theorem dX11_pieces_1 : decode cX11_pieces 1 = .ok (.getfield 12, 3) := by decide +kernel
theorem dX11_pieces_4 : decode cX11_pieces 4 = .ok (.getfield 95, 3) := by decide +kernel
theorem dX11_pieces_7 : decode cX11_pieces 7 = .ok (.invokevirtual 138, 3) := by decide +kernel
theorem dX11_pieces_10 : decode cX11_pieces 10 = .ok (.ifCond .eq 6, 3) := by decide +kernel
theorem dX11_pieces_13 : decode cX11_pieces 13 = .ok (.bipush (-8), 2) := by decide +kernel
theorem dX11_pieces_15 : decode cX11_pieces 15 = .ok (.ireturn, 1) := by decide +kernel
theorem dX11_pieces_16 : decode cX11_pieces 16 = .ok (.aload_n 0, 1) := by decide +kernel
theorem dX11_pieces_17 : decode cX11_pieces 17 = .ok (.getfield 77, 3) := by decide +kernel
theorem dX11_pieces_20 : decode cX11_pieces 20 = .ok (.aload_n 0, 1) := by decide +kernel
theorem dX11_pieces_21 : decode cX11_pieces 21 = .ok (.getfield 12, 3) := by decide +kernel
theorem dX11_pieces_24 : decode cX11_pieces 24 = .ok (.getfield 95, 3) := by decide +kernel
theorem dX11_pieces_27 : decode cX11_pieces 27 = .ok (.invokevirtual 161, 3) := by decide +kernel
theorem dX11_pieces_30 : decode cX11_pieces 30 = .ok (.iconst 0, 1) := by decide +kernel
theorem dX11_pieces_31 : decode cX11_pieces 31 = .ok (.istore_n 1, 1) := by decide +kernel
theorem dX11_pieces_32 : decode cX11_pieces 32 = .ok (.iconst 0, 1) := by decide +kernel
theorem dX11_pieces_33 : decode cX11_pieces 33 = .ok (.istore_n 2, 1) := by decide +kernel
theorem dX11_pieces_34 : decode cX11_pieces 34 = .ok (.iload_n 2, 1) := by decide +kernel
theorem dX11_pieces_35 : decode cX11_pieces 35 = .ok (.sipush 270, 3) := by decide +kernel
theorem dX11_pieces_38 : decode cX11_pieces 38 = .ok (.if_icmp .ge 23, 3) := by decide +kernel
theorem dX11_pieces_41 : decode cX11_pieces 41 = .ok (.aload_n 0, 1) := by decide +kernel
theorem dX11_pieces_42 : decode cX11_pieces 42 = .ok (.aload_n 0, 1) := by decide +kernel
theorem dX11_pieces_43 : decode cX11_pieces 43 = .ok (.getfield 77, 3) := by decide +kernel
theorem dX11_pieces_46 : decode cX11_pieces 46 = .ok (.invokevirtual 158, 3) := by decide +kernel
theorem dX11_pieces_49 : decode cX11_pieces 49 = .ok (.ifCond .eq 12, 3) := by decide +kernel
theorem dX11_pieces_52 : decode cX11_pieces 52 = .ok (.iinc 1 1, 3) := by decide +kernel
theorem dX11_pieces_55 : decode cX11_pieces 55 = .ok (.iinc 2 1, 3) := by decide +kernel
theorem dX11_pieces_58 : decode cX11_pieces 58 = .ok (.goto (-24), 3) := by decide +kernel
theorem dX11_pieces_61 : decode cX11_pieces 61 = .ok (.iload_n 1, 1) := by decide +kernel
theorem dX11_pieces_62 : decode cX11_pieces 62 = .ok (.ireturn, 1) := by decide +kernel
theorem dX11_turn_0 : decode cX11_turn 0 = .ok (.aload_n 0, 1) := by decide +kernel
theorem dX11_turn_1 : decode cX11_turn 1 = .ok (.iconst 0, 1) := by decide +kernel
theorem dX11_turn_2 : decode cX11_turn 2 = .ok (.iload_n 1, 1) := by decide +kernel
theorem dX11_turn_3 : decode cX11_turn 3 = .ok (.invokevirtual 164, 3) := by decide +kernel
theorem dX11_turn_6 : decode cX11_turn 6 = .ok (.pop, 1) := by decide +kernel
theorem dX11_turn_7 : decode cX11_turn 7 = .ok (.aload_n 0, 1) := by decide +kernel
theorem dX11_turn_8 : decode cX11_turn 8 = .ok (.getfield 12, 3) := by decide +kernel
theorem dX11_turn_11 : decode cX11_turn 11 = .ok (.getfield 95, 3) := by decide +kernel
theorem dX11_turn_14 : decode cX11_turn 14 = .ok (.getfield 109, 3) := by decide +kernel
theorem dX11_turn_17 : decode cX11_turn 17 = .ok (.iconst 0, 1) := by decide +kernel
theorem dX11_turn_18 : decode cX11_turn 18 = .ok (.iaload, 1) := by decide +kernel
theorem dX11_turn_19 : decode cX11_turn 19 = .ok (.ireturn, 1) := by decide +kernel
theorem dX11_times_0 : decode cX11_times 0 = .ok (.iload_n 1, 1) := by decide +kernel
theorem dX11_times_1 : decode cX11_times 1 = .ok (.iconst 1, 1) := by decide +kernel
theorem dX11_times_2 : decode cX11_times 2 = .ok (.if_icmp .lt 9, 3) := by decide +kernel
theorem dX11_times_5 : decode cX11_times 5 = .ok (.iload_n 1, 1) := by decide +kernel
theorem dX11_times_6 : decode cX11_times 6 = .ok (.bipush 99, 2) := by decide +kernel
theorem dX11_times_8 : decode cX11_times 8 = .ok (.if_icmp .le 6, 3) := by decide +kernel
theorem dX11_times_11 : decode cX11_times 11 = .ok (.bipush (-2), 2) := by decide +kernel
theorem dX11_times_13 : decode cX11_times 13 = .ok (.ireturn, 1) := by decide +kernel
theorem dX11_times_14 : decode cX11_times 14 = .ok (.aload_n 0, 1) := by decide +kernel
theorem dX11_times_15 : decode cX11_times 15 = .ok (.iconst 1, 1) := by decide +kernel
theorem dX11_times_16 : decode cX11_times 16 = .ok (.iload_n 1, 1) := by decide +kernel
theorem dX11_times_17 : decode cX11_times 17 = .ok (.invokevirtual 164, 3) := by decide +kernel
theorem dX11_times_20 : decode cX11_times 20 = .ok (.ifCond .eq 18, 3) := by decide +kernel
theorem dX11_times_23 : decode cX11_times 23 = .ok (.aload_n 0, 1) := by decide +kernel
theorem dX11_times_24 : decode cX11_times 24 = .ok (.getfield 12, 3) := by decide +kernel
theorem dX11_times_27 : decode cX11_times 27 = .ok (.getfield 95, 3) := by decide +kernel
theorem dX11_times_30 : decode cX11_times 30 = .ok (.getfield 109, 3) := by decide +kernel
theorem dX11_times_33 : decode cX11_times 33 = .ok (.iconst 0, 1) := by decide +kernel
theorem dX11_times_34 : decode cX11_times 34 = .ok (.iaload, 1) := by decide +kernel
theorem dX11_times_35 : decode cX11_times 35 = .ok (.goto 5, 3) := by decide +kernel
theorem dX11_times_38 : decode cX11_times 38 = .ok (.bipush (-3), 2) := by decide +kernel
theorem dX11_times_40 : decode cX11_times 40 = .ok (.ireturn, 1) := by decide +kernel
theorem dX11_mirror_0 : decode cX11_mirror 0 = .ok (.aload_n 0, 1) := by decide +kernel
theorem dX11_mirror_1 : decode cX11_mirror 1 = .ok (.iconst 2, 1) := by decide +kernel
theorem dX11_mirror_2 : decode cX11_mirror 2 = .ok (.iconst 0, 1) := by decide +kernel
theorem dX11_mirror_3 : decode cX11_mirror 3 = .ok (.invokevirtual 164, 3) := by decide +kernel
theorem dX11_mirror_6 : decode cX11_mirror 6 = .ok (.pop, 1) := by decide +kernel
theorem dX11_mirror_7 : decode cX11_mirror 7 = .ok (.aload_n 0, 1) := by decide +kernel
theorem dX11_mirror_8 : decode cX11_mirror 8 = .ok (.getfield 12, 3) := by decide +kernel
theorem dX11_mirror_11 : decode cX11_mirror 11 = .ok (.getfield 95, 3) := by decide +kernel
theorem dX11_mirror_14 : decode cX11_mirror 14 = .ok (.getfield 109, 3) := by decide +kernel
theorem dX11_mirror_17 : decode cX11_mirror 17 = .ok (.iconst 0, 1) := by decide +kernel
theorem dX11_mirror_18 : decode cX11_mirror 18 = .ok (.iaload, 1) := by decide +kernel
theorem dX11_mirror_19 : decode cX11_mirror 19 = .ok (.ireturn, 1) := by decide +kernel
theorem dX11_raise_0 : decode cX11_raise 0 = .ok (.iload_n 1, 1) := by decide +kernel
theorem dX11_raise_1 : decode cX11_raise 1 = .ok (.aload_n 0, 1) := by decide +kernel
theorem dX11_raise_2 : decode cX11_raise 2 = .ok (.getfield 12, 3) := by decide +kernel
theorem dX11_raise_5 : decode cX11_raise 5 = .ok (.getfield 95, 3) := by decide +kernel
theorem dX11_raise_8 : decode cX11_raise 8 = .ok (.getfield 98, 3) := by decide +kernel
theorem dX11_raise_11 : decode cX11_raise 11 = .ok (.invokestatic 168, 3) := by decide +kernel
theorem dX11_raise_14 : decode cX11_raise 14 = .ok (.ifCond .ne 5, 3) := by decide +kernel
theorem dX11_raise_17 : decode cX11_raise 17 = .ok (.iconst (-1), 1) := by decide +kernel
theorem dX11_raise_18 : decode cX11_raise 18 = .ok (.ireturn, 1) := by decide +kernel
theorem dX11_raise_19 : decode cX11_raise 19 = .ok (.aload_n 0, 1) := by decide +kernel
theorem dX11_raise_20 : decode cX11_raise 20 = .ok (.iconst 3, 1) := by decide +kernel
theorem dX11_raise_21 : decode cX11_raise 21 = .ok (.iload_n 1, 1) := by decide +kernel
theorem dX11_raise_22 : decode cX11_raise 22 = .ok (.invokevirtual 164, 3) := by decide +kernel
theorem dX11_raise_25 : decode cX11_raise 25 = .ok (.ifCond .eq 18, 3) := by decide +kernel
theorem dX11_raise_28 : decode cX11_raise 28 = .ok (.aload_n 0, 1) := by decide +kernel
theorem dX11_raise_29 : decode cX11_raise 29 = .ok (.getfield 12, 3) := by decide +kernel
theorem dX11_raise_32 : decode cX11_raise 32 = .ok (.getfield 95, 3) := by decide +kernel
theorem dX11_raise_35 : decode cX11_raise 35 = .ok (.getfield 109, 3) := by decide +kernel
theorem dX11_raise_38 : decode cX11_raise 38 = .ok (.iconst 0, 1) := by decide +kernel
theorem dX11_raise_39 : decode cX11_raise 39 = .ok (.iaload, 1) := by decide +kernel
theorem dX11_raise_40 : decode cX11_raise 40 = .ok (.goto 5, 3) := by decide +kernel
theorem dX11_raise_43 : decode cX11_raise 43 = .ok (.bipush (-4), 2) := by decide +kernel
theorem dX11_raise_45 : decode cX11_raise 45 = .ok (.ireturn, 1) := by decide +kernel
theorem dX11_stays_0 : decode cX11_stays 0 = .ok (.iload_n 1, 1) := by decide +kernel
theorem dX11_stays_1 : decode cX11_stays 1 = .ok (.ifCond .eq 10, 3) := by decide +kernel
theorem dX11_stays_4 : decode cX11_stays 4 = .ok (.iload_n 1, 1) := by decide +kernel
theorem dX11_stays_5 : decode cX11_stays 5 = .ok (.iconst 1, 1) := by decide +kernel
theorem dX11_stays_6 : decode cX11_stays 6 = .ok (.if_icmp .eq 5, 3) := by decide +kernel
theorem dX11_stays_9 : decode cX11_stays 9 = .ok (.iconst (-1), 1) := by decide +kernel
theorem dX11_stays_10 : decode cX11_stays 10 = .ok (.ireturn, 1) := by decide +kernel
theorem dX11_stays_11 : decode cX11_stays 11 = .ok (.aload_n 0, 1) := by decide +kernel
theorem dX11_stays_12 : decode cX11_stays 12 = .ok (.getfield 12, 3) := by decide +kernel
theorem dX11_stays_15 : decode cX11_stays 15 = .ok (.getfield 95, 3) := by decide +kernel
theorem dX11_stays_18 : decode cX11_stays 18 = .ok (.astore_n 2, 1) := by decide +kernel
theorem dX11_stays_19 : decode cX11_stays 19 = .ok (.iconst 1, 1) := by decide +kernel
theorem dX11_stays_20 : decode cX11_stays 20 = .ok (.istore_n 3, 1) := by decide +kernel
theorem dX11_stays_21 : decode cX11_stays 21 = .ok (.aload_n 2, 1) := by decide +kernel
theorem dX11_stays_22 : decode cX11_stays 22 = .ok (.getfield 98, 3) := by decide +kernel
theorem dX11_stays_25 : decode cX11_stays 25 = .ok (.istore 4, 2) := by decide +kernel
theorem dX11_stays_27 : decode cX11_stays 27 = .ok (.aload_n 2, 1) := by decide +kernel
theorem dX11_stays_28 : decode cX11_stays 28 = .ok (.getfield 98, 3) := by decide +kernel
theorem dX11_stays_31 : decode cX11_stays 31 = .ok (.iconst 1, 1) := by decide +kernel
theorem dX11_stays_32 : decode cX11_stays 32 = .ok (.isub, 1) := by decide +kernel
theorem dX11_stays_33 : decode cX11_stays 33 = .ok (.istore 5, 2) := by decide +kernel
theorem dX11_stays_35 : decode cX11_stays 35 = .ok (.iload 5, 2) := by decide +kernel
theorem dX11_stays_37 : decode cX11_stays 37 = .ok (.ifCond .le 26, 3) := by decide +kernel
theorem dX11_stays_40 : decode cX11_stays 40 = .ok (.aload_n 2, 1) := by decide +kernel
theorem dX11_stays_41 : decode cX11_stays 41 = .ok (.iload 5, 2) := by decide +kernel
theorem dX11_stays_43 : decode cX11_stays 43 = .ok (.iconst 0, 1) := by decide +kernel
theorem dX11_stays_44 : decode cX11_stays 44 = .ok (.invokevirtual 171, 3) := by decide +kernel
theorem dX11_stays_47 : decode cX11_stays 47 = .ok (.ifCond .ne 10, 3) := by decide +kernel
theorem dX11_stays_50 : decode cX11_stays 50 = .ok (.iinc 3 1, 3) := by decide +kernel
theorem dX11_stays_53 : decode cX11_stays 53 = .ok (.iload 5, 2) := by decide +kernel
theorem dX11_stays_55 : decode cX11_stays 55 = .ok (.istore 4, 2) := by decide +kernel
theorem dX11_stays_57 : decode cX11_stays 57 = .ok (.iinc 5 (-1), 3) := by decide +kernel
theorem dX11_stays_60 : decode cX11_stays 60 = .ok (.goto (-25), 3) := by decide +kernel
theorem dX11_stays_63 : decode cX11_stays 63 = .ok (.iload_n 1, 1) := by decide +kernel
theorem dX11_stays_64 : decode cX11_stays 64 = .ok (.ifCond .ne 7, 3) := by decide +kernel
theorem dX11_stays_67 : decode cX11_stays 67 = .ok (.iload_n 3, 1) := by decide +kernel
theorem dX11_stays_68 : decode cX11_stays 68 = .ok (.goto 5, 3) := by decide +kernel
theorem dX11_stays_71 : decode cX11_stays 71 = .ok (.iload 4, 2) := by decide +kernel
theorem dX11_stays_73 : decode cX11_stays 73 = .ok (.ireturn, 1) := by decide +kernel
theorem dX11_best_0 : decode cX11_best 0 = .ok (.aload_n 0, 1) := by decide +kernel
theorem dX11_best_1 : decode cX11_best 1 = .ok (.getfield 12, 3) := by decide +kernel
theorem dX11_best_4 : decode cX11_best 4 = .ok (.getfield 95, 3) := by decide +kernel
theorem dX11_best_7 : decode cX11_best 7 = .ok (.astore_n 1, 1) := by decide +kernel
theorem dX11_best_8 : decode cX11_best 8 = .ok (.iconst 0, 1) := by decide +kernel
theorem dX11_best_9 : decode cX11_best 9 = .ok (.istore_n 2, 1) := by decide +kernel
theorem dX11_best_10 : decode cX11_best 10 = .ok (.iconst 1, 1) := by decide +kernel
theorem dX11_best_11 : decode cX11_best 11 = .ok (.istore_n 3, 1) := by decide +kernel
theorem dX11_best_12 : decode cX11_best 12 = .ok (.iload_n 3, 1) := by decide +kernel
theorem dX11_best_13 : decode cX11_best 13 = .ok (.aload_n 1, 1) := by decide +kernel
theorem dX11_best_14 : decode cX11_best 14 = .ok (.getfield 98, 3) := by decide +kernel
theorem dX11_best_17 : decode cX11_best 17 = .ok (.if_icmp .ge 20, 3) := by decide +kernel
theorem dX11_best_20 : decode cX11_best 20 = .ok (.aload_n 1, 1) := by decide +kernel
theorem dX11_best_21 : decode cX11_best 21 = .ok (.iload_n 3, 1) := by decide +kernel
theorem dX11_best_22 : decode cX11_best 22 = .ok (.iload_n 2, 1) := by decide +kernel
theorem dX11_best_23 : decode cX11_best 23 = .ok (.invokevirtual 171, 3) := by decide +kernel
theorem dX11_best_26 : decode cX11_best 26 = .ok (.ifCond .le 5, 3) := by decide +kernel
theorem dX11_best_29 : decode cX11_best 29 = .ok (.iload_n 3, 1) := by decide +kernel
theorem dX11_best_30 : decode cX11_best 30 = .ok (.istore_n 2, 1) := by decide +kernel
theorem dX11_best_31 : decode cX11_best 31 = .ok (.iinc 3 1, 3) := by decide +kernel
theorem dX11_best_34 : decode cX11_best 34 = .ok (.goto (-22), 3) := by decide +kernel
theorem dX11_best_37 : decode cX11_best 37 = .ok (.iload_n 2, 1) := by decide +kernel
theorem dX11_best_38 : decode cX11_best 38 = .ok (.ireturn, 1) := by decide +kernel
theorem dX11_alike_0 : decode cX11_alike 0 = .ok (.iload_n 1, 1) := by decide +kernel
theorem dX11_alike_1 : decode cX11_alike 1 = .ok (.invokestatic 175, 3) := by decide +kernel
theorem dX11_alike_4 : decode cX11_alike 4 = .ok (.ifCond .ne 5, 3) := by decide +kernel
theorem dX11_alike_7 : decode cX11_alike 7 = .ok (.iconst (-1), 1) := by decide +kernel
theorem dX11_alike_8 : decode cX11_alike 8 = .ok (.ireturn, 1) := by decide +kernel
theorem dX11_alike_9 : decode cX11_alike 9 = .ok (.aload_n 0, 1) := by decide +kernel
theorem dX11_alike_10 : decode cX11_alike 10 = .ok (.getfield 56, 3) := by decide +kernel
theorem dX11_alike_13 : decode cX11_alike 13 = .ok (.iload_n 1, 1) := by decide +kernel
theorem dX11_alike_14 : decode cX11_alike 14 = .ok (.aaload, 1) := by decide +kernel
theorem dX11_alike_15 : decode cX11_alike 15 = .ok (.astore_n 2, 1) := by decide +kernel
theorem dX11_alike_16 : decode cX11_alike 16 = .ok (.aload_n 2, 1) := by decide +kernel
theorem dX11_alike_17 : decode cX11_alike 17 = .ok (.invokevirtual 178, 3) := by decide +kernel
theorem dX11_alike_20 : decode cX11_alike 20 = .ok (.ifCond .eq 6, 3) := by decide +kernel
theorem dX11_alike_23 : decode cX11_alike 23 = .ok (.bipush (-11), 2) := by decide +kernel
theorem dX11_alike_25 : decode cX11_alike 25 = .ok (.ireturn, 1) := by decide +kernel
theorem dX11_alike_26 : decode cX11_alike 26 = .ok (.aload_n 2, 1) := by decide +kernel
theorem dX11_alike_27 : decode cX11_alike 27 = .ok (.getfield 181, 3) := by decide +kernel
theorem dX11_alike_30 : decode cX11_alike 30 = .ok (.aload_n 0, 1) := by decide +kernel
theorem dX11_alike_31 : decode cX11_alike 31 = .ok (.getfield 12, 3) := by decide +kernel
theorem dX11_alike_34 : decode cX11_alike 34 = .ok (.getfield 95, 3) := by decide +kernel
theorem dX11_alike_37 : decode cX11_alike 37 = .ok (.getfield 98, 3) := by decide +kernel
theorem dX11_alike_40 : decode cX11_alike 40 = .ok (.if_icmp .eq 6, 3) := by decide +kernel
theorem dX11_alike_43 : decode cX11_alike 43 = .ok (.bipush (-5), 2) := by decide +kernel
theorem dX11_alike_45 : decode cX11_alike 45 = .ok (.ireturn, 1) := by decide +kernel
theorem dX11_alike_46 : decode cX11_alike 46 = .ok (.iconst 0, 1) := by decide +kernel
theorem dX11_alike_47 : decode cX11_alike 47 = .ok (.istore_n 3, 1) := by decide +kernel
theorem dX11_alike_48 : decode cX11_alike 48 = .ok (.iload_n 3, 1) := by decide +kernel
theorem dX11_alike_49 : decode cX11_alike 49 = .ok (.aload_n 0, 1) := by decide +kernel
theorem dX11_alike_50 : decode cX11_alike 50 = .ok (.getfield 12, 3) := by decide +kernel
theorem dX11_alike_53 : decode cX11_alike 53 = .ok (.getfield 95, 3) := by decide +kernel
theorem dX11_alike_56 : decode cX11_alike 56 = .ok (.getfield 98, 3) := by decide +kernel
theorem dX11_alike_59 : decode cX11_alike 59 = .ok (.if_icmp .ge 29, 3) := by decide +kernel
theorem dX11_alike_62 : decode cX11_alike 62 = .ok (.aload_n 0, 1) := by decide +kernel
theorem dX11_alike_63 : decode cX11_alike 63 = .ok (.getfield 12, 3) := by decide +kernel
theorem dX11_alike_66 : decode cX11_alike 66 = .ok (.getfield 95, 3) := by decide +kernel
theorem dX11_alike_69 : decode cX11_alike 69 = .ok (.iload_n 3, 1) := by decide +kernel
theorem dX11_alike_70 : decode cX11_alike 70 = .ok (.aload_n 2, 1) := by decide +kernel
theorem dX11_alike_71 : decode cX11_alike 71 = .ok (.getfield 184, 3) := by decide +kernel
theorem dX11_alike_74 : decode cX11_alike 74 = .ok (.invokevirtual 188, 3) := by decide +kernel
theorem dX11_alike_77 : decode cX11_alike 77 = .ok (.ifCond .eq 5, 3) := by decide +kernel
theorem dX11_alike_80 : decode cX11_alike 80 = .ok (.iload_n 3, 1) := by decide +kernel
theorem dX11_alike_81 : decode cX11_alike 81 = .ok (.ireturn, 1) := by decide +kernel
theorem dX11_alike_82 : decode cX11_alike 82 = .ok (.iinc 3 1, 3) := by decide +kernel
theorem dX11_alike_85 : decode cX11_alike 85 = .ok (.goto (-37), 3) := by decide +kernel
theorem dX11_alike_88 : decode cX11_alike 88 = .ok (.bipush (-5), 2) := by decide +kernel
theorem dX11_alike_90 : decode cX11_alike 90 = .ok (.ireturn, 1) := by decide +kernel
theorem dX11_prime_0 : decode cX11_prime 0 = .ok (.iload_n 1, 1) := by decide +kernel
theorem dX11_prime_1 : decode cX11_prime 1 = .ok (.iconst (-1), 1) := by decide +kernel
theorem dX11_prime_2 : decode cX11_prime 2 = .ok (.if_icmp .ge 5, 3) := by decide +kernel
theorem dX11_prime_5 : decode cX11_prime 5 = .ok (.iconst (-1), 1) := by decide +kernel
theorem dX11_prime_6 : decode cX11_prime 6 = .ok (.ireturn, 1) := by decide +kernel
theorem dX11_prime_7 : decode cX11_prime 7 = .ok (.iconst 0, 1) := by decide +kernel
theorem dX11_prime_8 : decode cX11_prime 8 = .ok (.istore_n 2, 1) := by decide +kernel
theorem dX11_prime_9 : decode cX11_prime 9 = .ok (.iconst 2, 1) := by decide +kernel
theorem dX11_prime_10 : decode cX11_prime 10 = .ok (.istore_n 3, 1) := by decide +kernel
theorem dX11_prime_11 : decode cX11_prime 11 = .ok (.iload_n 3, 1) := by decide +kernel
theorem dX11_prime_12 : decode cX11_prime 12 = .ok (.aload_n 0, 1) := by decide +kernel
theorem dX11_prime_13 : decode cX11_prime 13 = .ok (.getfield 12, 3) := by decide +kernel
theorem dX11_prime_16 : decode cX11_prime 16 = .ok (.getfield 95, 3) := by decide +kernel
theorem dX11_prime_19 : decode cX11_prime 19 = .ok (.getfield 98, 3) := by decide +kernel
theorem dX11_prime_22 : decode cX11_prime 22 = .ok (.if_icmp .gt 36, 3) := by decide +kernel
theorem dX11_prime_25 : decode cX11_prime 25 = .ok (.iload_n 3, 1) := by decide +kernel
theorem dX11_prime_26 : decode cX11_prime 26 = .ok (.aload_n 0, 1) := by decide +kernel
theorem dX11_prime_27 : decode cX11_prime 27 = .ok (.getfield 12, 3) := by decide +kernel
theorem dX11_prime_30 : decode cX11_prime 30 = .ok (.getfield 95, 3) := by decide +kernel
theorem dX11_prime_33 : decode cX11_prime 33 = .ok (.getfield 98, 3) := by decide +kernel
theorem dX11_prime_36 : decode cX11_prime 36 = .ok (.invokestatic 168, 3) := by decide +kernel
theorem dX11_prime_39 : decode cX11_prime 39 = .ok (.ifCond .eq 13, 3) := by decide +kernel
theorem dX11_prime_42 : decode cX11_prime 42 = .ok (.iload_n 2, 1) := by decide +kernel
theorem dX11_prime_43 : decode cX11_prime 43 = .ok (.iload_n 1, 1) := by decide +kernel
theorem dX11_prime_44 : decode cX11_prime 44 = .ok (.if_icmp .ne 5, 3) := by decide +kernel
theorem dX11_prime_47 : decode cX11_prime 47 = .ok (.iload_n 3, 1) := by decide +kernel
theorem dX11_prime_48 : decode cX11_prime 48 = .ok (.ireturn, 1) := by decide +kernel
theorem dX11_prime_49 : decode cX11_prime 49 = .ok (.iinc 2 1, 3) := by decide +kernel
theorem dX11_prime_52 : decode cX11_prime 52 = .ok (.iinc 3 1, 3) := by decide +kernel
theorem dX11_prime_55 : decode cX11_prime 55 = .ok (.goto (-44), 3) := by decide +kernel
theorem dX11_prime_58 : decode cX11_prime 58 = .ok (.iload_n 1, 1) := by decide +kernel
theorem dX11_prime_59 : decode cX11_prime 59 = .ok (.iconst (-1), 1) := by decide +kernel
theorem dX11_prime_60 : decode cX11_prime 60 = .ok (.if_icmp .ne 7, 3) := by decide +kernel
theorem dX11_prime_63 : decode cX11_prime 63 = .ok (.iload_n 2, 1) := by decide +kernel
theorem dX11_prime_64 : decode cX11_prime 64 = .ok (.goto 4, 3) := by decide +kernel
theorem dX11_prime_67 : decode cX11_prime 67 = .ok (.iconst (-1), 1) := by decide +kernel
theorem dX11_prime_68 : decode cX11_prime 68 = .ok (.ireturn, 1) := by decide +kernel
theorem dX11_layer_0 : decode cX11_layer 0 = .ok (.aload_n 0, 1) := by decide +kernel
theorem dX11_layer_1 : decode cX11_layer 1 = .ok (.getfield 12, 3) := by decide +kernel
theorem dX11_layer_4 : decode cX11_layer 4 = .ok (.getfield 95, 3) := by decide +kernel
theorem dX11_layer_7 : decode cX11_layer 7 = .ok (.astore 4, 2) := by decide +kernel
theorem dX11_layer_9 : decode cX11_layer 9 = .ok (.iload_n 1, 1) := by decide +kernel
theorem dX11_layer_10 : decode cX11_layer 10 = .ok (.aload 4, 2) := by decide +kernel
theorem dX11_layer_12 : decode cX11_layer 12 = .ok (.getfield 98, 3) := by decide +kernel
theorem dX11_layer_15 : decode cX11_layer 15 = .ok (.invokestatic 168, 3) := by decide +kernel
theorem dX11_layer_18 : decode cX11_layer 18 = .ok (.ifCond .eq 21, 3) := by decide +kernel
theorem dX11_layer_21 : decode cX11_layer 21 = .ok (.iload_n 2, 1) := by decide +kernel
theorem dX11_layer_22 : decode cX11_layer 22 = .ok (.ifCond .lt 17, 3) := by decide +kernel
theorem dX11_layer_25 : decode cX11_layer 25 = .ok (.iload_n 2, 1) := by decide +kernel
theorem dX11_layer_26 : decode cX11_layer 26 = .ok (.iload_n 1, 1) := by decide +kernel
theorem dX11_layer_27 : decode cX11_layer 27 = .ok (.if_icmp .ge 12, 3) := by decide +kernel
theorem dX11_layer_30 : decode cX11_layer 30 = .ok (.aload 4, 2) := by decide +kernel
theorem dX11_layer_32 : decode cX11_layer 32 = .ok (.iload_n 3, 1) := by decide +kernel
theorem dX11_layer_33 : decode cX11_layer 33 = .ok (.invokevirtual 106, 3) := by decide +kernel
theorem dX11_layer_36 : decode cX11_layer 36 = .ok (.ifCond .ne 5, 3) := by decide +kernel
theorem dX11_layer_39 : decode cX11_layer 39 = .ok (.iconst (-1), 1) := by decide +kernel
theorem dX11_layer_40 : decode cX11_layer 40 = .ok (.ireturn, 1) := by decide +kernel
theorem dX11_layer_41 : decode cX11_layer 41 = .ok (.aload 4, 2) := by decide +kernel
theorem dX11_layer_43 : decode cX11_layer 43 = .ok (.iload_n 1, 1) := by decide +kernel
theorem dX11_layer_44 : decode cX11_layer 44 = .ok (.iload_n 2, 1) := by decide +kernel
theorem dX11_layer_45 : decode cX11_layer 45 = .ok (.aload 4, 2) := by decide +kernel
theorem dX11_layer_47 : decode cX11_layer 47 = .ok (.getfield 98, 3) := by decide +kernel
theorem dX11_layer_50 : decode cX11_layer 50 = .ok (.iload_n 1, 1) := by decide +kernel
theorem dX11_layer_51 : decode cX11_layer 51 = .ok (.invokestatic 192, 3) := by decide +kernel
theorem dX11_layer_54 : decode cX11_layer 54 = .ok (.imul, 1) := by decide +kernel
theorem dX11_layer_55 : decode cX11_layer 55 = .ok (.iload_n 3, 1) := by decide +kernel
theorem dX11_layer_56 : decode cX11_layer 56 = .ok (.invokestatic 195, 3) := by decide +kernel
theorem dX11_layer_59 : decode cX11_layer 59 = .ok (.ireturn, 1) := by decide +kernel
theorem dX11_layers_0 : decode cX11_layers 0 = .ok (.iload_n 1, 1) := by decide +kernel
theorem dX11_layers_1 : decode cX11_layers 1 = .ok (.aload_n 0, 1) := by decide +kernel
theorem dX11_layers_2 : decode cX11_layers 2 = .ok (.getfield 12, 3) := by decide +kernel
theorem dX11_layers_5 : decode cX11_layers 5 = .ok (.getfield 95, 3) := by decide +kernel
theorem dX11_layers_8 : decode cX11_layers 8 = .ok (.getfield 98, 3) := by decide +kernel
theorem dX11_layers_11 : decode cX11_layers 11 = .ok (.invokestatic 168, 3) := by decide +kernel
theorem dX11_layers_14 : decode cX11_layers 14 = .ok (.ifCond .eq 12, 3) := by decide +kernel
theorem dX11_layers_17 : decode cX11_layers 17 = .ok (.iload_n 2, 1) := by decide +kernel
theorem dX11_layers_18 : decode cX11_layers 18 = .ok (.ifCond .lt 8, 3) := by decide +kernel
theorem dX11_layers_21 : decode cX11_layers 21 = .ok (.iload_n 2, 1) := by decide +kernel
theorem dX11_layers_22 : decode cX11_layers 22 = .ok (.iconst 1, 1) := by decide +kernel
theorem dX11_layers_23 : decode cX11_layers 23 = .ok (.if_icmp .le 5, 3) := by decide +kernel
theorem dX11_layers_26 : decode cX11_layers 26 = .ok (.iconst (-1), 1) := by decide +kernel
theorem dX11_layers_27 : decode cX11_layers 27 = .ok (.ireturn, 1) := by decide +kernel
theorem dX11_layers_28 : decode cX11_layers 28 = .ok (.aload_n 0, 1) := by decide +kernel
theorem dX11_layers_29 : decode cX11_layers 29 = .ok (.aload_n 0, 1) := by decide +kernel
theorem dX11_layers_30 : decode cX11_layers 30 = .ok (.getfield 12, 3) := by decide +kernel
theorem dX11_layers_33 : decode cX11_layers 33 = .ok (.getfield 95, 3) := by decide +kernel
theorem dX11_layers_36 : decode cX11_layers 36 = .ok (.iload_n 1, 1) := by decide +kernel
theorem dX11_layers_37 : decode cX11_layers 37 = .ok (.invokevirtual 199, 3) := by decide +kernel
theorem dX11_layers_40 : decode cX11_layers 40 = .ok (.istore_n 3, 1) := by decide +kernel
theorem dX11_layers_41 : decode cX11_layers 41 = .ok (.iload_n 2, 1) := by decide +kernel
theorem dX11_layers_42 : decode cX11_layers 42 = .ok (.iconst 1, 1) := by decide +kernel
theorem dX11_layers_43 : decode cX11_layers 43 = .ok (.if_icmp .ne 5, 3) := by decide +kernel
theorem dX11_layers_46 : decode cX11_layers 46 = .ok (.iload_n 3, 1) := by decide +kernel
theorem dX11_layers_47 : decode cX11_layers 47 = .ok (.ireturn, 1) := by decide +kernel
theorem dX11_layers_48 : decode cX11_layers 48 = .ok (.iload_n 3, 1) := by decide +kernel
theorem dX11_layers_49 : decode cX11_layers 49 = .ok (.bipush (-5), 2) := by decide +kernel
theorem dX11_layers_51 : decode cX11_layers 51 = .ok (.if_icmp .ne 7, 3) := by decide +kernel
theorem dX11_layers_54 : decode cX11_layers 54 = .ok (.iconst 1, 1) := by decide +kernel
theorem dX11_layers_55 : decode cX11_layers 55 = .ok (.goto 4, 3) := by decide +kernel
theorem dX11_layers_58 : decode cX11_layers 58 = .ok (.iconst 0, 1) := by decide +kernel
theorem dX11_layers_59 : decode cX11_layers 59 = .ok (.ireturn, 1) := by decide +kernel
theorem dX11_possible_0 : decode cX11_possible 0 = .ok (.iload_n 1, 1) := by decide +kernel
theorem dX11_possible_1 : decode cX11_possible 1 = .ok (.ifCond .lt 10, 3) := by decide +kernel
theorem dX11_possible_4 : decode cX11_possible 4 = .ok (.iload_n 1, 1) := by decide +kernel
theorem dX11_possible_5 : decode cX11_possible 5 = .ok (.sipush 200, 3) := by decide +kernel
theorem dX11_possible_8 : decode cX11_possible 8 = .ok (.if_icmp .le 6, 3) := by decide +kernel
theorem dX11_possible_11 : decode cX11_possible 11 = .ok (.bipush (-2), 2) := by decide +kernel
theorem dX11_possible_13 : decode cX11_possible 13 = .ok (.ireturn, 1) := by decide +kernel
theorem dX11_possible_14 : decode cX11_possible 14 = .ok (.aload_n 0, 1) := by decide +kernel
theorem dX11_possible_15 : decode cX11_possible 15 = .ok (.invokevirtual 203, 3) := by decide +kernel
theorem dX11_possible_18 : decode cX11_possible 18 = .ok (.aload_n 0, 1) := by decide +kernel
theorem dX11_possible_19 : decode cX11_possible 19 = .ok (.getfield 88, 3) := by decide +kernel
theorem dX11_possible_22 : decode cX11_possible 22 = .ok (.iload_n 1, 1) := by decide +kernel
theorem dX11_possible_23 : decode cX11_possible 23 = .ok (.iaload, 1) := by decide +kernel
theorem dX11_possible_24 : decode cX11_possible 24 = .ok (.ifCond .le 7, 3) := by decide +kernel
theorem dX11_possible_27 : decode cX11_possible 27 = .ok (.iconst 1, 1) := by decide +kernel
theorem dX11_possible_28 : decode cX11_possible 28 = .ok (.goto 4, 3) := by decide +kernel
theorem dX11_possible_31 : decode cX11_possible 31 = .ok (.iconst 0, 1) := by decide +kernel
theorem dX11_possible_32 : decode cX11_possible 32 = .ok (.ireturn, 1) := by decide +kernel
theorem dX11_ways_0 : decode cX11_ways 0 = .ok (.iload_n 1, 1) := by decide +kernel
theorem dX11_ways_1 : decode cX11_ways 1 = .ok (.ifCond .lt 10, 3) := by decide +kernel
theorem dX11_ways_4 : decode cX11_ways 4 = .ok (.iload_n 1, 1) := by decide +kernel
theorem dX11_ways_5 : decode cX11_ways 5 = .ok (.sipush 200, 3) := by decide +kernel
theorem dX11_ways_8 : decode cX11_ways 8 = .ok (.if_icmp .le 6, 3) := by decide +kernel
theorem dX11_ways_11 : decode cX11_ways 11 = .ok (.bipush (-2), 2) := by decide +kernel
theorem dX11_ways_13 : decode cX11_ways 13 = .ok (.ireturn, 1) := by decide +kernel
theorem dX11_ways_14 : decode cX11_ways 14 = .ok (.aload_n 0, 1) := by decide +kernel
theorem dX11_ways_15 : decode cX11_ways 15 = .ok (.invokevirtual 203, 3) := by decide +kernel
theorem dX11_ways_18 : decode cX11_ways 18 = .ok (.aload_n 0, 1) := by decide +kernel
theorem dX11_ways_19 : decode cX11_ways 19 = .ok (.getfield 88, 3) := by decide +kernel
theorem dX11_ways_22 : decode cX11_ways 22 = .ok (.iload_n 1, 1) := by decide +kernel
theorem dX11_ways_23 : decode cX11_ways 23 = .ok (.iaload, 1) := by decide +kernel
theorem dX11_ways_24 : decode cX11_ways 24 = .ok (.ireturn, 1) := by decide +kernel
theorem dX11_hole_0 : decode cX11_hole 0 = .ok (.iload_n 1, 1) := by decide +kernel
theorem dX11_hole_1 : decode cX11_hole 1 = .ok (.ifCond .ge 5, 3) := by decide +kernel
theorem dX11_hole_4 : decode cX11_hole 4 = .ok (.iconst (-1), 1) := by decide +kernel
theorem dX11_hole_5 : decode cX11_hole 5 = .ok (.ireturn, 1) := by decide +kernel
theorem dX11_hole_6 : decode cX11_hole 6 = .ok (.aload_n 0, 1) := by decide +kernel
theorem dX11_hole_7 : decode cX11_hole 7 = .ok (.invokevirtual 203, 3) := by decide +kernel
theorem dX11_hole_10 : decode cX11_hole 10 = .ok (.iconst 0, 1) := by decide +kernel
theorem dX11_hole_11 : decode cX11_hole 11 = .ok (.istore_n 2, 1) := by decide +kernel
theorem dX11_hole_12 : decode cX11_hole 12 = .ok (.iconst 1, 1) := by decide +kernel
theorem dX11_hole_13 : decode cX11_hole 13 = .ok (.istore_n 3, 1) := by decide +kernel
theorem dX11_hole_14 : decode cX11_hole 14 = .ok (.iload_n 3, 1) := by decide +kernel
theorem dX11_hole_15 : decode cX11_hole 15 = .ok (.sipush 200, 3) := by decide +kernel
theorem dX11_hole_18 : decode cX11_hole 18 = .ok (.if_icmp .gt 28, 3) := by decide +kernel
theorem dX11_hole_21 : decode cX11_hole 21 = .ok (.aload_n 0, 1) := by decide +kernel
theorem dX11_hole_22 : decode cX11_hole 22 = .ok (.getfield 88, 3) := by decide +kernel
theorem dX11_hole_25 : decode cX11_hole 25 = .ok (.iload_n 3, 1) := by decide +kernel
theorem dX11_hole_26 : decode cX11_hole 26 = .ok (.iaload, 1) := by decide +kernel
theorem dX11_hole_27 : decode cX11_hole 27 = .ok (.ifCond .ne 13, 3) := by decide +kernel
theorem dX11_hole_30 : decode cX11_hole 30 = .ok (.iload_n 2, 1) := by decide +kernel
theorem dX11_hole_31 : decode cX11_hole 31 = .ok (.iload_n 1, 1) := by decide +kernel
theorem dX11_hole_32 : decode cX11_hole 32 = .ok (.if_icmp .ne 5, 3) := by decide +kernel
theorem dX11_hole_35 : decode cX11_hole 35 = .ok (.iload_n 3, 1) := by decide +kernel
theorem dX11_hole_36 : decode cX11_hole 36 = .ok (.ireturn, 1) := by decide +kernel
theorem dX11_hole_37 : decode cX11_hole 37 = .ok (.iinc 2 1, 3) := by decide +kernel
theorem dX11_hole_40 : decode cX11_hole 40 = .ok (.iinc 3 1, 3) := by decide +kernel
theorem dX11_hole_43 : decode cX11_hole 43 = .ok (.goto (-29), 3) := by decide +kernel
theorem dX11_hole_46 : decode cX11_hole 46 = .ok (.bipush (-5), 2) := by decide +kernel
theorem dX11_hole_48 : decode cX11_hole 48 = .ok (.ireturn, 1) := by decide +kernel
theorem dX11_listed_0 : decode cX11_listed 0 = .ok (.iload_n 1, 1) := by decide +kernel
theorem dX11_listed_1 : decode cX11_listed 1 = .ok (.iconst 1, 1) := by decide +kernel
theorem dX11_listed_2 : decode cX11_listed 2 = .ok (.if_icmp .lt 9, 3) := by decide +kernel
theorem dX11_listed_5 : decode cX11_listed 5 = .ok (.iload_n 1, 1) := by decide +kernel
theorem dX11_listed_6 : decode cX11_listed 6 = .ok (.bipush 12, 2) := by decide +kernel
theorem dX11_listed_8 : decode cX11_listed 8 = .ok (.if_icmp .le 6, 3) := by decide +kernel
theorem dX11_listed_11 : decode cX11_listed 11 = .ok (.bipush (-2), 2) := by decide +kernel
theorem dX11_listed_13 : decode cX11_listed 13 = .ok (.ireturn, 1) := by decide +kernel
theorem dX11_listed_14 : decode cX11_listed 14 = .ok (.aload_n 0, 1) := by decide +kernel
theorem dX11_listed_15 : decode cX11_listed 15 = .ok (.getfield 12, 3) := by decide +kernel
theorem dX11_listed_18 : decode cX11_listed 18 = .ok (.getfield 95, 3) := by decide +kernel
theorem dX11_listed_21 : decode cX11_listed 21 = .ok (.getfield 98, 3) := by decide +kernel
theorem dX11_listed_24 : decode cX11_listed 24 = .ok (.bipush 12, 2) := by decide +kernel
theorem dX11_listed_26 : decode cX11_listed 26 = .ok (.if_icmp .le 6, 3) := by decide +kernel
theorem dX11_listed_29 : decode cX11_listed 29 = .ok (.bipush (-3), 2) := by decide +kernel
theorem dX11_listed_31 : decode cX11_listed 31 = .ok (.ireturn, 1) := by decide +kernel
theorem dX11_listed_32 : decode cX11_listed 32 = .ok (.iload_n 2, 1) := by decide +kernel
theorem dX11_listed_33 : decode cX11_listed 33 = .ok (.iconst (-1), 1) := by decide +kernel
theorem dX11_listed_34 : decode cX11_listed 34 = .ok (.if_icmp .ge 5, 3) := by decide +kernel
theorem dX11_listed_37 : decode cX11_listed 37 = .ok (.iconst (-1), 1) := by decide +kernel
theorem dX11_listed_38 : decode cX11_listed 38 = .ok (.ireturn, 1) := by decide +kernel
theorem dX11_listed_39 : decode cX11_listed 39 = .ok (.aload_n 0, 1) := by decide +kernel
theorem dX11_listed_40 : decode cX11_listed 40 = .ok (.getfield 49, 3) := by decide +kernel
theorem dX11_listed_43 : decode cX11_listed 43 = .ok (.aload_n 0, 1) := by decide +kernel
theorem dX11_listed_44 : decode cX11_listed 44 = .ok (.getfield 12, 3) := by decide +kernel
theorem dX11_listed_47 : decode cX11_listed 47 = .ok (.getfield 95, 3) := by decide +kernel
theorem dX11_listed_50 : decode cX11_listed 50 = .ok (.getfield 98, 3) := by decide +kernel
theorem dX11_listed_53 : decode cX11_listed 53 = .ok (.invokevirtual 206, 3) := by decide +kernel
theorem dX11_listed_56 : decode cX11_listed 56 = .ok (.iconst 0, 1) := by decide +kernel
theorem dX11_listed_57 : decode cX11_listed 57 = .ok (.istore_n 3, 1) := by decide +kernel
theorem dX11_listed_58 : decode cX11_listed 58 = .ok (.iconst 0, 1) := by decide +kernel
theorem dX11_listed_59 : decode cX11_listed 59 = .ok (.istore 4, 2) := by decide +kernel
theorem dX11_listed_61 : decode cX11_listed 61 = .ok (.iload 4, 2) := by decide +kernel
theorem dX11_listed_63 : decode cX11_listed 63 = .ok (.aload_n 0, 1) := by decide +kernel
theorem dX11_listed_64 : decode cX11_listed 64 = .ok (.getfield 49, 3) := by decide +kernel
theorem dX11_listed_67 : decode cX11_listed 67 = .ok (.getfield 207, 3) := by decide +kernel
theorem dX11_listed_70 : decode cX11_listed 70 = .ok (.if_icmp .ge 41, 3) := by decide +kernel
theorem dX11_listed_73 : decode cX11_listed 73 = .ok (.aload_n 0, 1) := by decide +kernel
theorem dX11_listed_74 : decode cX11_listed 74 = .ok (.getfield 49, 3) := by decide +kernel
theorem dX11_listed_77 : decode cX11_listed 77 = .ok (.iload 4, 2) := by decide +kernel
theorem dX11_listed_79 : decode cX11_listed 79 = .ok (.iload_n 1, 1) := by decide +kernel
theorem dX11_listed_80 : decode cX11_listed 80 = .ok (.invokevirtual 208, 3) := by decide +kernel
theorem dX11_listed_83 : decode cX11_listed 83 = .ok (.ifCond .eq 22, 3) := by decide +kernel
theorem dX11_listed_86 : decode cX11_listed 86 = .ok (.iload_n 3, 1) := by decide +kernel
theorem dX11_listed_87 : decode cX11_listed 87 = .ok (.iload_n 2, 1) := by decide +kernel
theorem dX11_listed_88 : decode cX11_listed 88 = .ok (.if_icmp .ne 14, 3) := by decide +kernel
theorem dX11_listed_91 : decode cX11_listed 91 = .ok (.aload_n 0, 1) := by decide +kernel
theorem dX11_listed_92 : decode cX11_listed 92 = .ok (.getfield 49, 3) := by decide +kernel
theorem dX11_listed_95 : decode cX11_listed 95 = .ok (.getfield 211, 3) := by decide +kernel
theorem dX11_listed_98 : decode cX11_listed 98 = .ok (.iload 4, 2) := by decide +kernel
theorem dX11_listed_100 : decode cX11_listed 100 = .ok (.iaload, 1) := by decide +kernel
theorem dX11_listed_101 : decode cX11_listed 101 = .ok (.ireturn, 1) := by decide +kernel
theorem dX11_listed_102 : decode cX11_listed 102 = .ok (.iinc 3 1, 3) := by decide +kernel
theorem dX11_listed_105 : decode cX11_listed 105 = .ok (.iinc 4 1, 3) := by decide +kernel
theorem dX11_listed_108 : decode cX11_listed 108 = .ok (.goto (-47), 3) := by decide +kernel
theorem dX11_listed_111 : decode cX11_listed 111 = .ok (.iload_n 2, 1) := by decide +kernel
theorem dX11_listed_112 : decode cX11_listed 112 = .ok (.iconst (-1), 1) := by decide +kernel
theorem dX11_listed_113 : decode cX11_listed 113 = .ok (.if_icmp .ne 7, 3) := by decide +kernel
theorem dX11_listed_116 : decode cX11_listed 116 = .ok (.iload_n 3, 1) := by decide +kernel
theorem dX11_listed_117 : decode cX11_listed 117 = .ok (.goto 4, 3) := by decide +kernel
theorem dX11_listed_120 : decode cX11_listed 120 = .ok (.iconst (-1), 1) := by decide +kernel
theorem dX11_listed_121 : decode cX11_listed 121 = .ok (.ireturn, 1) := by decide +kernel
theorem dX11_filled_0 : decode cX11_filled 0 = .ok (.aload_n 0, 1) := by decide +kernel
theorem dX11_filled_1 : decode cX11_filled 1 = .ok (.getfield 12, 3) := by decide +kernel
theorem dX11_filled_4 : decode cX11_filled 4 = .ok (.getfield 95, 3) := by decide +kernel
theorem dX11_filled_7 : decode cX11_filled 7 = .ok (.getfield 98, 3) := by decide +kernel
theorem dX11_filled_10 : decode cX11_filled 10 = .ok (.istore_n 3, 1) := by decide +kernel
theorem dX11_filled_11 : decode cX11_filled 11 = .ok (.iload_n 3, 1) := by decide +kernel
theorem dX11_filled_12 : decode cX11_filled 12 = .ok (.bipush 12, 2) := by decide +kernel
theorem dX11_filled_14 : decode cX11_filled 14 = .ok (.if_icmp .le 6, 3) := by decide +kernel
theorem dX11_filled_17 : decode cX11_filled 17 = .ok (.bipush (-3), 2) := by decide +kernel
theorem dX11_filled_19 : decode cX11_filled 19 = .ok (.ireturn, 1) := by decide +kernel
theorem dX11_filled_20 : decode cX11_filled 20 = .ok (.iload_n 1, 1) := by decide +kernel
theorem dX11_filled_21 : decode cX11_filled 21 = .ok (.ifCond .lt 10, 3) := by decide +kernel
theorem dX11_filled_24 : decode cX11_filled 24 = .ok (.iload_n 1, 1) := by decide +kernel
theorem dX11_filled_25 : decode cX11_filled 25 = .ok (.iconst 1, 1) := by decide +kernel
theorem dX11_filled_26 : decode cX11_filled 26 = .ok (.iload_n 3, 1) := by decide +kernel
theorem dX11_filled_27 : decode cX11_filled 27 = .ok (.ishl, 1) := by decide +kernel
theorem dX11_filled_28 : decode cX11_filled 28 = .ok (.if_icmp .lt 6, 3) := by decide +kernel
theorem dX11_filled_31 : decode cX11_filled 31 = .ok (.bipush (-2), 2) := by decide +kernel
theorem dX11_filled_33 : decode cX11_filled 33 = .ok (.ireturn, 1) := by decide +kernel
theorem dX11_filled_34 : decode cX11_filled 34 = .ok (.iload_n 2, 1) := by decide +kernel
theorem dX11_filled_35 : decode cX11_filled 35 = .ok (.ifCond .eq 10, 3) := by decide +kernel
theorem dX11_filled_38 : decode cX11_filled 38 = .ok (.iload_n 2, 1) := by decide +kernel
theorem dX11_filled_39 : decode cX11_filled 39 = .ok (.iconst 1, 1) := by decide +kernel
theorem dX11_filled_40 : decode cX11_filled 40 = .ok (.if_icmp .eq 5, 3) := by decide +kernel
theorem dX11_filled_43 : decode cX11_filled 43 = .ok (.iconst (-1), 1) := by decide +kernel
theorem dX11_filled_44 : decode cX11_filled 44 = .ok (.ireturn, 1) := by decide +kernel
theorem dX11_filled_45 : decode cX11_filled 45 = .ok (.aload_n 0, 1) := by decide +kernel
theorem dX11_filled_46 : decode cX11_filled 46 = .ok (.getfield 49, 3) := by decide +kernel
theorem dX11_filled_49 : decode cX11_filled 49 = .ok (.iload_n 3, 1) := by decide +kernel
theorem dX11_filled_50 : decode cX11_filled 50 = .ok (.invokevirtual 206, 3) := by decide +kernel
theorem dX11_filled_53 : decode cX11_filled 53 = .ok (.aload_n 0, 1) := by decide +kernel
theorem dX11_filled_54 : decode cX11_filled 54 = .ok (.getfield 49, 3) := by decide +kernel
theorem dX11_filled_57 : decode cX11_filled 57 = .ok (.iload_n 1, 1) := by decide +kernel
theorem dX11_filled_58 : decode cX11_filled 58 = .ok (.invokevirtual 214, 3) := by decide +kernel
theorem dX11_filled_61 : decode cX11_filled 61 = .ok (.istore 4, 2) := by decide +kernel
theorem dX11_filled_63 : decode cX11_filled 63 = .ok (.iload_n 2, 1) := by decide +kernel
theorem dX11_filled_64 : decode cX11_filled 64 = .ok (.ifCond .ne 11, 3) := by decide +kernel
theorem dX11_filled_67 : decode cX11_filled 67 = .ok (.iload 4, 2) := by decide +kernel
theorem dX11_filled_69 : decode cX11_filled 69 = .ok (.invokestatic 218, 3) := by decide +kernel
theorem dX11_filled_72 : decode cX11_filled 72 = .ok (.goto 5, 3) := by decide +kernel
theorem dX11_filled_75 : decode cX11_filled 75 = .ok (.iload 4, 2) := by decide +kernel
theorem dX11_filled_77 : decode cX11_filled 77 = .ok (.ireturn, 1) := by decide +kernel
theorem dX11_plan_0 : decode cX11_plan 0 = .ok (.iload_n 1, 1) := by decide +kernel
theorem dX11_plan_1 : decode cX11_plan 1 = .ok (.ifCond .lt 8, 3) := by decide +kernel
theorem dX11_plan_4 : decode cX11_plan 4 = .ok (.iload_n 1, 1) := by decide +kernel
theorem dX11_plan_5 : decode cX11_plan 5 = .ok (.iconst 3, 1) := by decide +kernel
theorem dX11_plan_6 : decode cX11_plan 6 = .ok (.if_icmp .le 5, 3) := by decide +kernel
theorem dX11_plan_9 : decode cX11_plan 9 = .ok (.iconst (-1), 1) := by decide +kernel
theorem dX11_plan_10 : decode cX11_plan 10 = .ok (.ireturn, 1) := by decide +kernel
theorem dX11_plan_11 : decode cX11_plan 11 = .ok (.aload_n 0, 1) := by decide +kernel
theorem dX11_plan_12 : decode cX11_plan 12 = .ok (.getfield 12, 3) := by decide +kernel
theorem dX11_plan_15 : decode cX11_plan 15 = .ok (.getfield 223, 3) := by decide +kernel
theorem dX11_plan_18 : decode cX11_plan 18 = .ok (.astore_n 3, 1) := by decide +kernel
theorem dX11_plan_19 : decode cX11_plan 19 = .ok (.aload_n 3, 1) := by decide +kernel
theorem dX11_plan_20 : decode cX11_plan 20 = .ok (.getfield 227, 3) := by decide +kernel
theorem dX11_plan_23 : decode cX11_plan 23 = .ok (.bipush 8, 2) := by decide +kernel
theorem dX11_plan_25 : decode cX11_plan 25 = .ok (.if_icmp .lt 6, 3) := by decide +kernel
theorem dX11_plan_28 : decode cX11_plan 28 = .ok (.bipush (-4), 2) := by decide +kernel
theorem dX11_plan_30 : decode cX11_plan 30 = .ok (.ireturn, 1) := by decide +kernel
theorem dX11_plan_31 : decode cX11_plan 31 = .ok (.aload_n 3, 1) := by decide +kernel
theorem dX11_plan_32 : decode cX11_plan 32 = .ok (.iload_n 1, 1) := by decide +kernel
theorem dX11_plan_33 : decode cX11_plan 33 = .ok (.iload_n 2, 1) := by decide +kernel
theorem dX11_plan_34 : decode cX11_plan 34 = .ok (.invokevirtual 230, 3) := by decide +kernel
theorem dX11_plan_37 : decode cX11_plan 37 = .ok (.aload_n 3, 1) := by decide +kernel
theorem dX11_plan_38 : decode cX11_plan 38 = .ok (.getfield 227, 3) := by decide +kernel
theorem dX11_plan_41 : decode cX11_plan 41 = .ok (.ireturn, 1) := by decide +kernel
theorem dX11_unplan_0 : decode cX11_unplan 0 = .ok (.aload_n 0, 1) := by decide +kernel
theorem dX11_unplan_1 : decode cX11_unplan 1 = .ok (.getfield 12, 3) := by decide +kernel
theorem dX11_unplan_4 : decode cX11_unplan 4 = .ok (.getfield 223, 3) := by decide +kernel
theorem dX11_unplan_7 : decode cX11_unplan 7 = .ok (.getfield 227, 3) := by decide +kernel
theorem dX11_unplan_10 : decode cX11_unplan 10 = .ok (.istore_n 1, 1) := by decide +kernel
theorem dX11_unplan_11 : decode cX11_unplan 11 = .ok (.aload_n 0, 1) := by decide +kernel
theorem dX11_unplan_12 : decode cX11_unplan 12 = .ok (.getfield 12, 3) := by decide +kernel
theorem dX11_unplan_15 : decode cX11_unplan 15 = .ok (.getfield 223, 3) := by decide +kernel
theorem dX11_unplan_18 : decode cX11_unplan 18 = .ok (.iconst 0, 1) := by decide +kernel
theorem dX11_unplan_19 : decode cX11_unplan 19 = .ok (.putfield 227, 3) := by decide +kernel
theorem dX11_unplan_22 : decode cX11_unplan 22 = .ok (.iload_n 1, 1) := by decide +kernel
theorem dX11_unplan_23 : decode cX11_unplan 23 = .ok (.ireturn, 1) := by decide +kernel
theorem dX11_where_0 : decode cX11_where 0 = .ok (.aload_n 0, 1) := by decide +kernel
theorem dX11_where_1 : decode cX11_where 1 = .ok (.getfield 12, 3) := by decide +kernel
theorem dX11_where_4 : decode cX11_where 4 = .ok (.getfield 95, 3) := by decide +kernel
theorem dX11_where_7 : decode cX11_where 7 = .ok (.iload_n 1, 1) := by decide +kernel
theorem dX11_where_8 : decode cX11_where 8 = .ok (.invokevirtual 106, 3) := by decide +kernel
theorem dX11_where_11 : decode cX11_where 11 = .ok (.ifCond .ne 5, 3) := by decide +kernel
theorem dX11_where_14 : decode cX11_where 14 = .ok (.iconst (-1), 1) := by decide +kernel
theorem dX11_where_15 : decode cX11_where 15 = .ok (.ireturn, 1) := by decide +kernel
theorem dX11_where_16 : decode cX11_where 16 = .ok (.aload_n 0, 1) := by decide +kernel
theorem dX11_where_17 : decode cX11_where 17 = .ok (.getfield 12, 3) := by decide +kernel
theorem dX11_where_20 : decode cX11_where 20 = .ok (.getfield 95, 3) := by decide +kernel
theorem dX11_where_23 : decode cX11_where 23 = .ok (.getfield 98, 3) := by decide +kernel
theorem dX11_where_26 : decode cX11_where 26 = .ok (.istore_n 2, 1) := by decide +kernel
theorem dX11_where_27 : decode cX11_where 27 = .ok (.aload_n 0, 1) := by decide +kernel
theorem dX11_where_28 : decode cX11_where 28 = .ok (.getfield 12, 3) := by decide +kernel
theorem dX11_where_31 : decode cX11_where 31 = .ok (.getfield 223, 3) := by decide +kernel
theorem dX11_where_34 : decode cX11_where 34 = .ok (.astore_n 3, 1) := by decide +kernel
theorem dX11_where_35 : decode cX11_where 35 = .ok (.iload_n 1, 1) := by decide +kernel
theorem dX11_where_36 : decode cX11_where 36 = .ok (.istore 4, 2) := by decide +kernel
theorem dX11_where_38 : decode cX11_where 38 = .ok (.iconst 0, 1) := by decide +kernel
theorem dX11_where_39 : decode cX11_where 39 = .ok (.istore 5, 2) := by decide +kernel
theorem dX11_where_41 : decode cX11_where 41 = .ok (.iload 5, 2) := by decide +kernel
theorem dX11_where_43 : decode cX11_where 43 = .ok (.aload_n 3, 1) := by decide +kernel
theorem dX11_where_44 : decode cX11_where 44 = .ok (.getfield 227, 3) := by decide +kernel
theorem dX11_where_47 : decode cX11_where 47 = .ok (.if_icmp .ge 52, 3) := by decide +kernel
theorem dX11_where_50 : decode cX11_where 50 = .ok (.aload_n 3, 1) := by decide +kernel
theorem dX11_where_51 : decode cX11_where 51 = .ok (.getfield 234, 3) := by decide +kernel
theorem dX11_where_54 : decode cX11_where 54 = .ok (.iload 5, 2) := by decide +kernel
theorem dX11_where_56 : decode cX11_where 56 = .ok (.iaload, 1) := by decide +kernel
theorem dX11_where_57 : decode cX11_where 57 = .ok (.aload_n 3, 1) := by decide +kernel
theorem dX11_where_58 : decode cX11_where 58 = .ok (.getfield 237, 3) := by decide +kernel
theorem dX11_where_61 : decode cX11_where 61 = .ok (.iload 5, 2) := by decide +kernel
theorem dX11_where_63 : decode cX11_where 63 = .ok (.iaload, 1) := by decide +kernel
theorem dX11_where_64 : decode cX11_where 64 = .ok (.iload_n 2, 1) := by decide +kernel
theorem dX11_where_65 : decode cX11_where 65 = .ok (.invokestatic 239, 3) := by decide +kernel
theorem dX11_where_68 : decode cX11_where 68 = .ok (.ifCond .eq 25, 3) := by decide +kernel
theorem dX11_where_71 : decode cX11_where 71 = .ok (.aload_n 3, 1) := by decide +kernel
theorem dX11_where_72 : decode cX11_where 72 = .ok (.getfield 234, 3) := by decide +kernel
theorem dX11_where_75 : decode cX11_where 75 = .ok (.iload 5, 2) := by decide +kernel
theorem dX11_where_77 : decode cX11_where 77 = .ok (.iaload, 1) := by decide +kernel
theorem dX11_where_78 : decode cX11_where 78 = .ok (.aload_n 3, 1) := by decide +kernel
theorem dX11_where_79 : decode cX11_where 79 = .ok (.getfield 237, 3) := by decide +kernel
theorem dX11_where_82 : decode cX11_where 82 = .ok (.iload 5, 2) := by decide +kernel
theorem dX11_where_84 : decode cX11_where 84 = .ok (.iaload, 1) := by decide +kernel
theorem dX11_where_85 : decode cX11_where 85 = .ok (.iload_n 2, 1) := by decide +kernel
theorem dX11_where_86 : decode cX11_where 86 = .ok (.iload 4, 2) := by decide +kernel
theorem dX11_where_88 : decode cX11_where 88 = .ok (.invokestatic 243, 3) := by decide +kernel
theorem dX11_where_91 : decode cX11_where 91 = .ok (.istore 4, 2) := by decide +kernel
theorem dX11_where_93 : decode cX11_where 93 = .ok (.iinc 5 1, 3) := by decide +kernel
theorem dX11_where_96 : decode cX11_where 96 = .ok (.goto (-55), 3) := by decide +kernel
theorem dX11_where_99 : decode cX11_where 99 = .ok (.iload 4, 2) := by decide +kernel
theorem dX11_where_101 : decode cX11_where 101 = .ok (.ireturn, 1) := by decide +kernel
theorem dX11_run_0 : decode cX11_run 0 = .ok (.aload_n 0, 1) := by decide +kernel
theorem dX11_run_1 : decode cX11_run 1 = .ok (.getfield 12, 3) := by decide +kernel
theorem dX11_run_4 : decode cX11_run 4 = .ok (.getfield 223, 3) := by decide +kernel
theorem dX11_run_7 : decode cX11_run 7 = .ok (.astore_n 1, 1) := by decide +kernel
theorem dX11_run_8 : decode cX11_run 8 = .ok (.iconst 0, 1) := by decide +kernel
theorem dX11_run_9 : decode cX11_run 9 = .ok (.istore_n 2, 1) := by decide +kernel
theorem dX11_run_10 : decode cX11_run 10 = .ok (.iconst 0, 1) := by decide +kernel
theorem dX11_run_11 : decode cX11_run 11 = .ok (.istore_n 3, 1) := by decide +kernel
theorem dX11_run_12 : decode cX11_run 12 = .ok (.iload_n 3, 1) := by decide +kernel
theorem dX11_run_13 : decode cX11_run 13 = .ok (.aload_n 1, 1) := by decide +kernel
theorem dX11_run_14 : decode cX11_run 14 = .ok (.getfield 227, 3) := by decide +kernel
theorem dX11_run_17 : decode cX11_run 17 = .ok (.if_icmp .ge 31, 3) := by decide +kernel
theorem dX11_run_20 : decode cX11_run 20 = .ok (.aload_n 0, 1) := by decide +kernel
theorem dX11_run_21 : decode cX11_run 21 = .ok (.aload_n 1, 1) := by decide +kernel
theorem dX11_run_22 : decode cX11_run 22 = .ok (.getfield 234, 3) := by decide +kernel
theorem dX11_run_25 : decode cX11_run 25 = .ok (.iload_n 3, 1) := by decide +kernel
theorem dX11_run_26 : decode cX11_run 26 = .ok (.iaload, 1) := by decide +kernel
theorem dX11_run_27 : decode cX11_run 27 = .ok (.aload_n 1, 1) := by decide +kernel
theorem dX11_run_28 : decode cX11_run 28 = .ok (.getfield 237, 3) := by decide +kernel
theorem dX11_run_31 : decode cX11_run 31 = .ok (.iload_n 3, 1) := by decide +kernel
theorem dX11_run_32 : decode cX11_run 32 = .ok (.iaload, 1) := by decide +kernel
theorem dX11_run_33 : decode cX11_run 33 = .ok (.invokevirtual 164, 3) := by decide +kernel
theorem dX11_run_36 : decode cX11_run 36 = .ok (.ifCond .eq 6, 3) := by decide +kernel
theorem dX11_run_39 : decode cX11_run 39 = .ok (.iinc 2 1, 3) := by decide +kernel
theorem dX11_run_42 : decode cX11_run 42 = .ok (.iinc 3 1, 3) := by decide +kernel
theorem dX11_run_45 : decode cX11_run 45 = .ok (.goto (-33), 3) := by decide +kernel
theorem dX11_run_48 : decode cX11_run 48 = .ok (.iload_n 2, 1) := by decide +kernel
theorem dX11_run_49 : decode cX11_run 49 = .ok (.ireturn, 1) := by decide +kernel
theorem dX11_keep_0 : decode cX11_keep 0 = .ok (.iload_n 1, 1) := by decide +kernel
theorem dX11_keep_1 : decode cX11_keep 1 = .ok (.invokestatic 247, 3) := by decide +kernel
theorem dX11_keep_4 : decode cX11_keep 4 = .ok (.ifCond .ne 5, 3) := by decide +kernel
theorem dX11_keep_7 : decode cX11_keep 7 = .ok (.iconst (-1), 1) := by decide +kernel
theorem dX11_keep_8 : decode cX11_keep 8 = .ok (.ireturn, 1) := by decide +kernel
theorem dX11_keep_9 : decode cX11_keep 9 = .ok (.aload_n 0, 1) := by decide +kernel
theorem dX11_keep_10 : decode cX11_keep 10 = .ok (.getfield 12, 3) := by decide +kernel
theorem dX11_keep_13 : decode cX11_keep 13 = .ok (.getfield 250, 3) := by decide +kernel
theorem dX11_keep_16 : decode cX11_keep 16 = .ok (.iload_n 1, 1) := by decide +kernel
theorem dX11_keep_17 : decode cX11_keep 17 = .ok (.aaload, 1) := by decide +kernel
theorem dX11_keep_18 : decode cX11_keep 18 = .ok (.astore_n 2, 1) := by decide +kernel
theorem dX11_keep_19 : decode cX11_keep 19 = .ok (.aload_n 2, 1) := by decide +kernel
theorem dX11_keep_20 : decode cX11_keep 20 = .ok (.getfield 254, 3) := by decide +kernel
theorem dX11_keep_23 : decode cX11_keep 23 = .ok (.bipush 8, 2) := by decide +kernel
theorem dX11_keep_25 : decode cX11_keep 25 = .ok (.if_icmp .lt 6, 3) := by decide +kernel
theorem dX11_keep_28 : decode cX11_keep 28 = .ok (.bipush (-4), 2) := by decide +kernel
theorem dX11_keep_30 : decode cX11_keep 30 = .ok (.ireturn, 1) := by decide +kernel
theorem dX11_keep_31 : decode cX11_keep 31 = .ok (.aload_n 2, 1) := by decide +kernel
theorem dX11_keep_32 : decode cX11_keep 32 = .ok (.aload_n 0, 1) := by decide +kernel
theorem dX11_keep_33 : decode cX11_keep 33 = .ok (.getfield 12, 3) := by decide +kernel
theorem dX11_keep_36 : decode cX11_keep 36 = .ok (.getfield 95, 3) := by decide +kernel
theorem dX11_keep_39 : decode cX11_keep 39 = .ok (.invokevirtual 257, 3) := by decide +kernel
theorem dX11_keep_42 : decode cX11_keep 42 = .ok (.aload_n 2, 1) := by decide +kernel
theorem dX11_keep_43 : decode cX11_keep 43 = .ok (.getfield 254, 3) := by decide +kernel
theorem dX11_keep_46 : decode cX11_keep 46 = .ok (.iconst 1, 1) := by decide +kernel
theorem dX11_keep_47 : decode cX11_keep 47 = .ok (.isub, 1) := by decide +kernel
theorem dX11_keep_48 : decode cX11_keep 48 = .ok (.ireturn, 1) := by decide +kernel
theorem dX11_lay_0 : decode cX11_lay 0 = .ok (.iload_n 1, 1) := by decide +kernel
theorem dX11_lay_1 : decode cX11_lay 1 = .ok (.invokestatic 247, 3) := by decide +kernel
theorem dX11_lay_4 : decode cX11_lay 4 = .ok (.ifCond .eq 19, 3) := by decide +kernel
theorem dX11_lay_7 : decode cX11_lay 7 = .ok (.aload_n 0, 1) := by decide +kernel
theorem dX11_lay_8 : decode cX11_lay 8 = .ok (.getfield 12, 3) := by decide +kernel
theorem dX11_lay_11 : decode cX11_lay 11 = .ok (.getfield 250, 3) := by decide +kernel
theorem dX11_lay_14 : decode cX11_lay 14 = .ok (.iload_n 1, 1) := by decide +kernel
theorem dX11_lay_15 : decode cX11_lay 15 = .ok (.aaload, 1) := by decide +kernel
theorem dX11_lay_16 : decode cX11_lay 16 = .ok (.iload_n 2, 1) := by decide +kernel
theorem dX11_lay_17 : decode cX11_lay 17 = .ok (.invokevirtual 259, 3) := by decide +kernel
theorem dX11_lay_20 : decode cX11_lay 20 = .ok (.ifCond .ne 5, 3) := by decide +kernel
theorem dX11_lay_23 : decode cX11_lay 23 = .ok (.iconst (-1), 1) := by decide +kernel
theorem dX11_lay_24 : decode cX11_lay 24 = .ok (.ireturn, 1) := by decide +kernel
theorem dX11_lay_25 : decode cX11_lay 25 = .ok (.aload_n 0, 1) := by decide +kernel
theorem dX11_lay_26 : decode cX11_lay 26 = .ok (.getfield 12, 3) := by decide +kernel
theorem dX11_lay_29 : decode cX11_lay 29 = .ok (.getfield 95, 3) := by decide +kernel
theorem dX11_lay_32 : decode cX11_lay 32 = .ok (.aload_n 0, 1) := by decide +kernel
theorem dX11_lay_33 : decode cX11_lay 33 = .ok (.getfield 12, 3) := by decide +kernel
theorem dX11_lay_36 : decode cX11_lay 36 = .ok (.getfield 250, 3) := by decide +kernel
theorem dX11_lay_39 : decode cX11_lay 39 = .ok (.iload_n 1, 1) := by decide +kernel
theorem dX11_lay_40 : decode cX11_lay 40 = .ok (.aaload, 1) := by decide +kernel
theorem dX11_lay_41 : decode cX11_lay 41 = .ok (.getfield 260, 3) := by decide +kernel
theorem dX11_lay_44 : decode cX11_lay 44 = .ok (.iload_n 2, 1) := by decide +kernel
theorem dX11_lay_45 : decode cX11_lay 45 = .ok (.aaload, 1) := by decide +kernel
theorem dX11_lay_46 : decode cX11_lay 46 = .ok (.invokevirtual 161, 3) := by decide +kernel
theorem dX11_lay_49 : decode cX11_lay 49 = .ok (.aload_n 0, 1) := by decide +kernel
theorem dX11_lay_50 : decode cX11_lay 50 = .ok (.getfield 12, 3) := by decide +kernel
theorem dX11_lay_53 : decode cX11_lay 53 = .ok (.getfield 95, 3) := by decide +kernel
theorem dX11_lay_56 : decode cX11_lay 56 = .ok (.invokevirtual 112, 3) := by decide +kernel
theorem dX11_lay_59 : decode cX11_lay 59 = .ok (.ireturn, 1) := by decide +kernel
theorem dX11_drop_0 : decode cX11_drop 0 = .ok (.iload_n 1, 1) := by decide +kernel
theorem dX11_drop_1 : decode cX11_drop 1 = .ok (.invokestatic 247, 3) := by decide +kernel
theorem dX11_drop_4 : decode cX11_drop 4 = .ok (.ifCond .eq 19, 3) := by decide +kernel
theorem dX11_drop_7 : decode cX11_drop 7 = .ok (.aload_n 0, 1) := by decide +kernel
theorem dX11_drop_8 : decode cX11_drop 8 = .ok (.getfield 12, 3) := by decide +kernel
theorem dX11_drop_11 : decode cX11_drop 11 = .ok (.getfield 250, 3) := by decide +kernel
theorem dX11_drop_14 : decode cX11_drop 14 = .ok (.iload_n 1, 1) := by decide +kernel
theorem dX11_drop_15 : decode cX11_drop 15 = .ok (.aaload, 1) := by decide +kernel
theorem dX11_drop_16 : decode cX11_drop 16 = .ok (.iload_n 2, 1) := by decide +kernel
theorem dX11_drop_17 : decode cX11_drop 17 = .ok (.invokevirtual 259, 3) := by decide +kernel
theorem dX11_drop_20 : decode cX11_drop 20 = .ok (.ifCond .ne 5, 3) := by decide +kernel
theorem dX11_drop_23 : decode cX11_drop 23 = .ok (.iconst (-1), 1) := by decide +kernel
theorem dX11_drop_24 : decode cX11_drop 24 = .ok (.ireturn, 1) := by decide +kernel
theorem dX11_drop_25 : decode cX11_drop 25 = .ok (.aload_n 0, 1) := by decide +kernel
theorem dX11_drop_26 : decode cX11_drop 26 = .ok (.getfield 12, 3) := by decide +kernel
theorem dX11_drop_29 : decode cX11_drop 29 = .ok (.getfield 250, 3) := by decide +kernel
theorem dX11_drop_32 : decode cX11_drop 32 = .ok (.iload_n 1, 1) := by decide +kernel
theorem dX11_drop_33 : decode cX11_drop 33 = .ok (.aaload, 1) := by decide +kernel
theorem dX11_drop_34 : decode cX11_drop 34 = .ok (.iload_n 2, 1) := by decide +kernel
theorem dX11_drop_35 : decode cX11_drop 35 = .ok (.invokevirtual 263, 3) := by decide +kernel
theorem dX11_drop_38 : decode cX11_drop 38 = .ok (.aload_n 0, 1) := by decide +kernel
theorem dX11_drop_39 : decode cX11_drop 39 = .ok (.getfield 12, 3) := by decide +kernel
theorem dX11_drop_42 : decode cX11_drop 42 = .ok (.getfield 250, 3) := by decide +kernel
theorem dX11_drop_45 : decode cX11_drop 45 = .ok (.iload_n 1, 1) := by decide +kernel
theorem dX11_drop_46 : decode cX11_drop 46 = .ok (.aaload, 1) := by decide +kernel
theorem dX11_drop_47 : decode cX11_drop 47 = .ok (.getfield 254, 3) := by decide +kernel
theorem dX11_drop_50 : decode cX11_drop 50 = .ok (.ireturn, 1) := by decide +kernel
theorem dX11_lightest_0 : decode cX11_lightest 0 = .ok (.iload_n 1, 1) := by decide +kernel
theorem dX11_lightest_1 : decode cX11_lightest 1 = .ok (.invokestatic 247, 3) := by decide +kernel
theorem dX11_lightest_4 : decode cX11_lightest 4 = .ok (.ifCond .ne 5, 3) := by decide +kernel
theorem dX11_lightest_7 : decode cX11_lightest 7 = .ok (.iconst (-1), 1) := by decide +kernel
theorem dX11_lightest_8 : decode cX11_lightest 8 = .ok (.ireturn, 1) := by decide +kernel
theorem dX11_lightest_9 : decode cX11_lightest 9 = .ok (.aload_n 0, 1) := by decide +kernel
theorem dX11_lightest_10 : decode cX11_lightest 10 = .ok (.getfield 12, 3) := by decide +kernel
theorem dX11_lightest_13 : decode cX11_lightest 13 = .ok (.getfield 250, 3) := by decide +kernel
theorem dX11_lightest_16 : decode cX11_lightest 16 = .ok (.iload_n 1, 1) := by decide +kernel
theorem dX11_lightest_17 : decode cX11_lightest 17 = .ok (.aaload, 1) := by decide +kernel
theorem dX11_lightest_18 : decode cX11_lightest 18 = .ok (.astore_n 2, 1) := by decide +kernel
theorem dX11_lightest_19 : decode cX11_lightest 19 = .ok (.aload_n 2, 1) := by decide +kernel
theorem dX11_lightest_20 : decode cX11_lightest 20 = .ok (.getfield 254, 3) := by decide +kernel
theorem dX11_lightest_23 : decode cX11_lightest 23 = .ok (.ifCond .ne 6, 3) := by decide +kernel
theorem dX11_lightest_26 : decode cX11_lightest 26 = .ok (.bipush (-5), 2) := by decide +kernel
theorem dX11_lightest_28 : decode cX11_lightest 28 = .ok (.ireturn, 1) := by decide +kernel
theorem dX11_lightest_29 : decode cX11_lightest 29 = .ok (.iconst 0, 1) := by decide +kernel
theorem dX11_lightest_30 : decode cX11_lightest 30 = .ok (.istore_n 3, 1) := by decide +kernel
theorem dX11_lightest_31 : decode cX11_lightest 31 = .ok (.iconst 1, 1) := by decide +kernel
theorem dX11_lightest_32 : decode cX11_lightest 32 = .ok (.istore 4, 2) := by decide +kernel
theorem dX11_lightest_34 : decode cX11_lightest 34 = .ok (.iload 4, 2) := by decide +kernel
theorem dX11_lightest_36 : decode cX11_lightest 36 = .ok (.aload_n 2, 1) := by decide +kernel
theorem dX11_lightest_37 : decode cX11_lightest 37 = .ok (.getfield 254, 3) := by decide +kernel
theorem dX11_lightest_40 : decode cX11_lightest 40 = .ok (.if_icmp .ge 34, 3) := by decide +kernel
theorem dX11_lightest_43 : decode cX11_lightest 43 = .ok (.aload_n 2, 1) := by decide +kernel
theorem dX11_lightest_44 : decode cX11_lightest 44 = .ok (.getfield 260, 3) := by decide +kernel
theorem dX11_lightest_47 : decode cX11_lightest 47 = .ok (.iload 4, 2) := by decide +kernel
theorem dX11_lightest_49 : decode cX11_lightest 49 = .ok (.aaload, 1) := by decide +kernel
theorem dX11_lightest_50 : decode cX11_lightest 50 = .ok (.invokevirtual 112, 3) := by decide +kernel
theorem dX11_lightest_53 : decode cX11_lightest 53 = .ok (.aload_n 2, 1) := by decide +kernel
theorem dX11_lightest_54 : decode cX11_lightest 54 = .ok (.getfield 260, 3) := by decide +kernel
theorem dX11_lightest_57 : decode cX11_lightest 57 = .ok (.iload_n 3, 1) := by decide +kernel
theorem dX11_lightest_58 : decode cX11_lightest 58 = .ok (.aaload, 1) := by decide +kernel
theorem dX11_lightest_59 : decode cX11_lightest 59 = .ok (.invokevirtual 112, 3) := by decide +kernel
theorem dX11_lightest_62 : decode cX11_lightest 62 = .ok (.if_icmp .ge 6, 3) := by decide +kernel
theorem dX11_lightest_65 : decode cX11_lightest 65 = .ok (.iload 4, 2) := by decide +kernel
theorem dX11_lightest_67 : decode cX11_lightest 67 = .ok (.istore_n 3, 1) := by decide +kernel
theorem dX11_lightest_68 : decode cX11_lightest 68 = .ok (.iinc 4 1, 3) := by decide +kernel
theorem dX11_lightest_71 : decode cX11_lightest 71 = .ok (.goto (-37), 3) := by decide +kernel
theorem dX11_lightest_74 : decode cX11_lightest 74 = .ok (.iload_n 3, 1) := by decide +kernel
theorem dX11_lightest_75 : decode cX11_lightest 75 = .ok (.ireturn, 1) := by decide +kernel
theorem dX11_pour_0 : decode cX11_pour 0 = .ok (.iload_n 1, 1) := by decide +kernel
theorem dX11_pour_1 : decode cX11_pour 1 = .ok (.invokestatic 247, 3) := by decide +kernel
theorem dX11_pour_4 : decode cX11_pour 4 = .ok (.ifCond .eq 10, 3) := by decide +kernel
theorem dX11_pour_7 : decode cX11_pour 7 = .ok (.iload_n 2, 1) := by decide +kernel
theorem dX11_pour_8 : decode cX11_pour 8 = .ok (.invokestatic 247, 3) := by decide +kernel
theorem dX11_pour_11 : decode cX11_pour 11 = .ok (.ifCond .ne 5, 3) := by decide +kernel
theorem dX11_pour_14 : decode cX11_pour 14 = .ok (.iconst (-1), 1) := by decide +kernel
theorem dX11_pour_15 : decode cX11_pour 15 = .ok (.ireturn, 1) := by decide +kernel
theorem dX11_pour_16 : decode cX11_pour 16 = .ok (.iload_n 1, 1) := by decide +kernel
theorem dX11_pour_17 : decode cX11_pour 17 = .ok (.iload_n 2, 1) := by decide +kernel
theorem dX11_pour_18 : decode cX11_pour 18 = .ok (.if_icmp .ne 6, 3) := by decide +kernel
theorem dX11_pour_21 : decode cX11_pour 21 = .ok (.bipush (-3), 2) := by decide +kernel
theorem dX11_pour_23 : decode cX11_pour 23 = .ok (.ireturn, 1) := by decide +kernel
theorem dX11_pour_24 : decode cX11_pour 24 = .ok (.aload_n 0, 1) := by decide +kernel
theorem dX11_pour_25 : decode cX11_pour 25 = .ok (.getfield 12, 3) := by decide +kernel
theorem dX11_pour_28 : decode cX11_pour 28 = .ok (.getfield 250, 3) := by decide +kernel
theorem dX11_pour_31 : decode cX11_pour 31 = .ok (.iload_n 1, 1) := by decide +kernel
theorem dX11_pour_32 : decode cX11_pour 32 = .ok (.aaload, 1) := by decide +kernel
theorem dX11_pour_33 : decode cX11_pour 33 = .ok (.astore_n 3, 1) := by decide +kernel
theorem dX11_pour_34 : decode cX11_pour 34 = .ok (.aload_n 0, 1) := by decide +kernel
theorem dX11_pour_35 : decode cX11_pour 35 = .ok (.getfield 12, 3) := by decide +kernel
theorem dX11_pour_38 : decode cX11_pour 38 = .ok (.getfield 250, 3) := by decide +kernel
theorem dX11_pour_41 : decode cX11_pour 41 = .ok (.iload_n 2, 1) := by decide +kernel
theorem dX11_pour_42 : decode cX11_pour 42 = .ok (.aaload, 1) := by decide +kernel
theorem dX11_pour_43 : decode cX11_pour 43 = .ok (.astore 4, 2) := by decide +kernel
theorem dX11_pour_45 : decode cX11_pour 45 = .ok (.aload_n 3, 1) := by decide +kernel
theorem dX11_pour_46 : decode cX11_pour 46 = .ok (.getfield 254, 3) := by decide +kernel
theorem dX11_pour_49 : decode cX11_pour 49 = .ok (.aload 4, 2) := by decide +kernel
theorem dX11_pour_51 : decode cX11_pour 51 = .ok (.getfield 254, 3) := by decide +kernel
theorem dX11_pour_54 : decode cX11_pour 54 = .ok (.iadd, 1) := by decide +kernel
theorem dX11_pour_55 : decode cX11_pour 55 = .ok (.bipush 8, 2) := by decide +kernel
theorem dX11_pour_57 : decode cX11_pour 57 = .ok (.if_icmp .le 6, 3) := by decide +kernel
theorem dX11_pour_60 : decode cX11_pour 60 = .ok (.bipush (-4), 2) := by decide +kernel
theorem dX11_pour_62 : decode cX11_pour 62 = .ok (.ireturn, 1) := by decide +kernel
theorem dX11_pour_63 : decode cX11_pour 63 = .ok (.iconst 0, 1) := by decide +kernel
theorem dX11_pour_64 : decode cX11_pour 64 = .ok (.istore 5, 2) := by decide +kernel
theorem dX11_pour_66 : decode cX11_pour 66 = .ok (.iload 5, 2) := by decide +kernel
theorem dX11_pour_68 : decode cX11_pour 68 = .ok (.aload_n 3, 1) := by decide +kernel
theorem dX11_pour_69 : decode cX11_pour 69 = .ok (.getfield 254, 3) := by decide +kernel
theorem dX11_pour_72 : decode cX11_pour 72 = .ok (.if_icmp .ge 21, 3) := by decide +kernel
theorem dX11_pour_75 : decode cX11_pour 75 = .ok (.aload 4, 2) := by decide +kernel
theorem dX11_pour_77 : decode cX11_pour 77 = .ok (.aload_n 3, 1) := by decide +kernel
theorem dX11_pour_78 : decode cX11_pour 78 = .ok (.getfield 260, 3) := by decide +kernel
theorem dX11_pour_81 : decode cX11_pour 81 = .ok (.iload 5, 2) := by decide +kernel
theorem dX11_pour_83 : decode cX11_pour 83 = .ok (.aaload, 1) := by decide +kernel
theorem dX11_pour_84 : decode cX11_pour 84 = .ok (.invokevirtual 257, 3) := by decide +kernel
theorem dX11_pour_87 : decode cX11_pour 87 = .ok (.iinc 5 1, 3) := by decide +kernel
theorem dX11_pour_90 : decode cX11_pour 90 = .ok (.goto (-24), 3) := by decide +kernel
theorem dX11_pour_93 : decode cX11_pour 93 = .ok (.aload_n 3, 1) := by decide +kernel
theorem dX11_pour_94 : decode cX11_pour 94 = .ok (.iconst 0, 1) := by decide +kernel
theorem dX11_pour_95 : decode cX11_pour 95 = .ok (.putfield 254, 3) := by decide +kernel
theorem dX11_pour_98 : decode cX11_pour 98 = .ok (.aload 4, 2) := by decide +kernel
theorem dX11_pour_100 : decode cX11_pour 100 = .ok (.getfield 254, 3) := by decide +kernel
theorem dX11_pour_103 : decode cX11_pour 103 = .ok (.ireturn, 1) := by decide +kernel
theorem dX11_held_0 : decode cX11_held 0 = .ok (.iload_n 1, 1) := by decide +kernel
theorem dX11_held_1 : decode cX11_held 1 = .ok (.invokestatic 247, 3) := by decide +kernel
theorem dX11_held_4 : decode cX11_held 4 = .ok (.ifCond .ne 5, 3) := by decide +kernel
theorem dX11_held_7 : decode cX11_held 7 = .ok (.iconst (-1), 1) := by decide +kernel
theorem dX11_held_8 : decode cX11_held 8 = .ok (.ireturn, 1) := by decide +kernel
theorem dX11_held_9 : decode cX11_held 9 = .ok (.aload_n 0, 1) := by decide +kernel
theorem dX11_held_10 : decode cX11_held 10 = .ok (.getfield 12, 3) := by decide +kernel
theorem dX11_held_13 : decode cX11_held 13 = .ok (.getfield 250, 3) := by decide +kernel
theorem dX11_held_16 : decode cX11_held 16 = .ok (.iload_n 1, 1) := by decide +kernel
theorem dX11_held_17 : decode cX11_held 17 = .ok (.aaload, 1) := by decide +kernel
theorem dX11_held_18 : decode cX11_held 18 = .ok (.astore_n 3, 1) := by decide +kernel
theorem dX11_held_19 : decode cX11_held 19 = .ok (.iload_n 2, 1) := by decide +kernel
theorem dX11_held_20 : decode cX11_held 20 = .ok (.iconst (-1), 1) := by decide +kernel
theorem dX11_held_21 : decode cX11_held 21 = .ok (.if_icmp .ne 8, 3) := by decide +kernel
theorem dX11_held_24 : decode cX11_held 24 = .ok (.aload_n 3, 1) := by decide +kernel
theorem dX11_held_25 : decode cX11_held 25 = .ok (.getfield 254, 3) := by decide +kernel
theorem dX11_held_28 : decode cX11_held 28 = .ok (.ireturn, 1) := by decide +kernel
theorem dX11_held_29 : decode cX11_held 29 = .ok (.aload_n 3, 1) := by decide +kernel
theorem dX11_held_30 : decode cX11_held 30 = .ok (.iload_n 2, 1) := by decide +kernel
theorem dX11_held_31 : decode cX11_held 31 = .ok (.invokevirtual 259, 3) := by decide +kernel
theorem dX11_held_34 : decode cX11_held 34 = .ok (.ifCond .eq 15, 3) := by decide +kernel
theorem dX11_held_37 : decode cX11_held 37 = .ok (.aload_n 3, 1) := by decide +kernel
theorem dX11_held_38 : decode cX11_held 38 = .ok (.getfield 260, 3) := by decide +kernel
theorem dX11_held_41 : decode cX11_held 41 = .ok (.iload_n 2, 1) := by decide +kernel
theorem dX11_held_42 : decode cX11_held 42 = .ok (.aaload, 1) := by decide +kernel
theorem dX11_held_43 : decode cX11_held 43 = .ok (.invokevirtual 112, 3) := by decide +kernel
theorem dX11_held_46 : decode cX11_held 46 = .ok (.goto 4, 3) := by decide +kernel
theorem dX11_held_49 : decode cX11_held 49 = .ok (.iconst (-1), 1) := by decide +kernel
theorem dX11_held_50 : decode cX11_held 50 = .ok (.ireturn, 1) := by decide +kernel
theorem dX11_list_0 : decode cX11_list 0 = .ok (.iload_n 1, 1) := by decide +kernel
theorem dX11_list_1 : decode cX11_list 1 = .ok (.invokestatic 175, 3) := by decide +kernel
theorem dX11_list_4 : decode cX11_list 4 = .ok (.ifCond .ne 5, 3) := by decide +kernel
theorem dX11_list_7 : decode cX11_list 7 = .ok (.iconst (-1), 1) := by decide +kernel
theorem dX11_list_8 : decode cX11_list 8 = .ok (.ireturn, 1) := by decide +kernel
theorem dX11_list_9 : decode cX11_list 9 = .ok (.iload_n 2, 1) := by decide +kernel
theorem dX11_list_10 : decode cX11_list 10 = .ok (.bipush 30, 2) := by decide +kernel
theorem dX11_list_12 : decode cX11_list 12 = .ok (.if_icmp .le 6, 3) := by decide +kernel
theorem dX11_list_15 : decode cX11_list 15 = .ok (.bipush (-2), 2) := by decide +kernel
theorem dX11_list_17 : decode cX11_list 17 = .ok (.ireturn, 1) := by decide +kernel
theorem dX11_list_18 : decode cX11_list 18 = .ok (.iload_n 2, 1) := by decide +kernel
theorem dX11_list_19 : decode cX11_list 19 = .ok (.iconst (-1), 1) := by decide +kernel
theorem dX11_list_20 : decode cX11_list 20 = .ok (.if_icmp .ge 6, 3) := by decide +kernel
theorem dX11_list_23 : decode cX11_list 23 = .ok (.bipush (-14), 2) := by decide +kernel
theorem dX11_list_25 : decode cX11_list 25 = .ok (.ireturn, 1) := by decide +kernel
theorem dX11_list_26 : decode cX11_list 26 = .ok (.aload_n 0, 1) := by decide +kernel
theorem dX11_list_27 : decode cX11_list 27 = .ok (.getfield 56, 3) := by decide +kernel
theorem dX11_list_30 : decode cX11_list 30 = .ok (.iload_n 1, 1) := by decide +kernel
theorem dX11_list_31 : decode cX11_list 31 = .ok (.aaload, 1) := by decide +kernel
theorem dX11_list_32 : decode cX11_list 32 = .ok (.iload_n 2, 1) := by decide +kernel
theorem dX11_list_33 : decode cX11_list 33 = .ok (.invokevirtual 266, 3) := by decide +kernel
theorem dX11_list_36 : decode cX11_list 36 = .ok (.iconst 1, 1) := by decide +kernel
theorem dX11_list_37 : decode cX11_list 37 = .ok (.ireturn, 1) := by decide +kernel
theorem dX11_put_0 : decode cX11_put 0 = .ok (.iload_n 1, 1) := by decide +kernel
theorem dX11_put_1 : decode cX11_put 1 = .ok (.invokestatic 175, 3) := by decide +kernel
theorem dX11_put_4 : decode cX11_put 4 = .ok (.ifCond .ne 5, 3) := by decide +kernel
theorem dX11_put_7 : decode cX11_put 7 = .ok (.iconst (-1), 1) := by decide +kernel
theorem dX11_put_8 : decode cX11_put 8 = .ok (.ireturn, 1) := by decide +kernel
theorem dX11_put_9 : decode cX11_put 9 = .ok (.aload_n 0, 1) := by decide +kernel
theorem dX11_put_10 : decode cX11_put 10 = .ok (.getfield 56, 3) := by decide +kernel
theorem dX11_put_13 : decode cX11_put 13 = .ok (.iload_n 1, 1) := by decide +kernel
theorem dX11_put_14 : decode cX11_put 14 = .ok (.aaload, 1) := by decide +kernel
theorem dX11_put_15 : decode cX11_put 15 = .ok (.astore 5, 2) := by decide +kernel
theorem dX11_put_17 : decode cX11_put 17 = .ok (.aload 5, 2) := by decide +kernel
theorem dX11_put_19 : decode cX11_put 19 = .ok (.invokevirtual 178, 3) := by decide +kernel
theorem dX11_put_22 : decode cX11_put 22 = .ok (.ifCond .eq 6, 3) := by decide +kernel
theorem dX11_put_25 : decode cX11_put 25 = .ok (.bipush (-11), 2) := by decide +kernel
theorem dX11_put_27 : decode cX11_put 27 = .ok (.ireturn, 1) := by decide +kernel
theorem dX11_put_28 : decode cX11_put 28 = .ok (.aload 5, 2) := by decide +kernel
theorem dX11_put_30 : decode cX11_put 30 = .ok (.iload_n 2, 1) := by decide +kernel
theorem dX11_put_31 : decode cX11_put 31 = .ok (.invokevirtual 267, 3) := by decide +kernel
theorem dX11_put_34 : decode cX11_put 34 = .ok (.ifCond .ne 6, 3) := by decide +kernel
theorem dX11_put_37 : decode cX11_put 37 = .ok (.bipush (-13), 2) := by decide +kernel
theorem dX11_put_39 : decode cX11_put 39 = .ok (.ireturn, 1) := by decide +kernel
theorem dX11_put_40 : decode cX11_put 40 = .ok (.aload 5, 2) := by decide +kernel
theorem dX11_put_42 : decode cX11_put 42 = .ok (.getfield 184, 3) := by decide +kernel
theorem dX11_put_45 : decode cX11_put 45 = .ok (.iload_n 2, 1) := by decide +kernel
theorem dX11_put_46 : decode cX11_put 46 = .ok (.lload_n 3, 1) := by decide +kernel
theorem dX11_put_47 : decode cX11_put 47 = .ok (.lastore, 1) := by decide +kernel
theorem dX11_put_48 : decode cX11_put 48 = .ok (.iconst 1, 1) := by decide +kernel
theorem dX11_put_49 : decode cX11_put 49 = .ok (.ireturn, 1) := by decide +kernel
theorem dX11_get_0 : decode cX11_get 0 = .ok (.iload_n 1, 1) := by decide +kernel
theorem dX11_get_1 : decode cX11_get 1 = .ok (.invokestatic 175, 3) := by decide +kernel
theorem dX11_get_4 : decode cX11_get 4 = .ok (.ifCond .eq 30, 3) := by decide +kernel
theorem dX11_get_7 : decode cX11_get 7 = .ok (.aload_n 0, 1) := by decide +kernel
theorem dX11_get_8 : decode cX11_get 8 = .ok (.getfield 56, 3) := by decide +kernel
theorem dX11_get_11 : decode cX11_get 11 = .ok (.iload_n 1, 1) := by decide +kernel
theorem dX11_get_12 : decode cX11_get 12 = .ok (.aaload, 1) := by decide +kernel
theorem dX11_get_13 : decode cX11_get 13 = .ok (.iload_n 2, 1) := by decide +kernel
theorem dX11_get_14 : decode cX11_get 14 = .ok (.invokevirtual 267, 3) := by decide +kernel
theorem dX11_get_17 : decode cX11_get 17 = .ok (.ifCond .eq 17, 3) := by decide +kernel
theorem dX11_get_20 : decode cX11_get 20 = .ok (.aload_n 0, 1) := by decide +kernel
theorem dX11_get_21 : decode cX11_get 21 = .ok (.getfield 56, 3) := by decide +kernel
theorem dX11_get_24 : decode cX11_get 24 = .ok (.iload_n 1, 1) := by decide +kernel
theorem dX11_get_25 : decode cX11_get 25 = .ok (.aaload, 1) := by decide +kernel
theorem dX11_get_26 : decode cX11_get 26 = .ok (.getfield 184, 3) := by decide +kernel
theorem dX11_get_29 : decode cX11_get 29 = .ok (.iload_n 2, 1) := by decide +kernel
theorem dX11_get_30 : decode cX11_get 30 = .ok (.laload, 1) := by decide +kernel
theorem dX11_get_31 : decode cX11_get 31 = .ok (.goto 6, 3) := by decide +kernel
theorem dX11_get_34 : decode cX11_get 34 = .ok (.ldc2_w 122, 3) := by decide +kernel
theorem dX11_get_37 : decode cX11_get 37 = .ok (.lreturn, 1) := by decide +kernel
theorem dX11_film_0 : decode cX11_film 0 = .ok (.iload_n 1, 1) := by decide +kernel
theorem dX11_film_1 : decode cX11_film 1 = .ok (.invokestatic 175, 3) := by decide +kernel
theorem dX11_film_4 : decode cX11_film 4 = .ok (.ifCond .ne 5, 3) := by decide +kernel
theorem dX11_film_7 : decode cX11_film 7 = .ok (.iconst (-1), 1) := by decide +kernel
theorem dX11_film_8 : decode cX11_film 8 = .ok (.ireturn, 1) := by decide +kernel
theorem dX11_film_9 : decode cX11_film 9 = .ok (.aload_n 0, 1) := by decide +kernel
theorem dX11_film_10 : decode cX11_film 10 = .ok (.getfield 12, 3) := by decide +kernel
theorem dX11_film_13 : decode cX11_film 13 = .ok (.getfield 95, 3) := by decide +kernel
theorem dX11_film_16 : decode cX11_film 16 = .ok (.astore_n 2, 1) := by decide +kernel
theorem dX11_film_17 : decode cX11_film 17 = .ok (.aload_n 0, 1) := by decide +kernel
theorem dX11_film_18 : decode cX11_film 18 = .ok (.getfield 56, 3) := by decide +kernel
theorem dX11_film_21 : decode cX11_film 21 = .ok (.iload_n 1, 1) := by decide +kernel
theorem dX11_film_22 : decode cX11_film 22 = .ok (.aaload, 1) := by decide +kernel
theorem dX11_film_23 : decode cX11_film 23 = .ok (.aload_n 2, 1) := by decide +kernel
theorem dX11_film_24 : decode cX11_film 24 = .ok (.getfield 98, 3) := by decide +kernel
theorem dX11_film_27 : decode cX11_film 27 = .ok (.invokevirtual 266, 3) := by decide +kernel
theorem dX11_film_30 : decode cX11_film 30 = .ok (.iconst 0, 1) := by decide +kernel
theorem dX11_film_31 : decode cX11_film 31 = .ok (.istore_n 3, 1) := by decide +kernel
theorem dX11_film_32 : decode cX11_film 32 = .ok (.iload_n 3, 1) := by decide +kernel
theorem dX11_film_33 : decode cX11_film 33 = .ok (.aload_n 2, 1) := by decide +kernel
theorem dX11_film_34 : decode cX11_film 34 = .ok (.getfield 98, 3) := by decide +kernel
theorem dX11_film_37 : decode cX11_film 37 = .ok (.if_icmp .ge 27, 3) := by decide +kernel
theorem dX11_film_40 : decode cX11_film 40 = .ok (.aload_n 0, 1) := by decide +kernel
theorem dX11_film_41 : decode cX11_film 41 = .ok (.getfield 56, 3) := by decide +kernel
theorem dX11_film_44 : decode cX11_film 44 = .ok (.iload_n 1, 1) := by decide +kernel
theorem dX11_film_45 : decode cX11_film 45 = .ok (.aaload, 1) := by decide +kernel
theorem dX11_film_46 : decode cX11_film 46 = .ok (.getfield 184, 3) := by decide +kernel
theorem dX11_film_49 : decode cX11_film 49 = .ok (.iload_n 3, 1) := by decide +kernel
theorem dX11_film_50 : decode cX11_film 50 = .ok (.aload_n 2, 1) := by decide +kernel
theorem dX11_film_51 : decode cX11_film 51 = .ok (.getfield 109, 3) := by decide +kernel
theorem dX11_film_54 : decode cX11_film 54 = .ok (.iload_n 3, 1) := by decide +kernel
theorem dX11_film_55 : decode cX11_film 55 = .ok (.iaload, 1) := by decide +kernel
theorem dX11_film_56 : decode cX11_film 56 = .ok (.i2l, 1) := by decide +kernel
theorem dX11_film_57 : decode cX11_film 57 = .ok (.lastore, 1) := by decide +kernel
theorem dX11_film_58 : decode cX11_film 58 = .ok (.iinc 3 1, 3) := by decide +kernel
theorem dX11_film_61 : decode cX11_film 61 = .ok (.goto (-29), 3) := by decide +kernel
theorem dX11_film_64 : decode cX11_film 64 = .ok (.aload_n 2, 1) := by decide +kernel
theorem dX11_film_65 : decode cX11_film 65 = .ok (.getfield 98, 3) := by decide +kernel
theorem dX11_film_68 : decode cX11_film 68 = .ok (.ireturn, 1) := by decide +kernel
theorem dX11_feed_0 : decode cX11_feed 0 = .ok (.iload_n 1, 1) := by decide +kernel
theorem dX11_feed_1 : decode cX11_feed 1 = .ok (.bipush 32, 2) := by decide +kernel
theorem dX11_feed_3 : decode cX11_feed 3 = .ok (.if_icmp .lt 9, 3) := by decide +kernel
theorem dX11_feed_6 : decode cX11_feed 6 = .ok (.iload_n 1, 1) := by decide +kernel
theorem dX11_feed_7 : decode cX11_feed 7 = .ok (.bipush 126, 2) := by decide +kernel
theorem dX11_feed_9 : decode cX11_feed 9 = .ok (.if_icmp .le 6, 3) := by decide +kernel
theorem dX11_feed_12 : decode cX11_feed 12 = .ok (.bipush (-2), 2) := by decide +kernel
theorem dX11_feed_14 : decode cX11_feed 14 = .ok (.ireturn, 1) := by decide +kernel
theorem dX11_feed_15 : decode cX11_feed 15 = .ok (.aload_n 0, 1) := by decide +kernel
theorem dX11_feed_16 : decode cX11_feed 16 = .ok (.getfield 63, 3) := by decide +kernel
theorem dX11_feed_19 : decode cX11_feed 19 = .ok (.getfield 268, 3) := by decide +kernel
theorem dX11_feed_22 : decode cX11_feed 22 = .ok (.bipush 100, 2) := by decide +kernel
theorem dX11_feed_24 : decode cX11_feed 24 = .ok (.if_icmp .lt 6, 3) := by decide +kernel
theorem dX11_feed_27 : decode cX11_feed 27 = .ok (.bipush (-4), 2) := by decide +kernel
theorem dX11_feed_29 : decode cX11_feed 29 = .ok (.ireturn, 1) := by decide +kernel
theorem dX11_feed_30 : decode cX11_feed 30 = .ok (.aload_n 0, 1) := by decide +kernel
theorem dX11_feed_31 : decode cX11_feed 31 = .ok (.getfield 63, 3) := by decide +kernel
theorem dX11_feed_34 : decode cX11_feed 34 = .ok (.iload_n 1, 1) := by decide +kernel
theorem dX11_feed_35 : decode cX11_feed 35 = .ok (.invokevirtual 269, 3) := by decide +kernel
theorem dX11_feed_38 : decode cX11_feed 38 = .ok (.aload_n 0, 1) := by decide +kernel
theorem dX11_feed_39 : decode cX11_feed 39 = .ok (.getfield 63, 3) := by decide +kernel
theorem dX11_feed_42 : decode cX11_feed 42 = .ok (.getfield 268, 3) := by decide +kernel
theorem dX11_feed_45 : decode cX11_feed 45 = .ok (.ireturn, 1) := by decide +kernel
theorem dX11_wipe_0 : decode cX11_wipe 0 = .ok (.aload_n 0, 1) := by decide +kernel
theorem dX11_wipe_1 : decode cX11_wipe 1 = .ok (.getfield 63, 3) := by decide +kernel
theorem dX11_wipe_4 : decode cX11_wipe 4 = .ok (.getfield 268, 3) := by decide +kernel
theorem dX11_wipe_7 : decode cX11_wipe 7 = .ok (.istore_n 1, 1) := by decide +kernel
theorem dX11_wipe_8 : decode cX11_wipe 8 = .ok (.aload_n 0, 1) := by decide +kernel
theorem dX11_wipe_9 : decode cX11_wipe 9 = .ok (.getfield 63, 3) := by decide +kernel
theorem dX11_wipe_12 : decode cX11_wipe 12 = .ok (.iconst 0, 1) := by decide +kernel
theorem dX11_wipe_13 : decode cX11_wipe 13 = .ok (.putfield 268, 3) := by decide +kernel
theorem dX11_wipe_16 : decode cX11_wipe 16 = .ok (.iload_n 1, 1) := by decide +kernel
theorem dX11_wipe_17 : decode cX11_wipe 17 = .ok (.ireturn, 1) := by decide +kernel
theorem dX11_read_0 : decode cX11_read 0 = .ok (.aload_n 0, 1) := by decide +kernel
theorem dX11_read_1 : decode cX11_read 1 = .ok (.getfield 63, 3) := by decide +kernel
theorem dX11_read_4 : decode cX11_read 4 = .ok (.invokevirtual 271, 3) := by decide +kernel
theorem dX11_read_7 : decode cX11_read 7 = .ok (.istore_n 1, 1) := by decide +kernel
theorem dX11_read_8 : decode cX11_read 8 = .ok (.aload_n 0, 1) := by decide +kernel
theorem dX11_read_9 : decode cX11_read 9 = .ok (.getfield 63, 3) := by decide +kernel
theorem dX11_read_12 : decode cX11_read 12 = .ok (.iconst 0, 1) := by decide +kernel
theorem dX11_read_13 : decode cX11_read 13 = .ok (.putfield 268, 3) := by decide +kernel
theorem dX11_read_16 : decode cX11_read 16 = .ok (.iload_n 1, 1) := by decide +kernel
theorem dX11_read_17 : decode cX11_read 17 = .ok (.ifCond .ne 14, 3) := by decide +kernel
theorem dX11_read_20 : decode cX11_read 20 = .ok (.bipush (-100), 2) := by decide +kernel
theorem dX11_read_22 : decode cX11_read 22 = .ok (.aload_n 0, 1) := by decide +kernel
theorem dX11_read_23 : decode cX11_read 23 = .ok (.getfield 63, 3) := by decide +kernel
theorem dX11_read_26 : decode cX11_read 26 = .ok (.getfield 274, 3) := by decide +kernel
theorem dX11_read_29 : decode cX11_read 29 = .ok (.isub, 1) := by decide +kernel
theorem dX11_read_30 : decode cX11_read 30 = .ok (.ireturn, 1) := by decide +kernel
theorem dX11_read_31 : decode cX11_read 31 = .ok (.aload_n 0, 1) := by decide +kernel
theorem dX11_read_32 : decode cX11_read 32 = .ok (.getfield 63, 3) := by decide +kernel
theorem dX11_read_35 : decode cX11_read 35 = .ok (.invokevirtual 277, 3) := by decide +kernel
theorem dX11_read_38 : decode cX11_read 38 = .ok (.ifCond .eq 6, 3) := by decide +kernel
theorem dX11_read_41 : decode cX11_read 41 = .ok (.bipush (-9), 2) := by decide +kernel
theorem dX11_read_43 : decode cX11_read 43 = .ok (.ireturn, 1) := by decide +kernel
theorem dX11_read_44 : decode cX11_read 44 = .ok (.aload_n 0, 1) := by decide +kernel
theorem dX11_read_45 : decode cX11_read 45 = .ok (.getfield 12, 3) := by decide +kernel
theorem dX11_read_48 : decode cX11_read 48 = .ok (.getfield 95, 3) := by decide +kernel
theorem dX11_read_51 : decode cX11_read 51 = .ok (.aload_n 0, 1) := by decide +kernel
theorem dX11_read_52 : decode cX11_read 52 = .ok (.getfield 63, 3) := by decide +kernel
theorem dX11_read_55 : decode cX11_read 55 = .ok (.getfield 280, 3) := by decide +kernel
theorem dX11_read_58 : decode cX11_read 58 = .ok (.invokevirtual 161, 3) := by decide +kernel
theorem dX11_read_61 : decode cX11_read 61 = .ok (.aload_n 0, 1) := by decide +kernel
theorem dX11_read_62 : decode cX11_read 62 = .ok (.getfield 12, 3) := by decide +kernel
theorem dX11_read_65 : decode cX11_read 65 = .ok (.getfield 95, 3) := by decide +kernel
theorem dX11_read_68 : decode cX11_read 68 = .ok (.invokevirtual 112, 3) := by decide +kernel
theorem dX11_read_71 : decode cX11_read 71 = .ok (.ireturn, 1) := by decide +kernel
theorem dX11_spelled_0 : decode cX11_spelled 0 = .ok (.aload_n 0, 1) := by decide +kernel
theorem dX11_spelled_1 : decode cX11_spelled 1 = .ok (.getfield 70, 3) := by decide +kernel
theorem dX11_spelled_4 : decode cX11_spelled 4 = .ok (.aload_n 0, 1) := by decide +kernel
theorem dX11_spelled_5 : decode cX11_spelled 5 = .ok (.getfield 12, 3) := by decide +kernel
theorem dX11_spelled_8 : decode cX11_spelled 8 = .ok (.getfield 95, 3) := by decide +kernel
theorem dX11_spelled_11 : decode cX11_spelled 11 = .ok (.invokevirtual 283, 3) := by decide +kernel
theorem dX11_spelled_14 : decode cX11_spelled 14 = .ok (.iload_n 1, 1) := by decide +kernel
theorem dX11_spelled_15 : decode cX11_spelled 15 = .ok (.iconst (-1), 1) := by decide +kernel
theorem dX11_spelled_16 : decode cX11_spelled 16 = .ok (.if_icmp .ne 11, 3) := by decide +kernel
theorem dX11_spelled_19 : decode cX11_spelled 19 = .ok (.aload_n 0, 1) := by decide +kernel
theorem dX11_spelled_20 : decode cX11_spelled 20 = .ok (.getfield 70, 3) := by decide +kernel
theorem dX11_spelled_23 : decode cX11_spelled 23 = .ok (.getfield 286, 3) := by decide +kernel
theorem dX11_spelled_26 : decode cX11_spelled 26 = .ok (.ireturn, 1) := by decide +kernel
theorem dX11_spelled_27 : decode cX11_spelled 27 = .ok (.iload_n 1, 1) := by decide +kernel
theorem dX11_spelled_28 : decode cX11_spelled 28 = .ok (.ifCond .lt 14, 3) := by decide +kernel
theorem dX11_spelled_31 : decode cX11_spelled 31 = .ok (.iload_n 1, 1) := by decide +kernel
theorem dX11_spelled_32 : decode cX11_spelled 32 = .ok (.aload_n 0, 1) := by decide +kernel
theorem dX11_spelled_33 : decode cX11_spelled 33 = .ok (.getfield 70, 3) := by decide +kernel
theorem dX11_spelled_36 : decode cX11_spelled 36 = .ok (.getfield 286, 3) := by decide +kernel
theorem dX11_spelled_39 : decode cX11_spelled 39 = .ok (.if_icmp .lt 7, 3) := by decide +kernel
theorem dX11_spelled_42 : decode cX11_spelled 42 = .ok (.iconst (-1), 1) := by decide +kernel
theorem dX11_spelled_43 : decode cX11_spelled 43 = .ok (.goto 12, 3) := by decide +kernel
theorem dX11_spelled_46 : decode cX11_spelled 46 = .ok (.aload_n 0, 1) := by decide +kernel
theorem dX11_spelled_47 : decode cX11_spelled 47 = .ok (.getfield 70, 3) := by decide +kernel
theorem dX11_spelled_50 : decode cX11_spelled 50 = .ok (.getfield 287, 3) := by decide +kernel
theorem dX11_spelled_53 : decode cX11_spelled 53 = .ok (.iload_n 1, 1) := by decide +kernel
theorem dX11_spelled_54 : decode cX11_spelled 54 = .ok (.iaload, 1) := by decide +kernel
theorem dX11_spelled_55 : decode cX11_spelled 55 = .ok (.ireturn, 1) := by decide +kernel
theorem dX11_image_0 : decode cX11_image 0 = .ok (.aload_n 0, 1) := by decide +kernel
theorem dX11_image_1 : decode cX11_image 1 = .ok (.getfield 18, 3) := by decide +kernel
theorem dX11_image_4 : decode cX11_image 4 = .ok (.aload_n 0, 1) := by decide +kernel
theorem dX11_image_5 : decode cX11_image 5 = .ok (.getfield 12, 3) := by decide +kernel
theorem dX11_image_8 : decode cX11_image 8 = .ok (.invokevirtual 290, 3) := by decide +kernel
theorem dX11_image_11 : decode cX11_image 11 = .ok (.aload_n 0, 1) := by decide +kernel
theorem dX11_image_12 : decode cX11_image 12 = .ok (.iconst 1, 1) := by decide +kernel
theorem dX11_image_13 : decode cX11_image 13 = .ok (.putfield 293, 3) := by decide +kernel
theorem dX11_image_16 : decode cX11_image 16 = .ok (.aload_n 0, 1) := by decide +kernel
theorem dX11_image_17 : decode cX11_image 17 = .ok (.getfield 12, 3) := by decide +kernel
theorem dX11_image_20 : decode cX11_image 20 = .ok (.getfield 95, 3) := by decide +kernel
theorem dX11_image_23 : decode cX11_image 23 = .ok (.invokevirtual 112, 3) := by decide +kernel
theorem dX11_image_26 : decode cX11_image 26 = .ok (.ireturn, 1) := by decide +kernel
theorem dX11_undo_0 : decode cX11_undo 0 = .ok (.aload_n 0, 1) := by decide +kernel
theorem dX11_undo_1 : decode cX11_undo 1 = .ok (.getfield 293, 3) := by decide +kernel
theorem dX11_undo_4 : decode cX11_undo 4 = .ok (.ifCond .ne 6, 3) := by decide +kernel
theorem dX11_undo_7 : decode cX11_undo 7 = .ok (.bipush (-3), 2) := by decide +kernel
theorem dX11_undo_9 : decode cX11_undo 9 = .ok (.ireturn, 1) := by decide +kernel
theorem dX11_undo_10 : decode cX11_undo 10 = .ok (.aload_n 0, 1) := by decide +kernel
theorem dX11_undo_11 : decode cX11_undo 11 = .ok (.getfield 12, 3) := by decide +kernel
theorem dX11_undo_14 : decode cX11_undo 14 = .ok (.aload_n 0, 1) := by decide +kernel
theorem dX11_undo_15 : decode cX11_undo 15 = .ok (.getfield 18, 3) := by decide +kernel
theorem dX11_undo_18 : decode cX11_undo 18 = .ok (.invokevirtual 290, 3) := by decide +kernel
theorem dX11_undo_21 : decode cX11_undo 21 = .ok (.aload_n 0, 1) := by decide +kernel
theorem dX11_undo_22 : decode cX11_undo 22 = .ok (.getfield 12, 3) := by decide +kernel
theorem dX11_undo_25 : decode cX11_undo 25 = .ok (.getfield 95, 3) := by decide +kernel
theorem dX11_undo_28 : decode cX11_undo 28 = .ok (.invokevirtual 112, 3) := by decide +kernel
theorem dX11_undo_31 : decode cX11_undo 31 = .ok (.ireturn, 1) := by decide +kernel
theorem dX11_count_0 : decode cX11_count 0 = .ok (.iload_n 1, 1) := by decide +kernel
theorem dX11_count_1 : decode cX11_count 1 = .ok (.tableswitch 111 0 5 #[39, 50, 61, 72, 80, 106], 39) := by decide +kernel
theorem dX11_count_40 : decode cX11_count 40 = .ok (.aload_n 0, 1) := by decide +kernel
theorem dX11_count_41 : decode cX11_count 41 = .ok (.getfield 12, 3) := by decide +kernel
theorem dX11_count_44 : decode cX11_count 44 = .ok (.getfield 95, 3) := by decide +kernel
theorem dX11_count_47 : decode cX11_count 47 = .ok (.getfield 98, 3) := by decide +kernel
theorem dX11_count_50 : decode cX11_count 50 = .ok (.ireturn, 1) := by decide +kernel
theorem dX11_count_51 : decode cX11_count 51 = .ok (.aload_n 0, 1) := by decide +kernel
theorem dX11_count_52 : decode cX11_count 52 = .ok (.getfield 12, 3) := by decide +kernel
theorem dX11_count_55 : decode cX11_count 55 = .ok (.getfield 95, 3) := by decide +kernel
theorem dX11_count_58 : decode cX11_count 58 = .ok (.invokevirtual 297, 3) := by decide +kernel
theorem dX11_count_61 : decode cX11_count 61 = .ok (.ireturn, 1) := by decide +kernel
theorem dX11_count_62 : decode cX11_count 62 = .ok (.aload_n 0, 1) := by decide +kernel
theorem dX11_count_63 : decode cX11_count 63 = .ok (.getfield 12, 3) := by decide +kernel
theorem dX11_count_66 : decode cX11_count 66 = .ok (.getfield 223, 3) := by decide +kernel
theorem dX11_count_69 : decode cX11_count 69 = .ok (.getfield 227, 3) := by decide +kernel
theorem dX11_count_72 : decode cX11_count 72 = .ok (.ireturn, 1) := by decide +kernel
theorem dX11_count_73 : decode cX11_count 73 = .ok (.aload_n 0, 1) := by decide +kernel
theorem dX11_count_74 : decode cX11_count 74 = .ok (.getfield 63, 3) := by decide +kernel
theorem dX11_count_77 : decode cX11_count 77 = .ok (.getfield 268, 3) := by decide +kernel
theorem dX11_count_80 : decode cX11_count 80 = .ok (.ireturn, 1) := by decide +kernel
theorem dX11_count_81 : decode cX11_count 81 = .ok (.aload_n 0, 1) := by decide +kernel
theorem dX11_count_82 : decode cX11_count 82 = .ok (.getfield 12, 3) := by decide +kernel
theorem dX11_count_85 : decode cX11_count 85 = .ok (.getfield 250, 3) := by decide +kernel
theorem dX11_count_88 : decode cX11_count 88 = .ok (.iconst 0, 1) := by decide +kernel
theorem dX11_count_89 : decode cX11_count 89 = .ok (.aaload, 1) := by decide +kernel
theorem dX11_count_90 : decode cX11_count 90 = .ok (.getfield 254, 3) := by decide +kernel
theorem dX11_count_93 : decode cX11_count 93 = .ok (.aload_n 0, 1) := by decide +kernel
theorem dX11_count_94 : decode cX11_count 94 = .ok (.getfield 12, 3) := by decide +kernel
theorem dX11_count_97 : decode cX11_count 97 = .ok (.getfield 250, 3) := by decide +kernel
theorem dX11_count_100 : decode cX11_count 100 = .ok (.iconst 1, 1) := by decide +kernel
theorem dX11_count_101 : decode cX11_count 101 = .ok (.aaload, 1) := by decide +kernel
theorem dX11_count_102 : decode cX11_count 102 = .ok (.getfield 254, 3) := by decide +kernel
theorem dX11_count_105 : decode cX11_count 105 = .ok (.iadd, 1) := by decide +kernel
theorem dX11_count_106 : decode cX11_count 106 = .ok (.ireturn, 1) := by decide +kernel
theorem dX11_count_107 : decode cX11_count 107 = .ok (.aload_n 0, 1) := by decide +kernel
theorem dX11_count_108 : decode cX11_count 108 = .ok (.invokevirtual 300, 3) := by decide +kernel
theorem dX11_count_111 : decode cX11_count 111 = .ok (.ireturn, 1) := by decide +kernel
theorem dX11_count_112 : decode cX11_count 112 = .ok (.iconst (-1), 1) := by decide +kernel
theorem dX11_count_113 : decode cX11_count 113 = .ok (.ireturn, 1) := by decide +kernel
theorem dX11_isBase_0 : decode cX11_isBase 0 = .ok (.iload_n 0, 1) := by decide +kernel
theorem dX11_isBase_1 : decode cX11_isBase 1 = .ok (.iconst 2, 1) := by decide +kernel
theorem dX11_isBase_2 : decode cX11_isBase 2 = .ok (.if_icmp .lt 13, 3) := by decide +kernel
theorem dX11_isBase_5 : decode cX11_isBase 5 = .ok (.iload_n 0, 1) := by decide +kernel
theorem dX11_isBase_6 : decode cX11_isBase 6 = .ok (.bipush 30, 2) := by decide +kernel
theorem dX11_isBase_8 : decode cX11_isBase 8 = .ok (.if_icmp .gt 7, 3) := by decide +kernel
theorem dX11_isBase_11 : decode cX11_isBase 11 = .ok (.iconst 1, 1) := by decide +kernel
theorem dX11_isBase_12 : decode cX11_isBase 12 = .ok (.goto 4, 3) := by decide +kernel
theorem dX11_isBase_15 : decode cX11_isBase 15 = .ok (.iconst 0, 1) := by decide +kernel
theorem dX11_isBase_16 : decode cX11_isBase 16 = .ok (.ireturn, 1) := by decide +kernel
theorem dX11_isShelf_0 : decode cX11_isShelf 0 = .ok (.iload_n 0, 1) := by decide +kernel
theorem dX11_isShelf_1 : decode cX11_isShelf 1 = .ok (.ifCond .lt 12, 3) := by decide +kernel
theorem dX11_isShelf_4 : decode cX11_isShelf 4 = .ok (.iload_n 0, 1) := by decide +kernel
theorem dX11_isShelf_5 : decode cX11_isShelf 5 = .ok (.iconst 2, 1) := by decide +kernel
theorem dX11_isShelf_6 : decode cX11_isShelf 6 = .ok (.if_icmp .ge 7, 3) := by decide +kernel
theorem dX11_isShelf_9 : decode cX11_isShelf 9 = .ok (.iconst 1, 1) := by decide +kernel
theorem dX11_isShelf_10 : decode cX11_isShelf 10 = .ok (.goto 4, 3) := by decide +kernel
theorem dX11_isShelf_13 : decode cX11_isShelf 13 = .ok (.iconst 0, 1) := by decide +kernel
theorem dX11_isShelf_14 : decode cX11_isShelf 14 = .ok (.ireturn, 1) := by decide +kernel
theorem dX11_isList_0 : decode cX11_isList 0 = .ok (.iload_n 0, 1) := by decide +kernel
theorem dX11_isList_1 : decode cX11_isList 1 = .ok (.ifCond .lt 12, 3) := by decide +kernel
theorem dX11_isList_4 : decode cX11_isList 4 = .ok (.iload_n 0, 1) := by decide +kernel
theorem dX11_isList_5 : decode cX11_isList 5 = .ok (.iconst 3, 1) := by decide +kernel
theorem dX11_isList_6 : decode cX11_isList 6 = .ok (.if_icmp .ge 7, 3) := by decide +kernel
theorem dX11_isList_9 : decode cX11_isList 9 = .ok (.iconst 1, 1) := by decide +kernel
theorem dX11_isList_10 : decode cX11_isList 10 = .ok (.goto 4, 3) := by decide +kernel
theorem dX11_isList_13 : decode cX11_isList 13 = .ok (.iconst 0, 1) := by decide +kernel
theorem dX11_isList_14 : decode cX11_isList 14 = .ok (.ireturn, 1) := by decide +kernel
theorem dX11_isPrimeOf_0 : decode cX11_isPrimeOf 0 = .ok (.iload_n 0, 1) := by decide +kernel
theorem dX11_isPrimeOf_1 : decode cX11_isPrimeOf 1 = .ok (.iconst 2, 1) := by decide +kernel
theorem dX11_isPrimeOf_2 : decode cX11_isPrimeOf 2 = .ok (.if_icmp .lt 14, 3) := by decide +kernel
theorem dX11_isPrimeOf_5 : decode cX11_isPrimeOf 5 = .ok (.iload_n 0, 1) := by decide +kernel
theorem dX11_isPrimeOf_6 : decode cX11_isPrimeOf 6 = .ok (.iload_n 1, 1) := by decide +kernel
theorem dX11_isPrimeOf_7 : decode cX11_isPrimeOf 7 = .ok (.if_icmp .gt 9, 3) := by decide +kernel
theorem dX11_isPrimeOf_10 : decode cX11_isPrimeOf 10 = .ok (.iload_n 1, 1) := by decide +kernel
theorem dX11_isPrimeOf_11 : decode cX11_isPrimeOf 11 = .ok (.iload_n 0, 1) := by decide +kernel
theorem dX11_isPrimeOf_12 : decode cX11_isPrimeOf 12 = .ok (.irem, 1) := by decide +kernel
theorem dX11_isPrimeOf_13 : decode cX11_isPrimeOf 13 = .ok (.ifCond .eq 5, 3) := by decide +kernel
theorem dX11_isPrimeOf_16 : decode cX11_isPrimeOf 16 = .ok (.iconst 0, 1) := by decide +kernel
theorem dX11_isPrimeOf_17 : decode cX11_isPrimeOf 17 = .ok (.ireturn, 1) := by decide +kernel
theorem dX11_isPrimeOf_18 : decode cX11_isPrimeOf 18 = .ok (.iconst 2, 1) := by decide +kernel
theorem dX11_isPrimeOf_19 : decode cX11_isPrimeOf 19 = .ok (.istore_n 2, 1) := by decide +kernel
theorem dX11_isPrimeOf_20 : decode cX11_isPrimeOf 20 = .ok (.iload_n 2, 1) := by decide +kernel
theorem dX11_isPrimeOf_21 : decode cX11_isPrimeOf 21 = .ok (.iload_n 0, 1) := by decide +kernel
theorem dX11_isPrimeOf_22 : decode cX11_isPrimeOf 22 = .ok (.if_icmp .ge 17, 3) := by decide +kernel
theorem dX11_isPrimeOf_25 : decode cX11_isPrimeOf 25 = .ok (.iload_n 0, 1) := by decide +kernel
theorem dX11_isPrimeOf_26 : decode cX11_isPrimeOf 26 = .ok (.iload_n 2, 1) := by decide +kernel
theorem dX11_isPrimeOf_27 : decode cX11_isPrimeOf 27 = .ok (.irem, 1) := by decide +kernel
theorem dX11_isPrimeOf_28 : decode cX11_isPrimeOf 28 = .ok (.ifCond .ne 5, 3) := by decide +kernel
theorem dX11_isPrimeOf_31 : decode cX11_isPrimeOf 31 = .ok (.iconst 0, 1) := by decide +kernel
theorem dX11_isPrimeOf_32 : decode cX11_isPrimeOf 32 = .ok (.ireturn, 1) := by decide +kernel
theorem dX11_isPrimeOf_33 : decode cX11_isPrimeOf 33 = .ok (.iinc 2 1, 3) := by decide +kernel
theorem dX11_isPrimeOf_36 : decode cX11_isPrimeOf 36 = .ok (.goto (-16), 3) := by decide +kernel
theorem dX11_isPrimeOf_39 : decode cX11_isPrimeOf 39 = .ok (.iconst 1, 1) := by decide +kernel
theorem dX11_isPrimeOf_40 : decode cX11_isPrimeOf 40 = .ok (.ireturn, 1) := by decide +kernel
theorem dX11_shareDivisor_0 : decode cX11_shareDivisor 0 = .ok (.iconst 2, 1) := by decide +kernel
theorem dX11_shareDivisor_1 : decode cX11_shareDivisor 1 = .ok (.istore_n 2, 1) := by decide +kernel
theorem dX11_shareDivisor_2 : decode cX11_shareDivisor 2 = .ok (.iload_n 2, 1) := by decide +kernel
theorem dX11_shareDivisor_3 : decode cX11_shareDivisor 3 = .ok (.iload_n 1, 1) := by decide +kernel
theorem dX11_shareDivisor_4 : decode cX11_shareDivisor 4 = .ok (.if_icmp .gt 23, 3) := by decide +kernel
theorem dX11_shareDivisor_7 : decode cX11_shareDivisor 7 = .ok (.iload_n 0, 1) := by decide +kernel
theorem dX11_shareDivisor_8 : decode cX11_shareDivisor 8 = .ok (.iload_n 2, 1) := by decide +kernel
theorem dX11_shareDivisor_9 : decode cX11_shareDivisor 9 = .ok (.irem, 1) := by decide +kernel
theorem dX11_shareDivisor_10 : decode cX11_shareDivisor 10 = .ok (.ifCond .ne 11, 3) := by decide +kernel
theorem dX11_shareDivisor_13 : decode cX11_shareDivisor 13 = .ok (.iload_n 1, 1) := by decide +kernel
theorem dX11_shareDivisor_14 : decode cX11_shareDivisor 14 = .ok (.iload_n 2, 1) := by decide +kernel
theorem dX11_shareDivisor_15 : decode cX11_shareDivisor 15 = .ok (.irem, 1) := by decide +kernel
theorem dX11_shareDivisor_16 : decode cX11_shareDivisor 16 = .ok (.ifCond .ne 5, 3) := by decide +kernel
theorem dX11_shareDivisor_19 : decode cX11_shareDivisor 19 = .ok (.iconst 1, 1) := by decide +kernel
theorem dX11_shareDivisor_20 : decode cX11_shareDivisor 20 = .ok (.ireturn, 1) := by decide +kernel
theorem dX11_shareDivisor_21 : decode cX11_shareDivisor 21 = .ok (.iinc 2 1, 3) := by decide +kernel
theorem dX11_shareDivisor_24 : decode cX11_shareDivisor 24 = .ok (.goto (-22), 3) := by decide +kernel
theorem dX11_shareDivisor_27 : decode cX11_shareDivisor 27 = .ok (.iconst 0, 1) := by decide +kernel
theorem dX11_shareDivisor_28 : decode cX11_shareDivisor 28 = .ok (.ireturn, 1) := by decide +kernel
theorem dX11_isNought_0 : decode cX11_isNought 0 = .ok (.aload_n 0, 1) := by decide +kernel
theorem dX11_isNought_1 : decode cX11_isNought 1 = .ok (.getfield 24, 3) := by decide +kernel
theorem dX11_isNought_4 : decode cX11_isNought 4 = .ok (.aload_n 1, 1) := by decide +kernel
theorem dX11_isNought_5 : decode cX11_isNought 5 = .ok (.getfield 98, 3) := by decide +kernel
theorem dX11_isNought_8 : decode cX11_isNought 8 = .ok (.invokevirtual 116, 3) := by decide +kernel
theorem dX11_isNought_11 : decode cX11_isNought 11 = .ok (.aload_n 0, 1) := by decide +kernel
theorem dX11_isNought_12 : decode cX11_isNought 12 = .ok (.getfield 24, 3) := by decide +kernel
theorem dX11_isNought_15 : decode cX11_isNought 15 = .ok (.aload_n 1, 1) := by decide +kernel
theorem dX11_isNought_16 : decode cX11_isNought 16 = .ok (.getfield 109, 3) := by decide +kernel
theorem dX11_isNought_19 : decode cX11_isNought 19 = .ok (.invokevirtual 127, 3) := by decide +kernel
theorem dX11_isNought_22 : decode cX11_isNought 22 = .ok (.aload_n 0, 1) := by decide +kernel
theorem dX11_isNought_23 : decode cX11_isNought 23 = .ok (.getfield 24, 3) := by decide +kernel
theorem dX11_isNought_26 : decode cX11_isNought 26 = .ok (.invokevirtual 303, 3) := by decide +kernel
theorem dX11_isNought_29 : decode cX11_isNought 29 = .ok (.ireturn, 1) := by decide +kernel
theorem dX11_loseFirstPart_0 : decode cX11_loseFirstPart 0 = .ok (.aload_n 0, 1) := by decide +kernel
theorem dX11_loseFirstPart_1 : decode cX11_loseFirstPart 1 = .ok (.getfield 42, 3) := by decide +kernel
theorem dX11_loseFirstPart_4 : decode cX11_loseFirstPart 4 = .ok (.aload_n 1, 1) := by decide +kernel
theorem dX11_loseFirstPart_5 : decode cX11_loseFirstPart 5 = .ok (.invokevirtual 142, 3) := by decide +kernel
theorem dX11_loseFirstPart_8 : decode cX11_loseFirstPart 8 = .ok (.aload_n 0, 1) := by decide +kernel
theorem dX11_loseFirstPart_9 : decode cX11_loseFirstPart 9 = .ok (.getfield 42, 3) := by decide +kernel
theorem dX11_loseFirstPart_12 : decode cX11_loseFirstPart 12 = .ok (.getfield 146, 3) := by decide +kernel
theorem dX11_loseFirstPart_15 : decode cX11_loseFirstPart 15 = .ok (.ifCond .ne 5, 3) := by decide +kernel
theorem dX11_loseFirstPart_18 : decode cX11_loseFirstPart 18 = .ok (.iconst 0, 1) := by decide +kernel
theorem dX11_loseFirstPart_19 : decode cX11_loseFirstPart 19 = .ok (.ireturn, 1) := by decide +kernel
theorem dX11_loseFirstPart_20 : decode cX11_loseFirstPart 20 = .ok (.iconst 0, 1) := by decide +kernel
theorem dX11_loseFirstPart_21 : decode cX11_loseFirstPart 21 = .ok (.istore_n 2, 1) := by decide +kernel
theorem dX11_loseFirstPart_22 : decode cX11_loseFirstPart 22 = .ok (.iload_n 2, 1) := by decide +kernel
theorem dX11_loseFirstPart_23 : decode cX11_loseFirstPart 23 = .ok (.aload_n 1, 1) := by decide +kernel
theorem dX11_loseFirstPart_24 : decode cX11_loseFirstPart 24 = .ok (.getfield 98, 3) := by decide +kernel
theorem dX11_loseFirstPart_27 : decode cX11_loseFirstPart 27 = .ok (.if_icmp .ge 27, 3) := by decide +kernel
theorem dX11_loseFirstPart_30 : decode cX11_loseFirstPart 30 = .ok (.aload_n 1, 1) := by decide +kernel
theorem dX11_loseFirstPart_31 : decode cX11_loseFirstPart 31 = .ok (.getfield 109, 3) := by decide +kernel
theorem dX11_loseFirstPart_34 : decode cX11_loseFirstPart 34 = .ok (.iload_n 2, 1) := by decide +kernel
theorem dX11_loseFirstPart_35 : decode cX11_loseFirstPart 35 = .ok (.dup2, 1) := by decide +kernel
theorem dX11_loseFirstPart_36 : decode cX11_loseFirstPart 36 = .ok (.iaload, 1) := by decide +kernel
theorem dX11_loseFirstPart_37 : decode cX11_loseFirstPart 37 = .ok (.aload_n 0, 1) := by decide +kernel
theorem dX11_loseFirstPart_38 : decode cX11_loseFirstPart 38 = .ok (.getfield 42, 3) := by decide +kernel
theorem dX11_loseFirstPart_41 : decode cX11_loseFirstPart 41 = .ok (.getfield 155, 3) := by decide +kernel
theorem dX11_loseFirstPart_44 : decode cX11_loseFirstPart 44 = .ok (.iload_n 2, 1) := by decide +kernel
theorem dX11_loseFirstPart_45 : decode cX11_loseFirstPart 45 = .ok (.iaload, 1) := by decide +kernel
theorem dX11_loseFirstPart_46 : decode cX11_loseFirstPart 46 = .ok (.isub, 1) := by decide +kernel
theorem dX11_loseFirstPart_47 : decode cX11_loseFirstPart 47 = .ok (.iastore, 1) := by decide +kernel
theorem dX11_loseFirstPart_48 : decode cX11_loseFirstPart 48 = .ok (.iinc 2 1, 3) := by decide +kernel
theorem dX11_loseFirstPart_51 : decode cX11_loseFirstPart 51 = .ok (.goto (-29), 3) := by decide +kernel
theorem dX11_loseFirstPart_54 : decode cX11_loseFirstPart 54 = .ok (.iconst 1, 1) := by decide +kernel
theorem dX11_loseFirstPart_55 : decode cX11_loseFirstPart 55 = .ok (.ireturn, 1) := by decide +kernel
theorem dX11_canChange_0 : decode cX11_canChange 0 = .ok (.iload_n 0, 1) := by decide +kernel
theorem dX11_canChange_1 : decode cX11_canChange 1 = .ok (.iconst 1, 1) := by decide +kernel
theorem dX11_canChange_2 : decode cX11_canChange 2 = .ok (.if_icmp .ne 28, 3) := by decide +kernel
theorem dX11_canChange_5 : decode cX11_canChange 5 = .ok (.iload_n 1, 1) := by decide +kernel
theorem dX11_canChange_6 : decode cX11_canChange 6 = .ok (.iconst 1, 1) := by decide +kernel
theorem dX11_canChange_7 : decode cX11_canChange 7 = .ok (.if_icmp .lt 21, 3) := by decide +kernel
theorem dX11_canChange_10 : decode cX11_canChange 10 = .ok (.iload_n 1, 1) := by decide +kernel
theorem dX11_canChange_11 : decode cX11_canChange 11 = .ok (.bipush 99, 2) := by decide +kernel
theorem dX11_canChange_13 : decode cX11_canChange 13 = .ok (.if_icmp .gt 15, 3) := by decide +kernel
theorem dX11_canChange_16 : decode cX11_canChange 16 = .ok (.iload_n 1, 1) := by decide +kernel
theorem dX11_canChange_17 : decode cX11_canChange 17 = .ok (.iload_n 2, 1) := by decide +kernel
theorem dX11_canChange_18 : decode cX11_canChange 18 = .ok (.invokestatic 306, 3) := by decide +kernel
theorem dX11_canChange_21 : decode cX11_canChange 21 = .ok (.ifCond .ne 7, 3) := by decide +kernel
theorem dX11_canChange_24 : decode cX11_canChange 24 = .ok (.iconst 1, 1) := by decide +kernel
theorem dX11_canChange_25 : decode cX11_canChange 25 = .ok (.goto 4, 3) := by decide +kernel
theorem dX11_canChange_28 : decode cX11_canChange 28 = .ok (.iconst 0, 1) := by decide +kernel
theorem dX11_canChange_29 : decode cX11_canChange 29 = .ok (.ireturn, 1) := by decide +kernel
theorem dX11_canChange_30 : decode cX11_canChange 30 = .ok (.iload_n 0, 1) := by decide +kernel
theorem dX11_canChange_31 : decode cX11_canChange 31 = .ok (.iconst 3, 1) := by decide +kernel
theorem dX11_canChange_32 : decode cX11_canChange 32 = .ok (.if_icmp .ne 11, 3) := by decide +kernel
theorem dX11_canChange_35 : decode cX11_canChange 35 = .ok (.iload_n 1, 1) := by decide +kernel
theorem dX11_canChange_36 : decode cX11_canChange 36 = .ok (.iload_n 2, 1) := by decide +kernel
theorem dX11_canChange_37 : decode cX11_canChange 37 = .ok (.invokestatic 168, 3) := by decide +kernel
theorem dX11_canChange_40 : decode cX11_canChange 40 = .ok (.ifCond .eq 7, 3) := by decide +kernel
theorem dX11_canChange_43 : decode cX11_canChange 43 = .ok (.iconst 1, 1) := by decide +kernel
theorem dX11_canChange_44 : decode cX11_canChange 44 = .ok (.goto 4, 3) := by decide +kernel
theorem dX11_canChange_47 : decode cX11_canChange 47 = .ok (.iconst 0, 1) := by decide +kernel
theorem dX11_canChange_48 : decode cX11_canChange 48 = .ok (.ireturn, 1) := by decide +kernel
theorem dX11_rootBehind_0 : decode cX11_rootBehind 0 = .ok (.iload_n 0, 1) := by decide +kernel
theorem dX11_rootBehind_1 : decode cX11_rootBehind 1 = .ok (.lookupswitch 43 #[(0, 27), (2, 37)], 27) := by decide +kernel
theorem dX11_rootBehind_28 : decode cX11_rootBehind 28 = .ok (.iload_n 3, 1) := by decide +kernel
theorem dX11_rootBehind_29 : decode cX11_rootBehind 29 = .ok (.iload_n 1, 1) := by decide +kernel
theorem dX11_rootBehind_30 : decode cX11_rootBehind 30 = .ok (.iload_n 2, 1) := by decide +kernel
theorem dX11_rootBehind_31 : decode cX11_rootBehind 31 = .ok (.invokestatic 309, 3) := by decide +kernel
theorem dX11_rootBehind_34 : decode cX11_rootBehind 34 = .ok (.iadd, 1) := by decide +kernel
theorem dX11_rootBehind_35 : decode cX11_rootBehind 35 = .ok (.iload_n 2, 1) := by decide +kernel
theorem dX11_rootBehind_36 : decode cX11_rootBehind 36 = .ok (.irem, 1) := by decide +kernel
theorem dX11_rootBehind_37 : decode cX11_rootBehind 37 = .ok (.ireturn, 1) := by decide +kernel
theorem dX11_rootBehind_38 : decode cX11_rootBehind 38 = .ok (.iload_n 2, 1) := by decide +kernel
theorem dX11_rootBehind_39 : decode cX11_rootBehind 39 = .ok (.iload_n 3, 1) := by decide +kernel
theorem dX11_rootBehind_40 : decode cX11_rootBehind 40 = .ok (.isub, 1) := by decide +kernel
theorem dX11_rootBehind_41 : decode cX11_rootBehind 41 = .ok (.iload_n 2, 1) := by decide +kernel
theorem dX11_rootBehind_42 : decode cX11_rootBehind 42 = .ok (.irem, 1) := by decide +kernel
theorem dX11_rootBehind_43 : decode cX11_rootBehind 43 = .ok (.ireturn, 1) := by decide +kernel
theorem dX11_rootBehind_44 : decode cX11_rootBehind 44 = .ok (.iload_n 3, 1) := by decide +kernel
theorem dX11_rootBehind_45 : decode cX11_rootBehind 45 = .ok (.iload_n 1, 1) := by decide +kernel
theorem dX11_rootBehind_46 : decode cX11_rootBehind 46 = .ok (.imul, 1) := by decide +kernel
theorem dX11_rootBehind_47 : decode cX11_rootBehind 47 = .ok (.iload_n 2, 1) := by decide +kernel
theorem dX11_rootBehind_48 : decode cX11_rootBehind 48 = .ok (.irem, 1) := by decide +kernel
theorem dX11_rootBehind_49 : decode cX11_rootBehind 49 = .ok (.ireturn, 1) := by decide +kernel
theorem dX11_change_0 : decode cX11_change 0 = .ok (.aload_n 0, 1) := by decide +kernel
theorem dX11_change_1 : decode cX11_change 1 = .ok (.getfield 12, 3) := by decide +kernel
theorem dX11_change_4 : decode cX11_change 4 = .ok (.getfield 95, 3) := by decide +kernel
theorem dX11_change_7 : decode cX11_change 7 = .ok (.astore_n 3, 1) := by decide +kernel
theorem dX11_change_8 : decode cX11_change 8 = .ok (.iload_n 1, 1) := by decide +kernel
theorem dX11_change_9 : decode cX11_change 9 = .ok (.iload_n 2, 1) := by decide +kernel
theorem dX11_change_10 : decode cX11_change 10 = .ok (.aload_n 3, 1) := by decide +kernel
theorem dX11_change_11 : decode cX11_change 11 = .ok (.getfield 98, 3) := by decide +kernel
theorem dX11_change_14 : decode cX11_change 14 = .ok (.invokestatic 239, 3) := by decide +kernel
theorem dX11_change_17 : decode cX11_change 17 = .ok (.ifCond .ne 5, 3) := by decide +kernel
theorem dX11_change_20 : decode cX11_change 20 = .ok (.iconst 0, 1) := by decide +kernel
theorem dX11_change_21 : decode cX11_change 21 = .ok (.ireturn, 1) := by decide +kernel
theorem dX11_change_22 : decode cX11_change 22 = .ok (.aload_n 0, 1) := by decide +kernel
theorem dX11_change_23 : decode cX11_change 23 = .ok (.getfield 81, 3) := by decide +kernel
theorem dX11_change_26 : decode cX11_change 26 = .ok (.iconst 0, 1) := by decide +kernel
theorem dX11_change_27 : decode cX11_change 27 = .ok (.invokestatic 314, 3) := by decide +kernel
theorem dX11_change_30 : decode cX11_change 30 = .ok (.iconst 0, 1) := by decide +kernel
theorem dX11_change_31 : decode cX11_change 31 = .ok (.istore 4, 2) := by decide +kernel
theorem dX11_change_33 : decode cX11_change 33 = .ok (.iload 4, 2) := by decide +kernel
theorem dX11_change_35 : decode cX11_change 35 = .ok (.aload_n 3, 1) := by decide +kernel
theorem dX11_change_36 : decode cX11_change 36 = .ok (.getfield 98, 3) := by decide +kernel
theorem dX11_change_39 : decode cX11_change 39 = .ok (.if_icmp .ge 53, 3) := by decide +kernel
theorem dX11_change_42 : decode cX11_change 42 = .ok (.iload_n 1, 1) := by decide +kernel
theorem dX11_change_43 : decode cX11_change 43 = .ok (.iload_n 2, 1) := by decide +kernel
theorem dX11_change_44 : decode cX11_change 44 = .ok (.aload_n 3, 1) := by decide +kernel
theorem dX11_change_45 : decode cX11_change 45 = .ok (.getfield 98, 3) := by decide +kernel
theorem dX11_change_48 : decode cX11_change 48 = .ok (.iload 4, 2) := by decide +kernel
theorem dX11_change_50 : decode cX11_change 50 = .ok (.invokestatic 243, 3) := by decide +kernel
theorem dX11_change_53 : decode cX11_change 53 = .ok (.istore 5, 2) := by decide +kernel
theorem dX11_change_55 : decode cX11_change 55 = .ok (.aload_n 0, 1) := by decide +kernel
theorem dX11_change_56 : decode cX11_change 56 = .ok (.getfield 81, 3) := by decide +kernel
theorem dX11_change_59 : decode cX11_change 59 = .ok (.iload 5, 2) := by decide +kernel
theorem dX11_change_61 : decode cX11_change 61 = .ok (.dup2, 1) := by decide +kernel
theorem dX11_change_62 : decode cX11_change 62 = .ok (.iaload, 1) := by decide +kernel
theorem dX11_change_63 : decode cX11_change 63 = .ok (.aload_n 3, 1) := by decide +kernel
theorem dX11_change_64 : decode cX11_change 64 = .ok (.getfield 109, 3) := by decide +kernel
theorem dX11_change_67 : decode cX11_change 67 = .ok (.iload 4, 2) := by decide +kernel
theorem dX11_change_69 : decode cX11_change 69 = .ok (.iaload, 1) := by decide +kernel
theorem dX11_change_70 : decode cX11_change 70 = .ok (.iadd, 1) := by decide +kernel
theorem dX11_change_71 : decode cX11_change 71 = .ok (.iastore, 1) := by decide +kernel
theorem dX11_change_72 : decode cX11_change 72 = .ok (.aload_n 0, 1) := by decide +kernel
theorem dX11_change_73 : decode cX11_change 73 = .ok (.getfield 81, 3) := by decide +kernel
theorem dX11_change_76 : decode cX11_change 76 = .ok (.iload 5, 2) := by decide +kernel
theorem dX11_change_78 : decode cX11_change 78 = .ok (.iaload, 1) := by decide +kernel
theorem dX11_change_79 : decode cX11_change 79 = .ok (.bipush 9, 2) := by decide +kernel
theorem dX11_change_81 : decode cX11_change 81 = .ok (.if_icmp .le 5, 3) := by decide +kernel
theorem dX11_change_84 : decode cX11_change 84 = .ok (.iconst 0, 1) := by decide +kernel
theorem dX11_change_85 : decode cX11_change 85 = .ok (.ireturn, 1) := by decide +kernel
theorem dX11_change_86 : decode cX11_change 86 = .ok (.iinc 4 1, 3) := by decide +kernel
theorem dX11_change_89 : decode cX11_change 89 = .ok (.goto (-56), 3) := by decide +kernel
theorem dX11_change_92 : decode cX11_change 92 = .ok (.aload_n 0, 1) := by decide +kernel
theorem dX11_change_93 : decode cX11_change 93 = .ok (.getfield 81, 3) := by decide +kernel
theorem dX11_change_96 : decode cX11_change 96 = .ok (.iconst 0, 1) := by decide +kernel
theorem dX11_change_97 : decode cX11_change 97 = .ok (.aload_n 3, 1) := by decide +kernel
theorem dX11_change_98 : decode cX11_change 98 = .ok (.getfield 109, 3) := by decide +kernel
theorem dX11_change_101 : decode cX11_change 101 = .ok (.iconst 0, 1) := by decide +kernel
theorem dX11_change_102 : decode cX11_change 102 = .ok (.bipush 30, 2) := by decide +kernel
theorem dX11_change_104 : decode cX11_change 104 = .ok (.invokestatic 320, 3) := by decide +kernel
theorem dX11_change_107 : decode cX11_change 107 = .ok (.iconst 1, 1) := by decide +kernel
theorem dX11_change_108 : decode cX11_change 108 = .ok (.ireturn, 1) := by decide +kernel
theorem dX11_squareDivides_0 : decode cX11_squareDivides 0 = .ok (.iload_n 0, 1) := by decide +kernel
theorem dX11_squareDivides_1 : decode cX11_squareDivides 1 = .ok (.iload_n 1, 1) := by decide +kernel
theorem dX11_squareDivides_2 : decode cX11_squareDivides 2 = .ok (.iload_n 1, 1) := by decide +kernel
theorem dX11_squareDivides_3 : decode cX11_squareDivides 3 = .ok (.imul, 1) := by decide +kernel
theorem dX11_squareDivides_4 : decode cX11_squareDivides 4 = .ok (.irem, 1) := by decide +kernel
theorem dX11_squareDivides_5 : decode cX11_squareDivides 5 = .ok (.ifCond .ne 7, 3) := by decide +kernel
theorem dX11_squareDivides_8 : decode cX11_squareDivides 8 = .ok (.iconst 1, 1) := by decide +kernel
theorem dX11_squareDivides_9 : decode cX11_squareDivides 9 = .ok (.goto 4, 3) := by decide +kernel
theorem dX11_squareDivides_12 : decode cX11_squareDivides 12 = .ok (.iconst 0, 1) := by decide +kernel
theorem dX11_squareDivides_13 : decode cX11_squareDivides 13 = .ok (.ireturn, 1) := by decide +kernel
theorem dX11_layerStep_0 : decode cX11_layerStep 0 = .ok (.iload_n 0, 1) := by decide +kernel
theorem dX11_layerStep_1 : decode cX11_layerStep 1 = .ok (.iload_n 1, 1) := by decide +kernel
theorem dX11_layerStep_2 : decode cX11_layerStep 2 = .ok (.invokestatic 326, 3) := by decide +kernel
theorem dX11_layerStep_5 : decode cX11_layerStep 5 = .ok (.ifCond .eq 5, 3) := by decide +kernel
theorem dX11_layerStep_8 : decode cX11_layerStep 8 = .ok (.iconst 1, 1) := by decide +kernel
theorem dX11_layerStep_9 : decode cX11_layerStep 9 = .ok (.ireturn, 1) := by decide +kernel
theorem dX11_layerStep_10 : decode cX11_layerStep 10 = .ok (.iload_n 0, 1) := by decide +kernel
theorem dX11_layerStep_11 : decode cX11_layerStep 11 = .ok (.iload_n 1, 1) := by decide +kernel
theorem dX11_layerStep_12 : decode cX11_layerStep 12 = .ok (.idiv, 1) := by decide +kernel
theorem dX11_layerStep_13 : decode cX11_layerStep 13 = .ok (.istore_n 2, 1) := by decide +kernel
theorem dX11_layerStep_14 : decode cX11_layerStep 14 = .ok (.iconst 1, 1) := by decide +kernel
theorem dX11_layerStep_15 : decode cX11_layerStep 15 = .ok (.istore_n 3, 1) := by decide +kernel
theorem dX11_layerStep_16 : decode cX11_layerStep 16 = .ok (.iload_n 3, 1) := by decide +kernel
theorem dX11_layerStep_17 : decode cX11_layerStep 17 = .ok (.iload_n 1, 1) := by decide +kernel
theorem dX11_layerStep_18 : decode cX11_layerStep 18 = .ok (.if_icmp .ge 22, 3) := by decide +kernel
theorem dX11_layerStep_21 : decode cX11_layerStep 21 = .ok (.iload_n 2, 1) := by decide +kernel
theorem dX11_layerStep_22 : decode cX11_layerStep 22 = .ok (.iload_n 1, 1) := by decide +kernel
theorem dX11_layerStep_23 : decode cX11_layerStep 23 = .ok (.irem, 1) := by decide +kernel
theorem dX11_layerStep_24 : decode cX11_layerStep 24 = .ok (.iconst 1, 1) := by decide +kernel
theorem dX11_layerStep_25 : decode cX11_layerStep 25 = .ok (.if_icmp .eq 15, 3) := by decide +kernel
theorem dX11_layerStep_28 : decode cX11_layerStep 28 = .ok (.iload_n 2, 1) := by decide +kernel
theorem dX11_layerStep_29 : decode cX11_layerStep 29 = .ok (.iload_n 0, 1) := by decide +kernel
theorem dX11_layerStep_30 : decode cX11_layerStep 30 = .ok (.iload_n 1, 1) := by decide +kernel
theorem dX11_layerStep_31 : decode cX11_layerStep 31 = .ok (.idiv, 1) := by decide +kernel
theorem dX11_layerStep_32 : decode cX11_layerStep 32 = .ok (.iadd, 1) := by decide +kernel
theorem dX11_layerStep_33 : decode cX11_layerStep 33 = .ok (.istore_n 2, 1) := by decide +kernel
theorem dX11_layerStep_34 : decode cX11_layerStep 34 = .ok (.iinc 3 1, 3) := by decide +kernel
theorem dX11_layerStep_37 : decode cX11_layerStep 37 = .ok (.goto (-21), 3) := by decide +kernel
theorem dX11_layerStep_40 : decode cX11_layerStep 40 = .ok (.iload_n 2, 1) := by decide +kernel
theorem dX11_layerStep_41 : decode cX11_layerStep 41 = .ok (.ireturn, 1) := by decide +kernel
theorem dX11_countInLayer_0 : decode cX11_countInLayer 0 = .ok (.iload_n 3, 1) := by decide +kernel
theorem dX11_countInLayer_1 : decode cX11_countInLayer 1 = .ok (.iload_n 1, 1) := by decide +kernel
theorem dX11_countInLayer_2 : decode cX11_countInLayer 2 = .ok (.irem, 1) := by decide +kernel
theorem dX11_countInLayer_3 : decode cX11_countInLayer 3 = .ok (.ifCond .ne 19, 3) := by decide +kernel
theorem dX11_countInLayer_6 : decode cX11_countInLayer 6 = .ok (.aload_n 0, 1) := by decide +kernel
theorem dX11_countInLayer_7 : decode cX11_countInLayer 7 = .ok (.getfield 109, 3) := by decide +kernel
theorem dX11_countInLayer_10 : decode cX11_countInLayer 10 = .ok (.iload_n 3, 1) := by decide +kernel
theorem dX11_countInLayer_11 : decode cX11_countInLayer 11 = .ok (.iload_n 2, 1) := by decide +kernel
theorem dX11_countInLayer_12 : decode cX11_countInLayer 12 = .ok (.iadd, 1) := by decide +kernel
theorem dX11_countInLayer_13 : decode cX11_countInLayer 13 = .ok (.aload_n 0, 1) := by decide +kernel
theorem dX11_countInLayer_14 : decode cX11_countInLayer 14 = .ok (.getfield 98, 3) := by decide +kernel
theorem dX11_countInLayer_17 : decode cX11_countInLayer 17 = .ok (.irem, 1) := by decide +kernel
theorem dX11_countInLayer_18 : decode cX11_countInLayer 18 = .ok (.iaload, 1) := by decide +kernel
theorem dX11_countInLayer_19 : decode cX11_countInLayer 19 = .ok (.goto 4, 3) := by decide +kernel
theorem dX11_countInLayer_22 : decode cX11_countInLayer 22 = .ok (.iconst 0, 1) := by decide +kernel
theorem dX11_countInLayer_23 : decode cX11_countInLayer 23 = .ok (.ireturn, 1) := by decide +kernel
theorem dX11_firstOddLayer_0 : decode cX11_firstOddLayer 0 = .ok (.aload_n 1, 1) := by decide +kernel
theorem dX11_firstOddLayer_1 : decode cX11_firstOddLayer 1 = .ok (.getfield 98, 3) := by decide +kernel
theorem dX11_firstOddLayer_4 : decode cX11_firstOddLayer 4 = .ok (.iload_n 2, 1) := by decide +kernel
theorem dX11_firstOddLayer_5 : decode cX11_firstOddLayer 5 = .ok (.invokestatic 326, 3) := by decide +kernel
theorem dX11_firstOddLayer_8 : decode cX11_firstOddLayer 8 = .ok (.istore_n 3, 1) := by decide +kernel
theorem dX11_firstOddLayer_9 : decode cX11_firstOddLayer 9 = .ok (.aload_n 1, 1) := by decide +kernel
theorem dX11_firstOddLayer_10 : decode cX11_firstOddLayer 10 = .ok (.getfield 98, 3) := by decide +kernel
theorem dX11_firstOddLayer_13 : decode cX11_firstOddLayer 13 = .ok (.iload_n 2, 1) := by decide +kernel
theorem dX11_firstOddLayer_14 : decode cX11_firstOddLayer 14 = .ok (.invokestatic 192, 3) := by decide +kernel
theorem dX11_firstOddLayer_17 : decode cX11_firstOddLayer 17 = .ok (.istore 4, 2) := by decide +kernel
theorem dX11_firstOddLayer_19 : decode cX11_firstOddLayer 19 = .ok (.aload_n 0, 1) := by decide +kernel
theorem dX11_firstOddLayer_20 : decode cX11_firstOddLayer 20 = .ok (.getfield 24, 3) := by decide +kernel
theorem dX11_firstOddLayer_23 : decode cX11_firstOddLayer 23 = .ok (.aload_n 1, 1) := by decide +kernel
theorem dX11_firstOddLayer_24 : decode cX11_firstOddLayer 24 = .ok (.getfield 98, 3) := by decide +kernel
theorem dX11_firstOddLayer_27 : decode cX11_firstOddLayer 27 = .ok (.invokevirtual 116, 3) := by decide +kernel
theorem dX11_firstOddLayer_30 : decode cX11_firstOddLayer 30 = .ok (.iconst 0, 1) := by decide +kernel
theorem dX11_firstOddLayer_31 : decode cX11_firstOddLayer 31 = .ok (.istore 5, 2) := by decide +kernel
theorem dX11_firstOddLayer_33 : decode cX11_firstOddLayer 33 = .ok (.iload 5, 2) := by decide +kernel
theorem dX11_firstOddLayer_35 : decode cX11_firstOddLayer 35 = .ok (.iload_n 2, 1) := by decide +kernel
theorem dX11_firstOddLayer_36 : decode cX11_firstOddLayer 36 = .ok (.if_icmp .ge 130, 3) := by decide +kernel
theorem dX11_firstOddLayer_39 : decode cX11_firstOddLayer 39 = .ok (.aload_n 0, 1) := by decide +kernel
theorem dX11_firstOddLayer_40 : decode cX11_firstOddLayer 40 = .ok (.getfield 81, 3) := by decide +kernel
theorem dX11_firstOddLayer_43 : decode cX11_firstOddLayer 43 = .ok (.iconst 0, 1) := by decide +kernel
theorem dX11_firstOddLayer_44 : decode cX11_firstOddLayer 44 = .ok (.invokestatic 314, 3) := by decide +kernel
theorem dX11_firstOddLayer_47 : decode cX11_firstOddLayer 47 = .ok (.iconst 0, 1) := by decide +kernel
theorem dX11_firstOddLayer_48 : decode cX11_firstOddLayer 48 = .ok (.istore 6, 2) := by decide +kernel
theorem dX11_firstOddLayer_50 : decode cX11_firstOddLayer 50 = .ok (.iload 6, 2) := by decide +kernel
theorem dX11_firstOddLayer_52 : decode cX11_firstOddLayer 52 = .ok (.aload_n 1, 1) := by decide +kernel
theorem dX11_firstOddLayer_53 : decode cX11_firstOddLayer 53 = .ok (.getfield 98, 3) := by decide +kernel
theorem dX11_firstOddLayer_56 : decode cX11_firstOddLayer 56 = .ok (.if_icmp .ge 31, 3) := by decide +kernel
theorem dX11_firstOddLayer_59 : decode cX11_firstOddLayer 59 = .ok (.aload_n 0, 1) := by decide +kernel
theorem dX11_firstOddLayer_60 : decode cX11_firstOddLayer 60 = .ok (.getfield 81, 3) := by decide +kernel
theorem dX11_firstOddLayer_63 : decode cX11_firstOddLayer 63 = .ok (.iload 6, 2) := by decide +kernel
theorem dX11_firstOddLayer_65 : decode cX11_firstOddLayer 65 = .ok (.aload_n 1, 1) := by decide +kernel
theorem dX11_firstOddLayer_66 : decode cX11_firstOddLayer 66 = .ok (.iload_n 2, 1) := by decide +kernel
theorem dX11_firstOddLayer_67 : decode cX11_firstOddLayer 67 = .ok (.iload 5, 2) := by decide +kernel
theorem dX11_firstOddLayer_69 : decode cX11_firstOddLayer 69 = .ok (.iload 4, 2) := by decide +kernel
theorem dX11_firstOddLayer_71 : decode cX11_firstOddLayer 71 = .ok (.imul, 1) := by decide +kernel
theorem dX11_firstOddLayer_72 : decode cX11_firstOddLayer 72 = .ok (.iload 6, 2) := by decide +kernel
theorem dX11_firstOddLayer_74 : decode cX11_firstOddLayer 74 = .ok (.invokestatic 195, 3) := by decide +kernel
theorem dX11_firstOddLayer_77 : decode cX11_firstOddLayer 77 = .ok (.iastore, 1) := by decide +kernel
theorem dX11_firstOddLayer_78 : decode cX11_firstOddLayer 78 = .ok (.iload 6, 2) := by decide +kernel
theorem dX11_firstOddLayer_80 : decode cX11_firstOddLayer 80 = .ok (.iload_n 2, 1) := by decide +kernel
theorem dX11_firstOddLayer_81 : decode cX11_firstOddLayer 81 = .ok (.iadd, 1) := by decide +kernel
theorem dX11_firstOddLayer_82 : decode cX11_firstOddLayer 82 = .ok (.istore 6, 2) := by decide +kernel
theorem dX11_firstOddLayer_84 : decode cX11_firstOddLayer 84 = .ok (.goto (-34), 3) := by decide +kernel
theorem dX11_firstOddLayer_87 : decode cX11_firstOddLayer 87 = .ok (.aload_n 0, 1) := by decide +kernel
theorem dX11_firstOddLayer_88 : decode cX11_firstOddLayer 88 = .ok (.getfield 24, 3) := by decide +kernel
theorem dX11_firstOddLayer_91 : decode cX11_firstOddLayer 91 = .ok (.aload_n 0, 1) := by decide +kernel
theorem dX11_firstOddLayer_92 : decode cX11_firstOddLayer 92 = .ok (.getfield 81, 3) := by decide +kernel
theorem dX11_firstOddLayer_95 : decode cX11_firstOddLayer 95 = .ok (.invokevirtual 127, 3) := by decide +kernel
theorem dX11_firstOddLayer_98 : decode cX11_firstOddLayer 98 = .ok (.iload_n 3, 1) := by decide +kernel
theorem dX11_firstOddLayer_99 : decode cX11_firstOddLayer 99 = .ok (.ifCond .ne 26, 3) := by decide +kernel
theorem dX11_firstOddLayer_102 : decode cX11_firstOddLayer 102 = .ok (.iload 5, 2) := by decide +kernel
theorem dX11_firstOddLayer_104 : decode cX11_firstOddLayer 104 = .ok (.ifCond .ne 21, 3) := by decide +kernel
theorem dX11_firstOddLayer_107 : decode cX11_firstOddLayer 107 = .ok (.aload_n 0, 1) := by decide +kernel
theorem dX11_firstOddLayer_108 : decode cX11_firstOddLayer 108 = .ok (.getfield 24, 3) := by decide +kernel
theorem dX11_firstOddLayer_111 : decode cX11_firstOddLayer 111 = .ok (.getfield 131, 3) := by decide +kernel
theorem dX11_firstOddLayer_114 : decode cX11_firstOddLayer 114 = .ok (.iconst 0, 1) := by decide +kernel
theorem dX11_firstOddLayer_115 : decode cX11_firstOddLayer 115 = .ok (.aload_n 0, 1) := by decide +kernel
theorem dX11_firstOddLayer_116 : decode cX11_firstOddLayer 116 = .ok (.getfield 85, 3) := by decide +kernel
theorem dX11_firstOddLayer_119 : decode cX11_firstOddLayer 119 = .ok (.iconst 0, 1) := by decide +kernel
theorem dX11_firstOddLayer_120 : decode cX11_firstOddLayer 120 = .ok (.bipush 30, 2) := by decide +kernel
theorem dX11_firstOddLayer_122 : decode cX11_firstOddLayer 122 = .ok (.invokestatic 320, 3) := by decide +kernel
theorem dX11_firstOddLayer_125 : decode cX11_firstOddLayer 125 = .ok (.iload_n 3, 1) := by decide +kernel
theorem dX11_firstOddLayer_126 : decode cX11_firstOddLayer 126 = .ok (.ifCond .eq 13, 3) := by decide +kernel
theorem dX11_firstOddLayer_129 : decode cX11_firstOddLayer 129 = .ok (.aload_n 0, 1) := by decide +kernel
theorem dX11_firstOddLayer_130 : decode cX11_firstOddLayer 130 = .ok (.getfield 24, 3) := by decide +kernel
theorem dX11_firstOddLayer_133 : decode cX11_firstOddLayer 133 = .ok (.invokevirtual 303, 3) := by decide +kernel
theorem dX11_firstOddLayer_136 : decode cX11_firstOddLayer 136 = .ok (.goto 14, 3) := by decide +kernel
theorem dX11_firstOddLayer_139 : decode cX11_firstOddLayer 139 = .ok (.aload_n 0, 1) := by decide +kernel
theorem dX11_firstOddLayer_140 : decode cX11_firstOddLayer 140 = .ok (.getfield 24, 3) := by decide +kernel
theorem dX11_firstOddLayer_143 : decode cX11_firstOddLayer 143 = .ok (.aload_n 0, 1) := by decide +kernel
theorem dX11_firstOddLayer_144 : decode cX11_firstOddLayer 144 = .ok (.getfield 85, 3) := by decide +kernel
theorem dX11_firstOddLayer_147 : decode cX11_firstOddLayer 147 = .ok (.invokevirtual 329, 3) := by decide +kernel
theorem dX11_firstOddLayer_150 : decode cX11_firstOddLayer 150 = .ok (.istore 6, 2) := by decide +kernel
theorem dX11_firstOddLayer_152 : decode cX11_firstOddLayer 152 = .ok (.iload 6, 2) := by decide +kernel
theorem dX11_firstOddLayer_154 : decode cX11_firstOddLayer 154 = .ok (.ifCond .ne 6, 3) := by decide +kernel
theorem dX11_firstOddLayer_157 : decode cX11_firstOddLayer 157 = .ok (.iload 5, 2) := by decide +kernel
theorem dX11_firstOddLayer_159 : decode cX11_firstOddLayer 159 = .ok (.ireturn, 1) := by decide +kernel
theorem dX11_firstOddLayer_160 : decode cX11_firstOddLayer 160 = .ok (.iinc 5 1, 3) := by decide +kernel
theorem dX11_firstOddLayer_163 : decode cX11_firstOddLayer 163 = .ok (.goto (-130), 3) := by decide +kernel
theorem dX11_firstOddLayer_166 : decode cX11_firstOddLayer 166 = .ok (.bipush (-5), 2) := by decide +kernel
theorem dX11_firstOddLayer_168 : decode cX11_firstOddLayer 168 = .ok (.ireturn, 1) := by decide +kernel
theorem dX11_countWays_0 : decode cX11_countWays 0 = .ok (.aload_n 0, 1) := by decide +kernel
theorem dX11_countWays_1 : decode cX11_countWays 1 = .ok (.getfield 12, 3) := by decide +kernel
theorem dX11_countWays_4 : decode cX11_countWays 4 = .ok (.getfield 95, 3) := by decide +kernel
theorem dX11_countWays_7 : decode cX11_countWays 7 = .ok (.getfield 98, 3) := by decide +kernel
theorem dX11_countWays_10 : decode cX11_countWays 10 = .ok (.istore_n 1, 1) := by decide +kernel
theorem dX11_countWays_11 : decode cX11_countWays 11 = .ok (.aload_n 0, 1) := by decide +kernel
theorem dX11_countWays_12 : decode cX11_countWays 12 = .ok (.getfield 88, 3) := by decide +kernel
theorem dX11_countWays_15 : decode cX11_countWays 15 = .ok (.iconst 0, 1) := by decide +kernel
theorem dX11_countWays_16 : decode cX11_countWays 16 = .ok (.invokestatic 314, 3) := by decide +kernel
theorem dX11_countWays_19 : decode cX11_countWays 19 = .ok (.aload_n 0, 1) := by decide +kernel
theorem dX11_countWays_20 : decode cX11_countWays 20 = .ok (.getfield 88, 3) := by decide +kernel
theorem dX11_countWays_23 : decode cX11_countWays 23 = .ok (.iconst 0, 1) := by decide +kernel
theorem dX11_countWays_24 : decode cX11_countWays 24 = .ok (.iconst 1, 1) := by decide +kernel
theorem dX11_countWays_25 : decode cX11_countWays 25 = .ok (.iastore, 1) := by decide +kernel
theorem dX11_countWays_26 : decode cX11_countWays 26 = .ok (.iconst 2, 1) := by decide +kernel
theorem dX11_countWays_27 : decode cX11_countWays 27 = .ok (.istore_n 2, 1) := by decide +kernel
theorem dX11_countWays_28 : decode cX11_countWays 28 = .ok (.iload_n 2, 1) := by decide +kernel
theorem dX11_countWays_29 : decode cX11_countWays 29 = .ok (.iload_n 1, 1) := by decide +kernel
theorem dX11_countWays_30 : decode cX11_countWays 30 = .ok (.if_icmp .gt 49, 3) := by decide +kernel
theorem dX11_countWays_33 : decode cX11_countWays 33 = .ok (.iload_n 2, 1) := by decide +kernel
theorem dX11_countWays_34 : decode cX11_countWays 34 = .ok (.iload_n 1, 1) := by decide +kernel
theorem dX11_countWays_35 : decode cX11_countWays 35 = .ok (.invokestatic 168, 3) := by decide +kernel
theorem dX11_countWays_38 : decode cX11_countWays 38 = .ok (.ifCond .eq 35, 3) := by decide +kernel
theorem dX11_countWays_41 : decode cX11_countWays 41 = .ok (.iload_n 2, 1) := by decide +kernel
theorem dX11_countWays_42 : decode cX11_countWays 42 = .ok (.istore_n 3, 1) := by decide +kernel
theorem dX11_countWays_43 : decode cX11_countWays 43 = .ok (.iload_n 3, 1) := by decide +kernel
theorem dX11_countWays_44 : decode cX11_countWays 44 = .ok (.sipush 200, 3) := by decide +kernel
theorem dX11_countWays_47 : decode cX11_countWays 47 = .ok (.if_icmp .gt 26, 3) := by decide +kernel
theorem dX11_countWays_50 : decode cX11_countWays 50 = .ok (.aload_n 0, 1) := by decide +kernel
theorem dX11_countWays_51 : decode cX11_countWays 51 = .ok (.getfield 88, 3) := by decide +kernel
theorem dX11_countWays_54 : decode cX11_countWays 54 = .ok (.iload_n 3, 1) := by decide +kernel
theorem dX11_countWays_55 : decode cX11_countWays 55 = .ok (.dup2, 1) := by decide +kernel
theorem dX11_countWays_56 : decode cX11_countWays 56 = .ok (.iaload, 1) := by decide +kernel
theorem dX11_countWays_57 : decode cX11_countWays 57 = .ok (.aload_n 0, 1) := by decide +kernel
theorem dX11_countWays_58 : decode cX11_countWays 58 = .ok (.getfield 88, 3) := by decide +kernel
theorem dX11_countWays_61 : decode cX11_countWays 61 = .ok (.iload_n 3, 1) := by decide +kernel
theorem dX11_countWays_62 : decode cX11_countWays 62 = .ok (.iload_n 2, 1) := by decide +kernel
theorem dX11_countWays_63 : decode cX11_countWays 63 = .ok (.isub, 1) := by decide +kernel
theorem dX11_countWays_64 : decode cX11_countWays 64 = .ok (.iaload, 1) := by decide +kernel
theorem dX11_countWays_65 : decode cX11_countWays 65 = .ok (.iadd, 1) := by decide +kernel
theorem dX11_countWays_66 : decode cX11_countWays 66 = .ok (.iastore, 1) := by decide +kernel
theorem dX11_countWays_67 : decode cX11_countWays 67 = .ok (.iinc 3 1, 3) := by decide +kernel
theorem dX11_countWays_70 : decode cX11_countWays 70 = .ok (.goto (-27), 3) := by decide +kernel
theorem dX11_countWays_73 : decode cX11_countWays 73 = .ok (.iinc 2 1, 3) := by decide +kernel
theorem dX11_countWays_76 : decode cX11_countWays 76 = .ok (.goto (-48), 3) := by decide +kernel
theorem dX11_countWays_79 : decode cX11_countWays 79 = .ok (.return_, 1) := by decide +kernel
theorem dX11_listsThere_0 : decode cX11_listsThere 0 = .ok (.iconst 0, 1) := by decide +kernel
theorem dX11_listsThere_1 : decode cX11_listsThere 1 = .ok (.istore_n 1, 1) := by decide +kernel
theorem dX11_listsThere_2 : decode cX11_listsThere 2 = .ok (.iconst 0, 1) := by decide +kernel
theorem dX11_listsThere_3 : decode cX11_listsThere 3 = .ok (.istore_n 2, 1) := by decide +kernel
theorem dX11_listsThere_4 : decode cX11_listsThere 4 = .ok (.iload_n 2, 1) := by decide +kernel
theorem dX11_listsThere_5 : decode cX11_listsThere 5 = .ok (.iconst 3, 1) := by decide +kernel
theorem dX11_listsThere_6 : decode cX11_listsThere 6 = .ok (.if_icmp .ge 24, 3) := by decide +kernel
theorem dX11_listsThere_9 : decode cX11_listsThere 9 = .ok (.aload_n 0, 1) := by decide +kernel
theorem dX11_listsThere_10 : decode cX11_listsThere 10 = .ok (.getfield 56, 3) := by decide +kernel
theorem dX11_listsThere_13 : decode cX11_listsThere 13 = .ok (.iload_n 2, 1) := by decide +kernel
theorem dX11_listsThere_14 : decode cX11_listsThere 14 = .ok (.aaload, 1) := by decide +kernel
theorem dX11_listsThere_15 : decode cX11_listsThere 15 = .ok (.invokevirtual 178, 3) := by decide +kernel
theorem dX11_listsThere_18 : decode cX11_listsThere 18 = .ok (.ifCond .ne 6, 3) := by decide +kernel
theorem dX11_listsThere_21 : decode cX11_listsThere 21 = .ok (.iinc 1 1, 3) := by decide +kernel
theorem dX11_listsThere_24 : decode cX11_listsThere 24 = .ok (.iinc 2 1, 3) := by decide +kernel
theorem dX11_listsThere_27 : decode cX11_listsThere 27 = .ok (.goto (-23), 3) := by decide +kernel
theorem dX11_listsThere_30 : decode cX11_listsThere 30 = .ok (.iload_n 1, 1) := by decide +kernel
theorem dX11_listsThere_31 : decode cX11_listsThere 31 = .ok (.ireturn, 1) := by decide +kernel
theorem dX12_init_0 : decode cX12_init 0 = .ok (.aload_n 0, 1) := by decide +kernel
theorem dX12_init_1 : decode cX12_init 1 = .ok (.invokespecial 3, 3) := by decide +kernel
theorem dX12_init_4 : decode cX12_init 4 = .ok (.aload_n 0, 1) := by decide +kernel
theorem dX12_init_5 : decode cX12_init 5 = .ok (.bipush 6, 2) := by decide +kernel
theorem dX12_init_7 : decode cX12_init 7 = .ok (.putfield 9, 3) := by decide +kernel
theorem dX12_init_10 : decode cX12_init 10 = .ok (.aload_n 0, 1) := by decide +kernel
theorem dX12_init_11 : decode cX12_init 11 = .ok (.bipush 30, 2) := by decide +kernel
theorem dX12_init_13 : decode cX12_init 13 = .ok (.newarray .int, 2) := by decide +kernel
theorem dX12_init_15 : decode cX12_init 15 = .ok (.putfield 15, 3) := by decide +kernel
theorem dX12_init_18 : decode cX12_init 18 = .ok (.aload_n 0, 1) := by decide +kernel
theorem dX12_init_19 : decode cX12_init 19 = .ok (.bipush 16, 2) := by decide +kernel
theorem dX12_init_21 : decode cX12_init 21 = .ok (.newarray .int, 2) := by decide +kernel
theorem dX12_init_23 : decode cX12_init 23 = .ok (.putfield 19, 3) := by decide +kernel
theorem dX12_init_26 : decode cX12_init 26 = .ok (.aload_n 0, 1) := by decide +kernel
theorem dX12_init_27 : decode cX12_init 27 = .ok (.iconst 2, 1) := by decide +kernel
theorem dX12_init_28 : decode cX12_init 28 = .ok (.newarray .int, 2) := by decide +kernel
theorem dX12_init_30 : decode cX12_init 30 = .ok (.putfield 22, 3) := by decide +kernel
theorem dX12_init_33 : decode cX12_init 33 = .ok (.aload_n 0, 1) := by decide +kernel
theorem dX12_init_34 : decode cX12_init 34 = .ok (.sipush 496, 3) := by decide +kernel
theorem dX12_init_37 : decode cX12_init 37 = .ok (.newarray .int, 2) := by decide +kernel
theorem dX12_init_39 : decode cX12_init 39 = .ok (.putfield 25, 3) := by decide +kernel
theorem dX12_init_42 : decode cX12_init 42 = .ok (.aload_n 0, 1) := by decide +kernel
theorem dX12_init_43 : decode cX12_init 43 = .ok (.sipush 961, 3) := by decide +kernel
theorem dX12_init_46 : decode cX12_init 46 = .ok (.newarray .int, 2) := by decide +kernel
theorem dX12_init_48 : decode cX12_init 48 = .ok (.putfield 28, 3) := by decide +kernel
theorem dX12_init_51 : decode cX12_init 51 = .ok (.aload_n 0, 1) := by decide +kernel
theorem dX12_init_52 : decode cX12_init 52 = .ok (.bipush 31, 2) := by decide +kernel
theorem dX12_init_54 : decode cX12_init 54 = .ok (.newarray .int, 2) := by decide +kernel
theorem dX12_init_56 : decode cX12_init 56 = .ok (.putfield 31, 3) := by decide +kernel
theorem dX12_init_59 : decode cX12_init 59 = .ok (.aload_n 0, 1) := by decide +kernel
theorem dX12_init_60 : decode cX12_init 60 = .ok (.bipush 62, 2) := by decide +kernel
theorem dX12_init_62 : decode cX12_init 62 = .ok (.newarray .int, 2) := by decide +kernel
theorem dX12_init_64 : decode cX12_init 64 = .ok (.putfield 34, 3) := by decide +kernel
theorem dX12_init_67 : decode cX12_init 67 = .ok (.aload_n 0, 1) := by decide +kernel
theorem dX12_init_68 : decode cX12_init 68 = .ok (.sipush 900, 3) := by decide +kernel
theorem dX12_init_71 : decode cX12_init 71 = .ok (.newarray .int, 2) := by decide +kernel
theorem dX12_init_73 : decode cX12_init 73 = .ok (.putfield 37, 3) := by decide +kernel
theorem dX12_init_76 : decode cX12_init 76 = .ok (.aload_n 0, 1) := by decide +kernel
theorem dX12_init_77 : decode cX12_init 77 = .ok (.bipush 30, 2) := by decide +kernel
theorem dX12_init_79 : decode cX12_init 79 = .ok (.newarray .int, 2) := by decide +kernel
theorem dX12_init_81 : decode cX12_init 81 = .ok (.putfield 40, 3) := by decide +kernel
theorem dX12_init_84 : decode cX12_init 84 = .ok (.aload_n 0, 1) := by decide +kernel
theorem dX12_init_85 : decode cX12_init 85 = .ok (.bipush 30, 2) := by decide +kernel
theorem dX12_init_87 : decode cX12_init 87 = .ok (.newarray .int, 2) := by decide +kernel
theorem dX12_init_89 : decode cX12_init 89 = .ok (.putfield 43, 3) := by decide +kernel
theorem dX12_init_92 : decode cX12_init 92 = .ok (.aload_n 0, 1) := by decide +kernel
theorem dX12_init_93 : decode cX12_init 93 = .ok (.bipush 30, 2) := by decide +kernel
theorem dX12_init_95 : decode cX12_init 95 = .ok (.newarray .int, 2) := by decide +kernel
theorem dX12_init_97 : decode cX12_init 97 = .ok (.putfield 46, 3) := by decide +kernel
theorem dX12_init_100 : decode cX12_init 100 = .ok (.aload_n 0, 1) := by decide +kernel
theorem dX12_init_101 : decode cX12_init 101 = .ok (.bipush 30, 2) := by decide +kernel
theorem dX12_init_103 : decode cX12_init 103 = .ok (.newarray .int, 2) := by decide +kernel
theorem dX12_init_105 : decode cX12_init 105 = .ok (.putfield 49, 3) := by decide +kernel
theorem dX12_init_108 : decode cX12_init 108 = .ok (.aload_n 0, 1) := by decide +kernel
theorem dX12_init_109 : decode cX12_init 109 = .ok (.bipush 30, 2) := by decide +kernel
theorem dX12_init_111 : decode cX12_init 111 = .ok (.newarray .int, 2) := by decide +kernel
theorem dX12_init_113 : decode cX12_init 113 = .ok (.putfield 52, 3) := by decide +kernel
theorem dX12_init_116 : decode cX12_init 116 = .ok (.aload_n 0, 1) := by decide +kernel
theorem dX12_init_117 : decode cX12_init 117 = .ok (.bipush 30, 2) := by decide +kernel
theorem dX12_init_119 : decode cX12_init 119 = .ok (.newarray .int, 2) := by decide +kernel
theorem dX12_init_121 : decode cX12_init 121 = .ok (.putfield 55, 3) := by decide +kernel
theorem dX12_init_124 : decode cX12_init 124 = .ok (.aload_n 0, 1) := by decide +kernel
theorem dX12_init_125 : decode cX12_init 125 = .ok (.iconst 3, 1) := by decide +kernel
theorem dX12_init_126 : decode cX12_init 126 = .ok (.newarray .int, 2) := by decide +kernel
theorem dX12_init_128 : decode cX12_init 128 = .ok (.dup, 1) := by decide +kernel
theorem dX12_init_129 : decode cX12_init 129 = .ok (.iconst 0, 1) := by decide +kernel
theorem dX12_init_130 : decode cX12_init 130 = .ok (.iconst (-1), 1) := by decide +kernel
theorem dX12_init_131 : decode cX12_init 131 = .ok (.iastore, 1) := by decide +kernel
theorem dX12_init_132 : decode cX12_init 132 = .ok (.dup, 1) := by decide +kernel
theorem dX12_init_133 : decode cX12_init 133 = .ok (.iconst 1, 1) := by decide +kernel
theorem dX12_init_134 : decode cX12_init 134 = .ok (.iconst (-1), 1) := by decide +kernel
theorem dX12_init_135 : decode cX12_init 135 = .ok (.iastore, 1) := by decide +kernel
theorem dX12_init_136 : decode cX12_init 136 = .ok (.dup, 1) := by decide +kernel
theorem dX12_init_137 : decode cX12_init 137 = .ok (.iconst 2, 1) := by decide +kernel
theorem dX12_init_138 : decode cX12_init 138 = .ok (.iconst (-1), 1) := by decide +kernel
theorem dX12_init_139 : decode cX12_init 139 = .ok (.iastore, 1) := by decide +kernel
theorem dX12_init_140 : decode cX12_init 140 = .ok (.putfield 58, 3) := by decide +kernel
theorem dX12_init_143 : decode cX12_init 143 = .ok (.aload_n 0, 1) := by decide +kernel
theorem dX12_init_144 : decode cX12_init 144 = .ok (.bipush 90, 2) := by decide +kernel
theorem dX12_init_146 : decode cX12_init 146 = .ok (.newarray .long, 2) := by decide +kernel
theorem dX12_init_148 : decode cX12_init 148 = .ok (.putfield 61, 3) := by decide +kernel
theorem dX12_init_151 : decode cX12_init 151 = .ok (.aload_n 0, 1) := by decide +kernel
theorem dX12_init_152 : decode cX12_init 152 = .ok (.bipush 30, 2) := by decide +kernel
theorem dX12_init_154 : decode cX12_init 154 = .ok (.newarray .int, 2) := by decide +kernel
theorem dX12_init_156 : decode cX12_init 156 = .ok (.putfield 65, 3) := by decide +kernel
theorem dX12_init_159 : decode cX12_init 159 = .ok (.aload_n 0, 1) := by decide +kernel
theorem dX12_init_160 : decode cX12_init 160 = .ok (.sipush 201, 3) := by decide +kernel
theorem dX12_init_163 : decode cX12_init 163 = .ok (.newarray .int, 2) := by decide +kernel
theorem dX12_init_165 : decode cX12_init 165 = .ok (.putfield 68, 3) := by decide +kernel
theorem dX12_init_168 : decode cX12_init 168 = .ok (.aload_n 0, 1) := by decide +kernel
theorem dX12_init_169 : decode cX12_init 169 = .ok (.sipush 4096, 3) := by decide +kernel
theorem dX12_init_172 : decode cX12_init 172 = .ok (.newarray .boolean, 2) := by decide +kernel
theorem dX12_init_174 : decode cX12_init 174 = .ok (.putfield 71, 3) := by decide +kernel
theorem dX12_init_177 : decode cX12_init 177 = .ok (.aload_n 0, 1) := by decide +kernel
theorem dX12_init_178 : decode cX12_init 178 = .ok (.bipush 100, 2) := by decide +kernel
theorem dX12_init_180 : decode cX12_init 180 = .ok (.newarray .int, 2) := by decide +kernel
theorem dX12_init_182 : decode cX12_init 182 = .ok (.putfield 75, 3) := by decide +kernel
theorem dX12_init_185 : decode cX12_init 185 = .ok (.aload_n 0, 1) := by decide +kernel
theorem dX12_init_186 : decode cX12_init 186 = .ok (.sipush 300, 3) := by decide +kernel
theorem dX12_init_189 : decode cX12_init 189 = .ok (.newarray .int, 2) := by decide +kernel
theorem dX12_init_191 : decode cX12_init 191 = .ok (.putfield 78, 3) := by decide +kernel
theorem dX12_init_194 : decode cX12_init 194 = .ok (.aload_n 0, 1) := by decide +kernel
theorem dX12_init_195 : decode cX12_init 195 = .ok (.bipush 30, 2) := by decide +kernel
theorem dX12_init_197 : decode cX12_init 197 = .ok (.newarray .int, 2) := by decide +kernel
theorem dX12_init_199 : decode cX12_init 199 = .ok (.putfield 81, 3) := by decide +kernel
theorem dX12_init_202 : decode cX12_init 202 = .ok (.aload_n 0, 1) := by decide +kernel
theorem dX12_init_203 : decode cX12_init 203 = .ok (.bipush 16, 2) := by decide +kernel
theorem dX12_init_205 : decode cX12_init 205 = .ok (.newarray .int, 2) := by decide +kernel
theorem dX12_init_207 : decode cX12_init 207 = .ok (.putfield 84, 3) := by decide +kernel
theorem dX12_init_210 : decode cX12_init 210 = .ok (.aload_n 0, 1) := by decide +kernel
theorem dX12_init_211 : decode cX12_init 211 = .ok (.iconst 2, 1) := by decide +kernel
theorem dX12_init_212 : decode cX12_init 212 = .ok (.newarray .int, 2) := by decide +kernel
theorem dX12_init_214 : decode cX12_init 214 = .ok (.putfield 87, 3) := by decide +kernel
theorem dX12_init_217 : decode cX12_init 217 = .ok (.aload_n 0, 1) := by decide +kernel
theorem dX12_init_218 : decode cX12_init 218 = .ok (.sipush 496, 3) := by decide +kernel
theorem dX12_init_221 : decode cX12_init 221 = .ok (.newarray .int, 2) := by decide +kernel
theorem dX12_init_223 : decode cX12_init 223 = .ok (.putfield 90, 3) := by decide +kernel
theorem dX12_init_226 : decode cX12_init 226 = .ok (.iconst 1, 1) := by decide +kernel
theorem dX12_init_227 : decode cX12_init 227 = .ok (.istore_n 1, 1) := by decide +kernel
theorem dX12_init_228 : decode cX12_init 228 = .ok (.iload_n 1, 1) := by decide +kernel
theorem dX12_init_229 : decode cX12_init 229 = .ok (.bipush 30, 2) := by decide +kernel
theorem dX12_init_231 : decode cX12_init 231 = .ok (.if_icmp .gt 120, 3) := by decide +kernel
theorem dX12_init_234 : decode cX12_init 234 = .ok (.iconst 0, 1) := by decide +kernel
theorem dX12_init_235 : decode cX12_init 235 = .ok (.istore_n 2, 1) := by decide +kernel
theorem dX12_init_236 : decode cX12_init 236 = .ok (.iload_n 2, 1) := by decide +kernel
theorem dX12_init_237 : decode cX12_init 237 = .ok (.bipush 62, 2) := by decide +kernel
theorem dX12_init_239 : decode cX12_init 239 = .ok (.if_icmp .ge 33, 3) := by decide +kernel
theorem dX12_init_242 : decode cX12_init 242 = .ok (.aload_n 0, 1) := by decide +kernel
theorem dX12_init_243 : decode cX12_init 243 = .ok (.getfield 34, 3) := by decide +kernel
theorem dX12_init_246 : decode cX12_init 246 = .ok (.iload_n 2, 1) := by decide +kernel
theorem dX12_init_247 : decode cX12_init 247 = .ok (.iload_n 2, 1) := by decide +kernel
theorem dX12_init_248 : decode cX12_init 248 = .ok (.iload_n 1, 1) := by decide +kernel
theorem dX12_init_249 : decode cX12_init 249 = .ok (.if_icmp .ne 7, 3) := by decide +kernel
theorem dX12_init_252 : decode cX12_init 252 = .ok (.iconst 1, 1) := by decide +kernel
theorem dX12_init_253 : decode cX12_init 253 = .ok (.goto 12, 3) := by decide +kernel
theorem dX12_init_256 : decode cX12_init 256 = .ok (.iload_n 2, 1) := by decide +kernel
theorem dX12_init_257 : decode cX12_init 257 = .ok (.ifCond .ne 7, 3) := by decide +kernel
theorem dX12_init_260 : decode cX12_init 260 = .ok (.iconst (-1), 1) := by decide +kernel
theorem dX12_init_261 : decode cX12_init 261 = .ok (.goto 4, 3) := by decide +kernel
theorem dX12_init_264 : decode cX12_init 264 = .ok (.iconst 0, 1) := by decide +kernel
theorem dX12_init_265 : decode cX12_init 265 = .ok (.iastore, 1) := by decide +kernel
theorem dX12_init_266 : decode cX12_init 266 = .ok (.iinc 2 1, 3) := by decide +kernel
theorem dX12_init_269 : decode cX12_init 269 = .ok (.goto (-33), 3) := by decide +kernel
theorem dX12_init_272 : decode cX12_init 272 = .ok (.iload_n 1, 1) := by decide +kernel
theorem dX12_init_273 : decode cX12_init 273 = .ok (.istore_n 2, 1) := by decide +kernel
theorem dX12_init_274 : decode cX12_init 274 = .ok (.iconst 1, 1) := by decide +kernel
theorem dX12_init_275 : decode cX12_init 275 = .ok (.istore_n 3, 1) := by decide +kernel
theorem dX12_init_276 : decode cX12_init 276 = .ok (.iload_n 3, 1) := by decide +kernel
theorem dX12_init_277 : decode cX12_init 277 = .ok (.iload_n 1, 1) := by decide +kernel
theorem dX12_init_278 : decode cX12_init 278 = .ok (.if_icmp .ge 30, 3) := by decide +kernel
theorem dX12_init_281 : decode cX12_init 281 = .ok (.iload_n 1, 1) := by decide +kernel
theorem dX12_init_282 : decode cX12_init 282 = .ok (.iload_n 3, 1) := by decide +kernel
theorem dX12_init_283 : decode cX12_init 283 = .ok (.irem, 1) := by decide +kernel
theorem dX12_init_284 : decode cX12_init 284 = .ok (.ifCond .ne 18, 3) := by decide +kernel
theorem dX12_init_287 : decode cX12_init 287 = .ok (.aload_n 0, 1) := by decide +kernel
theorem dX12_init_288 : decode cX12_init 288 = .ok (.iload_n 2, 1) := by decide +kernel
theorem dX12_init_289 : decode cX12_init 289 = .ok (.iload_n 3, 1) := by decide +kernel
theorem dX12_init_290 : decode cX12_init 290 = .ok (.invokevirtual 93, 3) := by decide +kernel
theorem dX12_init_293 : decode cX12_init 293 = .ok (.iload_n 2, 1) := by decide +kernel
theorem dX12_init_294 : decode cX12_init 294 = .ok (.aload_n 0, 1) := by decide +kernel
theorem dX12_init_295 : decode cX12_init 295 = .ok (.getfield 31, 3) := by decide +kernel
theorem dX12_init_298 : decode cX12_init 298 = .ok (.iload_n 3, 1) := by decide +kernel
theorem dX12_init_299 : decode cX12_init 299 = .ok (.iaload, 1) := by decide +kernel
theorem dX12_init_300 : decode cX12_init 300 = .ok (.isub, 1) := by decide +kernel
theorem dX12_init_301 : decode cX12_init 301 = .ok (.istore_n 2, 1) := by decide +kernel
theorem dX12_init_302 : decode cX12_init 302 = .ok (.iinc 3 1, 3) := by decide +kernel
theorem dX12_init_305 : decode cX12_init 305 = .ok (.goto (-29), 3) := by decide +kernel
theorem dX12_init_308 : decode cX12_init 308 = .ok (.aload_n 0, 1) := by decide +kernel
theorem dX12_init_309 : decode cX12_init 309 = .ok (.getfield 31, 3) := by decide +kernel
theorem dX12_init_312 : decode cX12_init 312 = .ok (.iload_n 1, 1) := by decide +kernel
theorem dX12_init_313 : decode cX12_init 313 = .ok (.iload_n 2, 1) := by decide +kernel
theorem dX12_init_314 : decode cX12_init 314 = .ok (.iastore, 1) := by decide +kernel
theorem dX12_init_315 : decode cX12_init 315 = .ok (.iconst 0, 1) := by decide +kernel
theorem dX12_init_316 : decode cX12_init 316 = .ok (.istore_n 3, 1) := by decide +kernel
theorem dX12_init_317 : decode cX12_init 317 = .ok (.iload_n 3, 1) := by decide +kernel
theorem dX12_init_318 : decode cX12_init 318 = .ok (.iload_n 2, 1) := by decide +kernel
theorem dX12_init_319 : decode cX12_init 319 = .ok (.if_icmp .gt 26, 3) := by decide +kernel
theorem dX12_init_322 : decode cX12_init 322 = .ok (.aload_n 0, 1) := by decide +kernel
theorem dX12_init_323 : decode cX12_init 323 = .ok (.getfield 28, 3) := by decide +kernel
theorem dX12_init_326 : decode cX12_init 326 = .ok (.bipush 31, 2) := by decide +kernel
theorem dX12_init_328 : decode cX12_init 328 = .ok (.iload_n 1, 1) := by decide +kernel
theorem dX12_init_329 : decode cX12_init 329 = .ok (.imul, 1) := by decide +kernel
theorem dX12_init_330 : decode cX12_init 330 = .ok (.iload_n 3, 1) := by decide +kernel
theorem dX12_init_331 : decode cX12_init 331 = .ok (.iadd, 1) := by decide +kernel
theorem dX12_init_332 : decode cX12_init 332 = .ok (.aload_n 0, 1) := by decide +kernel
theorem dX12_init_333 : decode cX12_init 333 = .ok (.getfield 34, 3) := by decide +kernel
theorem dX12_init_336 : decode cX12_init 336 = .ok (.iload_n 3, 1) := by decide +kernel
theorem dX12_init_337 : decode cX12_init 337 = .ok (.iaload, 1) := by decide +kernel
theorem dX12_init_338 : decode cX12_init 338 = .ok (.iastore, 1) := by decide +kernel
theorem dX12_init_339 : decode cX12_init 339 = .ok (.iinc 3 1, 3) := by decide +kernel
theorem dX12_init_342 : decode cX12_init 342 = .ok (.goto (-25), 3) := by decide +kernel
theorem dX12_init_345 : decode cX12_init 345 = .ok (.iinc 1 1, 3) := by decide +kernel
theorem dX12_init_348 : decode cX12_init 348 = .ok (.goto (-120), 3) := by decide +kernel
theorem dX12_init_351 : decode cX12_init 351 = .ok (.return_, 1) := by decide +kernel
theorem dX12_divides_0 : decode cX12_divides 0 = .ok (.aload_n 0, 1) := by decide +kernel
theorem dX12_divides_1 : decode cX12_divides 1 = .ok (.getfield 31, 3) := by decide +kernel
theorem dX12_divides_4 : decode cX12_divides 4 = .ok (.iload_n 2, 1) := by decide +kernel
theorem dX12_divides_5 : decode cX12_divides 5 = .ok (.iaload, 1) := by decide +kernel
theorem dX12_divides_6 : decode cX12_divides 6 = .ok (.istore_n 3, 1) := by decide +kernel
theorem dX12_divides_7 : decode cX12_divides 7 = .ok (.iload_n 1, 1) := by decide +kernel
theorem dX12_divides_8 : decode cX12_divides 8 = .ok (.istore 4, 2) := by decide +kernel
theorem dX12_divides_10 : decode cX12_divides 10 = .ok (.iload 4, 2) := by decide +kernel
theorem dX12_divides_12 : decode cX12_divides 12 = .ok (.iload_n 3, 1) := by decide +kernel
theorem dX12_divides_13 : decode cX12_divides 13 = .ok (.if_icmp .lt 59, 3) := by decide +kernel
theorem dX12_divides_16 : decode cX12_divides 16 = .ok (.iconst 0, 1) := by decide +kernel
theorem dX12_divides_17 : decode cX12_divides 17 = .ok (.istore 5, 2) := by decide +kernel
theorem dX12_divides_19 : decode cX12_divides 19 = .ok (.iload 5, 2) := by decide +kernel
theorem dX12_divides_21 : decode cX12_divides 21 = .ok (.iload_n 3, 1) := by decide +kernel
theorem dX12_divides_22 : decode cX12_divides 22 = .ok (.if_icmp .ge 44, 3) := by decide +kernel
theorem dX12_divides_25 : decode cX12_divides 25 = .ok (.aload_n 0, 1) := by decide +kernel
theorem dX12_divides_26 : decode cX12_divides 26 = .ok (.getfield 34, 3) := by decide +kernel
theorem dX12_divides_29 : decode cX12_divides 29 = .ok (.iload 4, 2) := by decide +kernel
theorem dX12_divides_31 : decode cX12_divides 31 = .ok (.iload_n 3, 1) := by decide +kernel
theorem dX12_divides_32 : decode cX12_divides 32 = .ok (.isub, 1) := by decide +kernel
theorem dX12_divides_33 : decode cX12_divides 33 = .ok (.iload 5, 2) := by decide +kernel
theorem dX12_divides_35 : decode cX12_divides 35 = .ok (.iadd, 1) := by decide +kernel
theorem dX12_divides_36 : decode cX12_divides 36 = .ok (.dup2, 1) := by decide +kernel
theorem dX12_divides_37 : decode cX12_divides 37 = .ok (.iaload, 1) := by decide +kernel
theorem dX12_divides_38 : decode cX12_divides 38 = .ok (.aload_n 0, 1) := by decide +kernel
theorem dX12_divides_39 : decode cX12_divides 39 = .ok (.getfield 34, 3) := by decide +kernel
theorem dX12_divides_42 : decode cX12_divides 42 = .ok (.iload 4, 2) := by decide +kernel
theorem dX12_divides_44 : decode cX12_divides 44 = .ok (.iaload, 1) := by decide +kernel
theorem dX12_divides_45 : decode cX12_divides 45 = .ok (.aload_n 0, 1) := by decide +kernel
theorem dX12_divides_46 : decode cX12_divides 46 = .ok (.getfield 28, 3) := by decide +kernel
theorem dX12_divides_49 : decode cX12_divides 49 = .ok (.bipush 31, 2) := by decide +kernel
theorem dX12_divides_51 : decode cX12_divides 51 = .ok (.iload_n 2, 1) := by decide +kernel
theorem dX12_divides_52 : decode cX12_divides 52 = .ok (.imul, 1) := by decide +kernel
theorem dX12_divides_53 : decode cX12_divides 53 = .ok (.iload 5, 2) := by decide +kernel
theorem dX12_divides_55 : decode cX12_divides 55 = .ok (.iadd, 1) := by decide +kernel
theorem dX12_divides_56 : decode cX12_divides 56 = .ok (.iaload, 1) := by decide +kernel
theorem dX12_divides_57 : decode cX12_divides 57 = .ok (.imul, 1) := by decide +kernel
theorem dX12_divides_58 : decode cX12_divides 58 = .ok (.isub, 1) := by decide +kernel
theorem dX12_divides_59 : decode cX12_divides 59 = .ok (.iastore, 1) := by decide +kernel
theorem dX12_divides_60 : decode cX12_divides 60 = .ok (.iinc 5 1, 3) := by decide +kernel
theorem dX12_divides_63 : decode cX12_divides 63 = .ok (.goto (-44), 3) := by decide +kernel
theorem dX12_divides_66 : decode cX12_divides 66 = .ok (.iinc 4 (-1), 3) := by decide +kernel
theorem dX12_divides_69 : decode cX12_divides 69 = .ok (.goto (-59), 3) := by decide +kernel
theorem dX12_divides_72 : decode cX12_divides 72 = .ok (.iconst 0, 1) := by decide +kernel
theorem dX12_divides_73 : decode cX12_divides 73 = .ok (.istore 4, 2) := by decide +kernel
theorem dX12_divides_75 : decode cX12_divides 75 = .ok (.iload 4, 2) := by decide +kernel
theorem dX12_divides_77 : decode cX12_divides 77 = .ok (.bipush 62, 2) := by decide +kernel
theorem dX12_divides_79 : decode cX12_divides 79 = .ok (.if_icmp .ge 37, 3) := by decide +kernel
theorem dX12_divides_82 : decode cX12_divides 82 = .ok (.aload_n 0, 1) := by decide +kernel
theorem dX12_divides_83 : decode cX12_divides 83 = .ok (.getfield 34, 3) := by decide +kernel
theorem dX12_divides_86 : decode cX12_divides 86 = .ok (.iload 4, 2) := by decide +kernel
theorem dX12_divides_88 : decode cX12_divides 88 = .ok (.iload 4, 2) := by decide +kernel
theorem dX12_divides_90 : decode cX12_divides 90 = .ok (.iload_n 1, 1) := by decide +kernel
theorem dX12_divides_91 : decode cX12_divides 91 = .ok (.iload_n 3, 1) := by decide +kernel
theorem dX12_divides_92 : decode cX12_divides 92 = .ok (.isub, 1) := by decide +kernel
theorem dX12_divides_93 : decode cX12_divides 93 = .ok (.if_icmp .gt 15, 3) := by decide +kernel
theorem dX12_divides_96 : decode cX12_divides 96 = .ok (.aload_n 0, 1) := by decide +kernel
theorem dX12_divides_97 : decode cX12_divides 97 = .ok (.getfield 34, 3) := by decide +kernel
theorem dX12_divides_100 : decode cX12_divides 100 = .ok (.iload 4, 2) := by decide +kernel
theorem dX12_divides_102 : decode cX12_divides 102 = .ok (.iload_n 3, 1) := by decide +kernel
theorem dX12_divides_103 : decode cX12_divides 103 = .ok (.iadd, 1) := by decide +kernel
theorem dX12_divides_104 : decode cX12_divides 104 = .ok (.iaload, 1) := by decide +kernel
theorem dX12_divides_105 : decode cX12_divides 105 = .ok (.goto 4, 3) := by decide +kernel
theorem dX12_divides_108 : decode cX12_divides 108 = .ok (.iconst 0, 1) := by decide +kernel
theorem dX12_divides_109 : decode cX12_divides 109 = .ok (.iastore, 1) := by decide +kernel
theorem dX12_divides_110 : decode cX12_divides 110 = .ok (.iinc 4 1, 3) := by decide +kernel
theorem dX12_divides_113 : decode cX12_divides 113 = .ok (.goto (-38), 3) := by decide +kernel
theorem dX12_divides_116 : decode cX12_divides 116 = .ok (.return_, 1) := by decide +kernel
theorem dX12_in_0 : decode cX12_in 0 = .ok (.lload_n 0, 1) := by decide +kernel
theorem dX12_in_1 : decode cX12_in 1 = .ok (.lload_n 2, 1) := by decide +kernel
theorem dX12_in_2 : decode cX12_in 2 = .ok (.lcmp, 1) := by decide +kernel
theorem dX12_in_3 : decode cX12_in 3 = .ok (.ifCond .lt 14, 3) := by decide +kernel
theorem dX12_in_6 : decode cX12_in 6 = .ok (.lload_n 0, 1) := by decide +kernel
theorem dX12_in_7 : decode cX12_in 7 = .ok (.lload 4, 2) := by decide +kernel
theorem dX12_in_9 : decode cX12_in 9 = .ok (.lcmp, 1) := by decide +kernel
theorem dX12_in_10 : decode cX12_in 10 = .ok (.ifCond .gt 7, 3) := by decide +kernel
theorem dX12_in_13 : decode cX12_in 13 = .ok (.iconst 1, 1) := by decide +kernel
theorem dX12_in_14 : decode cX12_in 14 = .ok (.goto 4, 3) := by decide +kernel
theorem dX12_in_17 : decode cX12_in 17 = .ok (.iconst 0, 1) := by decide +kernel
theorem dX12_in_18 : decode cX12_in 18 = .ok (.ireturn, 1) := by decide +kernel
theorem dX12_isRoot_0 : decode cX12_isRoot 0 = .ok (.iload_n 1, 1) := by decide +kernel
theorem dX12_isRoot_1 : decode cX12_isRoot 1 = .ok (.i2l, 1) := by decide +kernel
theorem dX12_isRoot_2 : decode cX12_isRoot 2 = .ok (.lconst 0, 1) := by decide +kernel
theorem dX12_isRoot_3 : decode cX12_isRoot 3 = .ok (.aload_n 0, 1) := by decide +kernel
theorem dX12_isRoot_4 : decode cX12_isRoot 4 = .ok (.getfield 9, 3) := by decide +kernel
theorem dX12_isRoot_7 : decode cX12_isRoot 7 = .ok (.iconst 1, 1) := by decide +kernel
theorem dX12_isRoot_8 : decode cX12_isRoot 8 = .ok (.isub, 1) := by decide +kernel
theorem dX12_isRoot_9 : decode cX12_isRoot 9 = .ok (.i2l, 1) := by decide +kernel
theorem dX12_isRoot_10 : decode cX12_isRoot 10 = .ok (.invokestatic 97, 3) := by decide +kernel
theorem dX12_isRoot_13 : decode cX12_isRoot 13 = .ok (.ireturn, 1) := by decide +kernel
theorem dX12_weightOf_0 : decode cX12_weightOf 0 = .ok (.iconst 0, 1) := by decide +kernel
theorem dX12_weightOf_1 : decode cX12_weightOf 1 = .ok (.istore_n 3, 1) := by decide +kernel
theorem dX12_weightOf_2 : decode cX12_weightOf 2 = .ok (.iconst 0, 1) := by decide +kernel
theorem dX12_weightOf_3 : decode cX12_weightOf 3 = .ok (.istore 4, 2) := by decide +kernel
theorem dX12_weightOf_5 : decode cX12_weightOf 5 = .ok (.iload 4, 2) := by decide +kernel
theorem dX12_weightOf_7 : decode cX12_weightOf 7 = .ok (.iload_n 2, 1) := by decide +kernel
theorem dX12_weightOf_8 : decode cX12_weightOf 8 = .ok (.if_icmp .ge 18, 3) := by decide +kernel
theorem dX12_weightOf_11 : decode cX12_weightOf 11 = .ok (.iload_n 3, 1) := by decide +kernel
theorem dX12_weightOf_12 : decode cX12_weightOf 12 = .ok (.aload_n 0, 1) := by decide +kernel
theorem dX12_weightOf_13 : decode cX12_weightOf 13 = .ok (.iload_n 1, 1) := by decide +kernel
theorem dX12_weightOf_14 : decode cX12_weightOf 14 = .ok (.iload 4, 2) := by decide +kernel
theorem dX12_weightOf_16 : decode cX12_weightOf 16 = .ok (.iadd, 1) := by decide +kernel
theorem dX12_weightOf_17 : decode cX12_weightOf 17 = .ok (.iaload, 1) := by decide +kernel
theorem dX12_weightOf_18 : decode cX12_weightOf 18 = .ok (.iadd, 1) := by decide +kernel
theorem dX12_weightOf_19 : decode cX12_weightOf 19 = .ok (.istore_n 3, 1) := by decide +kernel
theorem dX12_weightOf_20 : decode cX12_weightOf 20 = .ok (.iinc 4 1, 3) := by decide +kernel
theorem dX12_weightOf_23 : decode cX12_weightOf 23 = .ok (.goto (-18), 3) := by decide +kernel
theorem dX12_weightOf_26 : decode cX12_weightOf 26 = .ok (.iload_n 3, 1) := by decide +kernel
theorem dX12_weightOf_27 : decode cX12_weightOf 27 = .ok (.ireturn, 1) := by decide +kernel
theorem dX12_base_0 : decode cX12_base 0 = .ok (.iload_n 1, 1) := by decide +kernel
theorem dX12_base_1 : decode cX12_base 1 = .ok (.i2l, 1) := by decide +kernel
theorem dX12_base_2 : decode cX12_base 2 = .ok (.ldc2_w 101, 3) := by decide +kernel
theorem dX12_base_5 : decode cX12_base 5 = .ok (.ldc2_w 103, 3) := by decide +kernel
theorem dX12_base_8 : decode cX12_base 8 = .ok (.invokestatic 97, 3) := by decide +kernel
theorem dX12_base_11 : decode cX12_base 11 = .ok (.ifCond .ne 6, 3) := by decide +kernel
theorem dX12_base_14 : decode cX12_base 14 = .ok (.bipush (-2), 2) := by decide +kernel
theorem dX12_base_16 : decode cX12_base 16 = .ok (.ireturn, 1) := by decide +kernel
theorem dX12_base_17 : decode cX12_base 17 = .ok (.aload_n 0, 1) := by decide +kernel
theorem dX12_base_18 : decode cX12_base 18 = .ok (.getfield 9, 3) := by decide +kernel
theorem dX12_base_21 : decode cX12_base 21 = .ok (.istore_n 2, 1) := by decide +kernel
theorem dX12_base_22 : decode cX12_base 22 = .ok (.aload_n 0, 1) := by decide +kernel
theorem dX12_base_23 : decode cX12_base 23 = .ok (.iload_n 1, 1) := by decide +kernel
theorem dX12_base_24 : decode cX12_base 24 = .ok (.putfield 9, 3) := by decide +kernel
theorem dX12_base_27 : decode cX12_base 27 = .ok (.iconst 0, 1) := by decide +kernel
theorem dX12_base_28 : decode cX12_base 28 = .ok (.istore_n 3, 1) := by decide +kernel
theorem dX12_base_29 : decode cX12_base 29 = .ok (.iload_n 3, 1) := by decide +kernel
theorem dX12_base_30 : decode cX12_base 30 = .ok (.bipush 30, 2) := by decide +kernel
theorem dX12_base_32 : decode cX12_base 32 = .ok (.if_icmp .ge 16, 3) := by decide +kernel
theorem dX12_base_35 : decode cX12_base 35 = .ok (.aload_n 0, 1) := by decide +kernel
theorem dX12_base_36 : decode cX12_base 36 = .ok (.getfield 15, 3) := by decide +kernel
theorem dX12_base_39 : decode cX12_base 39 = .ok (.iload_n 3, 1) := by decide +kernel
theorem dX12_base_40 : decode cX12_base 40 = .ok (.iconst 0, 1) := by decide +kernel
theorem dX12_base_41 : decode cX12_base 41 = .ok (.iastore, 1) := by decide +kernel
theorem dX12_base_42 : decode cX12_base 42 = .ok (.iinc 3 1, 3) := by decide +kernel
theorem dX12_base_45 : decode cX12_base 45 = .ok (.goto (-16), 3) := by decide +kernel
theorem dX12_base_48 : decode cX12_base 48 = .ok (.iload_n 2, 1) := by decide +kernel
theorem dX12_base_49 : decode cX12_base 49 = .ok (.ireturn, 1) := by decide +kernel
theorem dX12_set_0 : decode cX12_set 0 = .ok (.aload_n 0, 1) := by decide +kernel
theorem dX12_set_1 : decode cX12_set 1 = .ok (.iload_n 1, 1) := by decide +kernel
theorem dX12_set_2 : decode cX12_set 2 = .ok (.invokevirtual 105, 3) := by decide +kernel
theorem dX12_set_5 : decode cX12_set 5 = .ok (.ifCond .ne 5, 3) := by decide +kernel
theorem dX12_set_8 : decode cX12_set 8 = .ok (.iconst (-1), 1) := by decide +kernel
theorem dX12_set_9 : decode cX12_set 9 = .ok (.ireturn, 1) := by decide +kernel
theorem dX12_set_10 : decode cX12_set 10 = .ok (.iload_n 2, 1) := by decide +kernel
theorem dX12_set_11 : decode cX12_set 11 = .ok (.i2l, 1) := by decide +kernel
theorem dX12_set_12 : decode cX12_set 12 = .ok (.lconst 0, 1) := by decide +kernel
theorem dX12_set_13 : decode cX12_set 13 = .ok (.ldc2_w 109, 3) := by decide +kernel
theorem dX12_set_16 : decode cX12_set 16 = .ok (.invokestatic 97, 3) := by decide +kernel
theorem dX12_set_19 : decode cX12_set 19 = .ok (.ifCond .ne 6, 3) := by decide +kernel
theorem dX12_set_22 : decode cX12_set 22 = .ok (.bipush (-2), 2) := by decide +kernel
theorem dX12_set_24 : decode cX12_set 24 = .ok (.ireturn, 1) := by decide +kernel
theorem dX12_set_25 : decode cX12_set 25 = .ok (.aload_n 0, 1) := by decide +kernel
theorem dX12_set_26 : decode cX12_set 26 = .ok (.getfield 15, 3) := by decide +kernel
theorem dX12_set_29 : decode cX12_set 29 = .ok (.iload_n 1, 1) := by decide +kernel
theorem dX12_set_30 : decode cX12_set 30 = .ok (.iaload, 1) := by decide +kernel
theorem dX12_set_31 : decode cX12_set 31 = .ok (.istore_n 3, 1) := by decide +kernel
theorem dX12_set_32 : decode cX12_set 32 = .ok (.aload_n 0, 1) := by decide +kernel
theorem dX12_set_33 : decode cX12_set 33 = .ok (.getfield 15, 3) := by decide +kernel
theorem dX12_set_36 : decode cX12_set 36 = .ok (.iload_n 1, 1) := by decide +kernel
theorem dX12_set_37 : decode cX12_set 37 = .ok (.iload_n 2, 1) := by decide +kernel
theorem dX12_set_38 : decode cX12_set 38 = .ok (.iastore, 1) := by decide +kernel
theorem dX12_set_39 : decode cX12_set 39 = .ok (.iload_n 3, 1) := by decide +kernel
theorem dX12_set_40 : decode cX12_set 40 = .ok (.ireturn, 1) := by decide +kernel
theorem dX12_add_0 : decode cX12_add 0 = .ok (.aload_n 0, 1) := by decide +kernel
theorem dX12_add_1 : decode cX12_add 1 = .ok (.iload_n 1, 1) := by decide +kernel
theorem dX12_add_2 : decode cX12_add 2 = .ok (.invokevirtual 105, 3) := by decide +kernel
theorem dX12_add_5 : decode cX12_add 5 = .ok (.ifCond .ne 5, 3) := by decide +kernel
theorem dX12_add_8 : decode cX12_add 8 = .ok (.iconst (-1), 1) := by decide +kernel
theorem dX12_add_9 : decode cX12_add 9 = .ok (.ireturn, 1) := by decide +kernel
theorem dX12_add_10 : decode cX12_add 10 = .ok (.aload_n 0, 1) := by decide +kernel
theorem dX12_add_11 : decode cX12_add 11 = .ok (.getfield 15, 3) := by decide +kernel
theorem dX12_add_14 : decode cX12_add 14 = .ok (.iload_n 1, 1) := by decide +kernel
theorem dX12_add_15 : decode cX12_add 15 = .ok (.iaload, 1) := by decide +kernel
theorem dX12_add_16 : decode cX12_add 16 = .ok (.bipush 9, 2) := by decide +kernel
theorem dX12_add_18 : decode cX12_add 18 = .ok (.if_icmp .ne 6, 3) := by decide +kernel
theorem dX12_add_21 : decode cX12_add 21 = .ok (.bipush (-4), 2) := by decide +kernel
theorem dX12_add_23 : decode cX12_add 23 = .ok (.ireturn, 1) := by decide +kernel
theorem dX12_add_24 : decode cX12_add 24 = .ok (.aload_n 0, 1) := by decide +kernel
theorem dX12_add_25 : decode cX12_add 25 = .ok (.getfield 15, 3) := by decide +kernel
theorem dX12_add_28 : decode cX12_add 28 = .ok (.iload_n 1, 1) := by decide +kernel
theorem dX12_add_29 : decode cX12_add 29 = .ok (.dup2, 1) := by decide +kernel
theorem dX12_add_30 : decode cX12_add 30 = .ok (.iaload, 1) := by decide +kernel
theorem dX12_add_31 : decode cX12_add 31 = .ok (.iconst 1, 1) := by decide +kernel
theorem dX12_add_32 : decode cX12_add 32 = .ok (.iadd, 1) := by decide +kernel
theorem dX12_add_33 : decode cX12_add 33 = .ok (.iastore, 1) := by decide +kernel
theorem dX12_add_34 : decode cX12_add 34 = .ok (.aload_n 0, 1) := by decide +kernel
theorem dX12_add_35 : decode cX12_add 35 = .ok (.getfield 15, 3) := by decide +kernel
theorem dX12_add_38 : decode cX12_add 38 = .ok (.iload_n 1, 1) := by decide +kernel
theorem dX12_add_39 : decode cX12_add 39 = .ok (.iaload, 1) := by decide +kernel
theorem dX12_add_40 : decode cX12_add 40 = .ok (.ireturn, 1) := by decide +kernel
theorem dX12_of_0 : decode cX12_of 0 = .ok (.aload_n 0, 1) := by decide +kernel
theorem dX12_of_1 : decode cX12_of 1 = .ok (.iload_n 1, 1) := by decide +kernel
theorem dX12_of_2 : decode cX12_of 2 = .ok (.invokevirtual 105, 3) := by decide +kernel
theorem dX12_of_5 : decode cX12_of 5 = .ok (.ifCond .eq 12, 3) := by decide +kernel
theorem dX12_of_8 : decode cX12_of 8 = .ok (.aload_n 0, 1) := by decide +kernel
theorem dX12_of_9 : decode cX12_of 9 = .ok (.getfield 15, 3) := by decide +kernel
theorem dX12_of_12 : decode cX12_of 12 = .ok (.iload_n 1, 1) := by decide +kernel
theorem dX12_of_13 : decode cX12_of 13 = .ok (.iaload, 1) := by decide +kernel
theorem dX12_of_14 : decode cX12_of 14 = .ok (.goto 4, 3) := by decide +kernel
theorem dX12_of_17 : decode cX12_of 17 = .ok (.iconst (-1), 1) := by decide +kernel
theorem dX12_of_18 : decode cX12_of 18 = .ok (.ireturn, 1) := by decide +kernel
theorem dX12_weight_0 : decode cX12_weight 0 = .ok (.aload_n 0, 1) := by decide +kernel
theorem dX12_weight_1 : decode cX12_weight 1 = .ok (.getfield 15, 3) := by decide +kernel
theorem dX12_weight_4 : decode cX12_weight 4 = .ok (.iconst 0, 1) := by decide +kernel
theorem dX12_weight_5 : decode cX12_weight 5 = .ok (.aload_n 0, 1) := by decide +kernel
theorem dX12_weight_6 : decode cX12_weight 6 = .ok (.getfield 9, 3) := by decide +kernel
theorem dX12_weight_9 : decode cX12_weight 9 = .ok (.invokestatic 111, 3) := by decide +kernel
theorem dX12_weight_12 : decode cX12_weight 12 = .ok (.ireturn, 1) := by decide +kernel
theorem dX12_clear_0 : decode cX12_clear 0 = .ok (.aload_n 0, 1) := by decide +kernel
theorem dX12_clear_1 : decode cX12_clear 1 = .ok (.invokevirtual 115, 3) := by decide +kernel
theorem dX12_clear_4 : decode cX12_clear 4 = .ok (.istore_n 1, 1) := by decide +kernel
theorem dX12_clear_5 : decode cX12_clear 5 = .ok (.iconst 0, 1) := by decide +kernel
theorem dX12_clear_6 : decode cX12_clear 6 = .ok (.istore_n 2, 1) := by decide +kernel
theorem dX12_clear_7 : decode cX12_clear 7 = .ok (.iload_n 2, 1) := by decide +kernel
theorem dX12_clear_8 : decode cX12_clear 8 = .ok (.aload_n 0, 1) := by decide +kernel
theorem dX12_clear_9 : decode cX12_clear 9 = .ok (.getfield 9, 3) := by decide +kernel
theorem dX12_clear_12 : decode cX12_clear 12 = .ok (.if_icmp .ge 16, 3) := by decide +kernel
theorem dX12_clear_15 : decode cX12_clear 15 = .ok (.aload_n 0, 1) := by decide +kernel
theorem dX12_clear_16 : decode cX12_clear 16 = .ok (.getfield 15, 3) := by decide +kernel
theorem dX12_clear_19 : decode cX12_clear 19 = .ok (.iload_n 2, 1) := by decide +kernel
theorem dX12_clear_20 : decode cX12_clear 20 = .ok (.iconst 0, 1) := by decide +kernel
theorem dX12_clear_21 : decode cX12_clear 21 = .ok (.iastore, 1) := by decide +kernel
theorem dX12_clear_22 : decode cX12_clear 22 = .ok (.iinc 2 1, 3) := by decide +kernel
theorem dX12_clear_25 : decode cX12_clear 25 = .ok (.goto (-18), 3) := by decide +kernel
theorem dX12_clear_28 : decode cX12_clear 28 = .ok (.iload_n 1, 1) := by decide +kernel
theorem dX12_clear_29 : decode cX12_clear 29 = .ok (.ireturn, 1) := by decide +kernel
theorem dX12_phi_0 : decode cX12_phi 0 = .ok (.iload_n 1, 1) := by decide +kernel
theorem dX12_phi_1 : decode cX12_phi 1 = .ok (.iconst (-1), 1) := by decide +kernel
theorem dX12_phi_2 : decode cX12_phi 2 = .ok (.if_icmp .ne 16, 3) := by decide +kernel
theorem dX12_phi_5 : decode cX12_phi 5 = .ok (.aload_n 0, 1) := by decide +kernel
theorem dX12_phi_6 : decode cX12_phi 6 = .ok (.getfield 31, 3) := by decide +kernel
theorem dX12_phi_9 : decode cX12_phi 9 = .ok (.aload_n 0, 1) := by decide +kernel
theorem dX12_phi_10 : decode cX12_phi 10 = .ok (.getfield 9, 3) := by decide +kernel
theorem dX12_phi_13 : decode cX12_phi 13 = .ok (.iaload, 1) := by decide +kernel
theorem dX12_phi_14 : decode cX12_phi 14 = .ok (.i2l, 1) := by decide +kernel
theorem dX12_phi_15 : decode cX12_phi 15 = .ok (.goto 43, 3) := by decide +kernel
theorem dX12_phi_18 : decode cX12_phi 18 = .ok (.iload_n 1, 1) := by decide +kernel
theorem dX12_phi_19 : decode cX12_phi 19 = .ok (.i2l, 1) := by decide +kernel
theorem dX12_phi_20 : decode cX12_phi 20 = .ok (.lconst 0, 1) := by decide +kernel
theorem dX12_phi_21 : decode cX12_phi 21 = .ok (.aload_n 0, 1) := by decide +kernel
theorem dX12_phi_22 : decode cX12_phi 22 = .ok (.getfield 31, 3) := by decide +kernel
theorem dX12_phi_25 : decode cX12_phi 25 = .ok (.aload_n 0, 1) := by decide +kernel
theorem dX12_phi_26 : decode cX12_phi 26 = .ok (.getfield 9, 3) := by decide +kernel
theorem dX12_phi_29 : decode cX12_phi 29 = .ok (.iaload, 1) := by decide +kernel
theorem dX12_phi_30 : decode cX12_phi 30 = .ok (.i2l, 1) := by decide +kernel
theorem dX12_phi_31 : decode cX12_phi 31 = .ok (.invokestatic 97, 3) := by decide +kernel
theorem dX12_phi_34 : decode cX12_phi 34 = .ok (.ifCond .eq 21, 3) := by decide +kernel
theorem dX12_phi_37 : decode cX12_phi 37 = .ok (.aload_n 0, 1) := by decide +kernel
theorem dX12_phi_38 : decode cX12_phi 38 = .ok (.getfield 28, 3) := by decide +kernel
theorem dX12_phi_41 : decode cX12_phi 41 = .ok (.bipush 31, 2) := by decide +kernel
theorem dX12_phi_43 : decode cX12_phi 43 = .ok (.aload_n 0, 1) := by decide +kernel
theorem dX12_phi_44 : decode cX12_phi 44 = .ok (.getfield 9, 3) := by decide +kernel
theorem dX12_phi_47 : decode cX12_phi 47 = .ok (.imul, 1) := by decide +kernel
theorem dX12_phi_48 : decode cX12_phi 48 = .ok (.iload_n 1, 1) := by decide +kernel
theorem dX12_phi_49 : decode cX12_phi 49 = .ok (.iadd, 1) := by decide +kernel
theorem dX12_phi_50 : decode cX12_phi 50 = .ok (.iaload, 1) := by decide +kernel
theorem dX12_phi_51 : decode cX12_phi 51 = .ok (.i2l, 1) := by decide +kernel
theorem dX12_phi_52 : decode cX12_phi 52 = .ok (.goto 6, 3) := by decide +kernel
theorem dX12_phi_55 : decode cX12_phi 55 = .ok (.ldc2_w 119, 3) := by decide +kernel
theorem dX12_phi_58 : decode cX12_phi 58 = .ok (.lreturn, 1) := by decide +kernel
theorem dX12_divided_0 : decode cX12_divided 0 = .ok (.aload_n 0, 1) := by decide +kernel
theorem dX12_divided_1 : decode cX12_divided 1 = .ok (.getfield 31, 3) := by decide +kernel
theorem dX12_divided_4 : decode cX12_divided 4 = .ok (.aload_n 0, 1) := by decide +kernel
theorem dX12_divided_5 : decode cX12_divided 5 = .ok (.getfield 9, 3) := by decide +kernel
theorem dX12_divided_8 : decode cX12_divided 8 = .ok (.iaload, 1) := by decide +kernel
theorem dX12_divided_9 : decode cX12_divided 9 = .ok (.istore_n 2, 1) := by decide +kernel
theorem dX12_divided_10 : decode cX12_divided 10 = .ok (.iconst 0, 1) := by decide +kernel
theorem dX12_divided_11 : decode cX12_divided 11 = .ok (.istore_n 3, 1) := by decide +kernel
theorem dX12_divided_12 : decode cX12_divided 12 = .ok (.iload_n 3, 1) := by decide +kernel
theorem dX12_divided_13 : decode cX12_divided 13 = .ok (.bipush 62, 2) := by decide +kernel
theorem dX12_divided_15 : decode cX12_divided 15 = .ok (.if_icmp .ge 30, 3) := by decide +kernel
theorem dX12_divided_18 : decode cX12_divided 18 = .ok (.aload_n 0, 1) := by decide +kernel
theorem dX12_divided_19 : decode cX12_divided 19 = .ok (.getfield 34, 3) := by decide +kernel
theorem dX12_divided_22 : decode cX12_divided 22 = .ok (.iload_n 3, 1) := by decide +kernel
theorem dX12_divided_23 : decode cX12_divided 23 = .ok (.iload_n 3, 1) := by decide +kernel
theorem dX12_divided_24 : decode cX12_divided 24 = .ok (.aload_n 0, 1) := by decide +kernel
theorem dX12_divided_25 : decode cX12_divided 25 = .ok (.getfield 9, 3) := by decide +kernel
theorem dX12_divided_28 : decode cX12_divided 28 = .ok (.if_icmp .ge 9, 3) := by decide +kernel
theorem dX12_divided_31 : decode cX12_divided 31 = .ok (.aload_n 1, 1) := by decide +kernel
theorem dX12_divided_32 : decode cX12_divided 32 = .ok (.iload_n 3, 1) := by decide +kernel
theorem dX12_divided_33 : decode cX12_divided 33 = .ok (.iaload, 1) := by decide +kernel
theorem dX12_divided_34 : decode cX12_divided 34 = .ok (.goto 4, 3) := by decide +kernel
theorem dX12_divided_37 : decode cX12_divided 37 = .ok (.iconst 0, 1) := by decide +kernel
theorem dX12_divided_38 : decode cX12_divided 38 = .ok (.iastore, 1) := by decide +kernel
theorem dX12_divided_39 : decode cX12_divided 39 = .ok (.iinc 3 1, 3) := by decide +kernel
theorem dX12_divided_42 : decode cX12_divided 42 = .ok (.goto (-30), 3) := by decide +kernel
theorem dX12_divided_45 : decode cX12_divided 45 = .ok (.aload_n 0, 1) := by decide +kernel
theorem dX12_divided_46 : decode cX12_divided 46 = .ok (.getfield 9, 3) := by decide +kernel
theorem dX12_divided_49 : decode cX12_divided 49 = .ok (.iconst 1, 1) := by decide +kernel
theorem dX12_divided_50 : decode cX12_divided 50 = .ok (.isub, 1) := by decide +kernel
theorem dX12_divided_51 : decode cX12_divided 51 = .ok (.istore_n 3, 1) := by decide +kernel
theorem dX12_divided_52 : decode cX12_divided 52 = .ok (.iload_n 3, 1) := by decide +kernel
theorem dX12_divided_53 : decode cX12_divided 53 = .ok (.iload_n 2, 1) := by decide +kernel
theorem dX12_divided_54 : decode cX12_divided 54 = .ok (.if_icmp .lt 67, 3) := by decide +kernel
theorem dX12_divided_57 : decode cX12_divided 57 = .ok (.iconst 0, 1) := by decide +kernel
theorem dX12_divided_58 : decode cX12_divided 58 = .ok (.istore 4, 2) := by decide +kernel
theorem dX12_divided_60 : decode cX12_divided 60 = .ok (.iload 4, 2) := by decide +kernel
theorem dX12_divided_62 : decode cX12_divided 62 = .ok (.iload_n 2, 1) := by decide +kernel
theorem dX12_divided_63 : decode cX12_divided 63 = .ok (.if_icmp .ge 45, 3) := by decide +kernel
theorem dX12_divided_66 : decode cX12_divided 66 = .ok (.aload_n 0, 1) := by decide +kernel
theorem dX12_divided_67 : decode cX12_divided 67 = .ok (.getfield 34, 3) := by decide +kernel
theorem dX12_divided_70 : decode cX12_divided 70 = .ok (.iload_n 3, 1) := by decide +kernel
theorem dX12_divided_71 : decode cX12_divided 71 = .ok (.iload_n 2, 1) := by decide +kernel
theorem dX12_divided_72 : decode cX12_divided 72 = .ok (.isub, 1) := by decide +kernel
theorem dX12_divided_73 : decode cX12_divided 73 = .ok (.iload 4, 2) := by decide +kernel
theorem dX12_divided_75 : decode cX12_divided 75 = .ok (.iadd, 1) := by decide +kernel
theorem dX12_divided_76 : decode cX12_divided 76 = .ok (.dup2, 1) := by decide +kernel
theorem dX12_divided_77 : decode cX12_divided 77 = .ok (.iaload, 1) := by decide +kernel
theorem dX12_divided_78 : decode cX12_divided 78 = .ok (.aload_n 0, 1) := by decide +kernel
theorem dX12_divided_79 : decode cX12_divided 79 = .ok (.getfield 34, 3) := by decide +kernel
theorem dX12_divided_82 : decode cX12_divided 82 = .ok (.iload_n 3, 1) := by decide +kernel
theorem dX12_divided_83 : decode cX12_divided 83 = .ok (.iaload, 1) := by decide +kernel
theorem dX12_divided_84 : decode cX12_divided 84 = .ok (.aload_n 0, 1) := by decide +kernel
theorem dX12_divided_85 : decode cX12_divided 85 = .ok (.getfield 28, 3) := by decide +kernel
theorem dX12_divided_88 : decode cX12_divided 88 = .ok (.bipush 31, 2) := by decide +kernel
theorem dX12_divided_90 : decode cX12_divided 90 = .ok (.aload_n 0, 1) := by decide +kernel
theorem dX12_divided_91 : decode cX12_divided 91 = .ok (.getfield 9, 3) := by decide +kernel
theorem dX12_divided_94 : decode cX12_divided 94 = .ok (.imul, 1) := by decide +kernel
theorem dX12_divided_95 : decode cX12_divided 95 = .ok (.iload 4, 2) := by decide +kernel
theorem dX12_divided_97 : decode cX12_divided 97 = .ok (.iadd, 1) := by decide +kernel
theorem dX12_divided_98 : decode cX12_divided 98 = .ok (.iaload, 1) := by decide +kernel
theorem dX12_divided_99 : decode cX12_divided 99 = .ok (.imul, 1) := by decide +kernel
theorem dX12_divided_100 : decode cX12_divided 100 = .ok (.isub, 1) := by decide +kernel
theorem dX12_divided_101 : decode cX12_divided 101 = .ok (.iastore, 1) := by decide +kernel
theorem dX12_divided_102 : decode cX12_divided 102 = .ok (.iinc 4 1, 3) := by decide +kernel
theorem dX12_divided_105 : decode cX12_divided 105 = .ok (.goto (-45), 3) := by decide +kernel
theorem dX12_divided_108 : decode cX12_divided 108 = .ok (.aload_n 0, 1) := by decide +kernel
theorem dX12_divided_109 : decode cX12_divided 109 = .ok (.getfield 34, 3) := by decide +kernel
theorem dX12_divided_112 : decode cX12_divided 112 = .ok (.iload_n 3, 1) := by decide +kernel
theorem dX12_divided_113 : decode cX12_divided 113 = .ok (.iconst 0, 1) := by decide +kernel
theorem dX12_divided_114 : decode cX12_divided 114 = .ok (.iastore, 1) := by decide +kernel
theorem dX12_divided_115 : decode cX12_divided 115 = .ok (.iinc 3 (-1), 3) := by decide +kernel
theorem dX12_divided_118 : decode cX12_divided 118 = .ok (.goto (-66), 3) := by decide +kernel
theorem dX12_divided_121 : decode cX12_divided 121 = .ok (.return_, 1) := by decide +kernel
theorem dX12_rest_0 : decode cX12_rest 0 = .ok (.iload_n 1, 1) := by decide +kernel
theorem dX12_rest_1 : decode cX12_rest 1 = .ok (.i2l, 1) := by decide +kernel
theorem dX12_rest_2 : decode cX12_rest 2 = .ok (.lconst 0, 1) := by decide +kernel
theorem dX12_rest_3 : decode cX12_rest 3 = .ok (.aload_n 0, 1) := by decide +kernel
theorem dX12_rest_4 : decode cX12_rest 4 = .ok (.getfield 31, 3) := by decide +kernel
theorem dX12_rest_7 : decode cX12_rest 7 = .ok (.aload_n 0, 1) := by decide +kernel
theorem dX12_rest_8 : decode cX12_rest 8 = .ok (.getfield 9, 3) := by decide +kernel
theorem dX12_rest_11 : decode cX12_rest 11 = .ok (.iaload, 1) := by decide +kernel
theorem dX12_rest_12 : decode cX12_rest 12 = .ok (.iconst 1, 1) := by decide +kernel
theorem dX12_rest_13 : decode cX12_rest 13 = .ok (.isub, 1) := by decide +kernel
theorem dX12_rest_14 : decode cX12_rest 14 = .ok (.i2l, 1) := by decide +kernel
theorem dX12_rest_15 : decode cX12_rest 15 = .ok (.invokestatic 97, 3) := by decide +kernel
theorem dX12_rest_18 : decode cX12_rest 18 = .ok (.ifCond .ne 7, 3) := by decide +kernel
theorem dX12_rest_21 : decode cX12_rest 21 = .ok (.ldc2_w 119, 3) := by decide +kernel
theorem dX12_rest_24 : decode cX12_rest 24 = .ok (.lreturn, 1) := by decide +kernel
theorem dX12_rest_25 : decode cX12_rest 25 = .ok (.aload_n 0, 1) := by decide +kernel
theorem dX12_rest_26 : decode cX12_rest 26 = .ok (.aload_n 0, 1) := by decide +kernel
theorem dX12_rest_27 : decode cX12_rest 27 = .ok (.getfield 15, 3) := by decide +kernel
theorem dX12_rest_30 : decode cX12_rest 30 = .ok (.invokevirtual 121, 3) := by decide +kernel
theorem dX12_rest_33 : decode cX12_rest 33 = .ok (.aload_n 0, 1) := by decide +kernel
theorem dX12_rest_34 : decode cX12_rest 34 = .ok (.getfield 34, 3) := by decide +kernel
theorem dX12_rest_37 : decode cX12_rest 37 = .ok (.iload_n 1, 1) := by decide +kernel
theorem dX12_rest_38 : decode cX12_rest 38 = .ok (.iaload, 1) := by decide +kernel
theorem dX12_rest_39 : decode cX12_rest 39 = .ok (.i2l, 1) := by decide +kernel
theorem dX12_rest_40 : decode cX12_rest 40 = .ok (.lreturn, 1) := by decide +kernel
theorem dX12_isNothing_0 : decode cX12_isNothing 0 = .ok (.iconst 1, 1) := by decide +kernel
theorem dX12_isNothing_1 : decode cX12_isNothing 1 = .ok (.istore_n 1, 1) := by decide +kernel
theorem dX12_isNothing_2 : decode cX12_isNothing 2 = .ok (.iconst 0, 1) := by decide +kernel
theorem dX12_isNothing_3 : decode cX12_isNothing 3 = .ok (.istore_n 2, 1) := by decide +kernel
theorem dX12_isNothing_4 : decode cX12_isNothing 4 = .ok (.iload_n 2, 1) := by decide +kernel
theorem dX12_isNothing_5 : decode cX12_isNothing 5 = .ok (.aload_n 0, 1) := by decide +kernel
theorem dX12_isNothing_6 : decode cX12_isNothing 6 = .ok (.getfield 31, 3) := by decide +kernel
theorem dX12_isNothing_9 : decode cX12_isNothing 9 = .ok (.aload_n 0, 1) := by decide +kernel
theorem dX12_isNothing_10 : decode cX12_isNothing 10 = .ok (.getfield 9, 3) := by decide +kernel
theorem dX12_isNothing_13 : decode cX12_isNothing 13 = .ok (.iaload, 1) := by decide +kernel
theorem dX12_isNothing_14 : decode cX12_isNothing 14 = .ok (.if_icmp .ge 26, 3) := by decide +kernel
theorem dX12_isNothing_17 : decode cX12_isNothing 17 = .ok (.iload_n 1, 1) := by decide +kernel
theorem dX12_isNothing_18 : decode cX12_isNothing 18 = .ok (.aload_n 0, 1) := by decide +kernel
theorem dX12_isNothing_19 : decode cX12_isNothing 19 = .ok (.getfield 34, 3) := by decide +kernel
theorem dX12_isNothing_22 : decode cX12_isNothing 22 = .ok (.iload_n 2, 1) := by decide +kernel
theorem dX12_isNothing_23 : decode cX12_isNothing 23 = .ok (.iaload, 1) := by decide +kernel
theorem dX12_isNothing_24 : decode cX12_isNothing 24 = .ok (.ifCond .ne 7, 3) := by decide +kernel
theorem dX12_isNothing_27 : decode cX12_isNothing 27 = .ok (.iconst 1, 1) := by decide +kernel
theorem dX12_isNothing_28 : decode cX12_isNothing 28 = .ok (.goto 4, 3) := by decide +kernel
theorem dX12_isNothing_31 : decode cX12_isNothing 31 = .ok (.iconst 0, 1) := by decide +kernel
theorem dX12_isNothing_32 : decode cX12_isNothing 32 = .ok (.iand, 1) := by decide +kernel
theorem dX12_isNothing_33 : decode cX12_isNothing 33 = .ok (.istore_n 1, 1) := by decide +kernel
theorem dX12_isNothing_34 : decode cX12_isNothing 34 = .ok (.iinc 2 1, 3) := by decide +kernel
theorem dX12_isNothing_37 : decode cX12_isNothing 37 = .ok (.goto (-33), 3) := by decide +kernel
theorem dX12_isNothing_40 : decode cX12_isNothing 40 = .ok (.iload_n 1, 1) := by decide +kernel
theorem dX12_isNothing_41 : decode cX12_isNothing 41 = .ok (.ireturn, 1) := by decide +kernel
theorem dX12_isNought_0 : decode cX12_isNought 0 = .ok (.aload_n 0, 1) := by decide +kernel
theorem dX12_isNought_1 : decode cX12_isNought 1 = .ok (.aload_n 1, 1) := by decide +kernel
theorem dX12_isNought_2 : decode cX12_isNought 2 = .ok (.invokevirtual 121, 3) := by decide +kernel
theorem dX12_isNought_5 : decode cX12_isNought 5 = .ok (.aload_n 0, 1) := by decide +kernel
theorem dX12_isNought_6 : decode cX12_isNought 6 = .ok (.invokevirtual 125, 3) := by decide +kernel
theorem dX12_isNought_9 : decode cX12_isNought 9 = .ok (.ireturn, 1) := by decide +kernel
theorem dX12_nought_0 : decode cX12_nought 0 = .ok (.aload_n 0, 1) := by decide +kernel
theorem dX12_nought_1 : decode cX12_nought 1 = .ok (.aload_n 0, 1) := by decide +kernel
theorem dX12_nought_2 : decode cX12_nought 2 = .ok (.getfield 15, 3) := by decide +kernel
theorem dX12_nought_5 : decode cX12_nought 5 = .ok (.invokevirtual 129, 3) := by decide +kernel
theorem dX12_nought_8 : decode cX12_nought 8 = .ok (.ifCond .eq 7, 3) := by decide +kernel
theorem dX12_nought_11 : decode cX12_nought 11 = .ok (.iconst 1, 1) := by decide +kernel
theorem dX12_nought_12 : decode cX12_nought 12 = .ok (.goto 4, 3) := by decide +kernel
theorem dX12_nought_15 : decode cX12_nought 15 = .ok (.iconst 0, 1) := by decide +kernel
theorem dX12_nought_16 : decode cX12_nought 16 = .ok (.ireturn, 1) := by decide +kernel
theorem dX12_tellsLeaves_0 : decode cX12_tellsLeaves 0 = .ok (.iconst 0, 1) := by decide +kernel
theorem dX12_tellsLeaves_1 : decode cX12_tellsLeaves 1 = .ok (.istore_n 1, 1) := by decide +kernel
theorem dX12_tellsLeaves_2 : decode cX12_tellsLeaves 2 = .ok (.iload_n 1, 1) := by decide +kernel
theorem dX12_tellsLeaves_3 : decode cX12_tellsLeaves 3 = .ok (.aload_n 0, 1) := by decide +kernel
theorem dX12_tellsLeaves_4 : decode cX12_tellsLeaves 4 = .ok (.getfield 9, 3) := by decide +kernel
theorem dX12_tellsLeaves_7 : decode cX12_tellsLeaves 7 = .ok (.if_icmp .ge 95, 3) := by decide +kernel
theorem dX12_tellsLeaves_10 : decode cX12_tellsLeaves 10 = .ok (.iconst 0, 1) := by decide +kernel
theorem dX12_tellsLeaves_11 : decode cX12_tellsLeaves 11 = .ok (.istore_n 2, 1) := by decide +kernel
theorem dX12_tellsLeaves_12 : decode cX12_tellsLeaves 12 = .ok (.iload_n 2, 1) := by decide +kernel
theorem dX12_tellsLeaves_13 : decode cX12_tellsLeaves 13 = .ok (.bipush 30, 2) := by decide +kernel
theorem dX12_tellsLeaves_15 : decode cX12_tellsLeaves 15 = .ok (.if_icmp .ge 25, 3) := by decide +kernel
theorem dX12_tellsLeaves_18 : decode cX12_tellsLeaves 18 = .ok (.aload_n 0, 1) := by decide +kernel
theorem dX12_tellsLeaves_19 : decode cX12_tellsLeaves 19 = .ok (.getfield 43, 3) := by decide +kernel
theorem dX12_tellsLeaves_22 : decode cX12_tellsLeaves 22 = .ok (.iload_n 2, 1) := by decide +kernel
theorem dX12_tellsLeaves_23 : decode cX12_tellsLeaves 23 = .ok (.iload_n 2, 1) := by decide +kernel
theorem dX12_tellsLeaves_24 : decode cX12_tellsLeaves 24 = .ok (.iload_n 1, 1) := by decide +kernel
theorem dX12_tellsLeaves_25 : decode cX12_tellsLeaves 25 = .ok (.if_icmp .ne 7, 3) := by decide +kernel
theorem dX12_tellsLeaves_28 : decode cX12_tellsLeaves 28 = .ok (.iconst 1, 1) := by decide +kernel
theorem dX12_tellsLeaves_29 : decode cX12_tellsLeaves 29 = .ok (.goto 4, 3) := by decide +kernel
theorem dX12_tellsLeaves_32 : decode cX12_tellsLeaves 32 = .ok (.iconst 0, 1) := by decide +kernel
theorem dX12_tellsLeaves_33 : decode cX12_tellsLeaves 33 = .ok (.iastore, 1) := by decide +kernel
theorem dX12_tellsLeaves_34 : decode cX12_tellsLeaves 34 = .ok (.iinc 2 1, 3) := by decide +kernel
theorem dX12_tellsLeaves_37 : decode cX12_tellsLeaves 37 = .ok (.goto (-25), 3) := by decide +kernel
theorem dX12_tellsLeaves_40 : decode cX12_tellsLeaves 40 = .ok (.aload_n 0, 1) := by decide +kernel
theorem dX12_tellsLeaves_41 : decode cX12_tellsLeaves 41 = .ok (.aload_n 0, 1) := by decide +kernel
theorem dX12_tellsLeaves_42 : decode cX12_tellsLeaves 42 = .ok (.getfield 43, 3) := by decide +kernel
theorem dX12_tellsLeaves_45 : decode cX12_tellsLeaves 45 = .ok (.invokevirtual 121, 3) := by decide +kernel
theorem dX12_tellsLeaves_48 : decode cX12_tellsLeaves 48 = .ok (.iconst 0, 1) := by decide +kernel
theorem dX12_tellsLeaves_49 : decode cX12_tellsLeaves 49 = .ok (.istore_n 2, 1) := by decide +kernel
theorem dX12_tellsLeaves_50 : decode cX12_tellsLeaves 50 = .ok (.iload_n 2, 1) := by decide +kernel
theorem dX12_tellsLeaves_51 : decode cX12_tellsLeaves 51 = .ok (.bipush 30, 2) := by decide +kernel
theorem dX12_tellsLeaves_53 : decode cX12_tellsLeaves 53 = .ok (.if_icmp .ge 43, 3) := by decide +kernel
theorem dX12_tellsLeaves_56 : decode cX12_tellsLeaves 56 = .ok (.aload_n 0, 1) := by decide +kernel
theorem dX12_tellsLeaves_57 : decode cX12_tellsLeaves 57 = .ok (.getfield 37, 3) := by decide +kernel
theorem dX12_tellsLeaves_60 : decode cX12_tellsLeaves 60 = .ok (.bipush 30, 2) := by decide +kernel
theorem dX12_tellsLeaves_62 : decode cX12_tellsLeaves 62 = .ok (.iload_n 1, 1) := by decide +kernel
theorem dX12_tellsLeaves_63 : decode cX12_tellsLeaves 63 = .ok (.imul, 1) := by decide +kernel
theorem dX12_tellsLeaves_64 : decode cX12_tellsLeaves 64 = .ok (.iload_n 2, 1) := by decide +kernel
theorem dX12_tellsLeaves_65 : decode cX12_tellsLeaves 65 = .ok (.iadd, 1) := by decide +kernel
theorem dX12_tellsLeaves_66 : decode cX12_tellsLeaves 66 = .ok (.iload_n 2, 1) := by decide +kernel
theorem dX12_tellsLeaves_67 : decode cX12_tellsLeaves 67 = .ok (.aload_n 0, 1) := by decide +kernel
theorem dX12_tellsLeaves_68 : decode cX12_tellsLeaves 68 = .ok (.getfield 31, 3) := by decide +kernel
theorem dX12_tellsLeaves_71 : decode cX12_tellsLeaves 71 = .ok (.aload_n 0, 1) := by decide +kernel
theorem dX12_tellsLeaves_72 : decode cX12_tellsLeaves 72 = .ok (.getfield 9, 3) := by decide +kernel
theorem dX12_tellsLeaves_75 : decode cX12_tellsLeaves 75 = .ok (.iaload, 1) := by decide +kernel
theorem dX12_tellsLeaves_76 : decode cX12_tellsLeaves 76 = .ok (.if_icmp .ge 12, 3) := by decide +kernel
theorem dX12_tellsLeaves_79 : decode cX12_tellsLeaves 79 = .ok (.aload_n 0, 1) := by decide +kernel
theorem dX12_tellsLeaves_80 : decode cX12_tellsLeaves 80 = .ok (.getfield 34, 3) := by decide +kernel
theorem dX12_tellsLeaves_83 : decode cX12_tellsLeaves 83 = .ok (.iload_n 2, 1) := by decide +kernel
theorem dX12_tellsLeaves_84 : decode cX12_tellsLeaves 84 = .ok (.iaload, 1) := by decide +kernel
theorem dX12_tellsLeaves_85 : decode cX12_tellsLeaves 85 = .ok (.goto 4, 3) := by decide +kernel
theorem dX12_tellsLeaves_88 : decode cX12_tellsLeaves 88 = .ok (.iconst 0, 1) := by decide +kernel
theorem dX12_tellsLeaves_89 : decode cX12_tellsLeaves 89 = .ok (.iastore, 1) := by decide +kernel
theorem dX12_tellsLeaves_90 : decode cX12_tellsLeaves 90 = .ok (.iinc 2 1, 3) := by decide +kernel
theorem dX12_tellsLeaves_93 : decode cX12_tellsLeaves 93 = .ok (.goto (-43), 3) := by decide +kernel
theorem dX12_tellsLeaves_96 : decode cX12_tellsLeaves 96 = .ok (.iinc 1 1, 3) := by decide +kernel
theorem dX12_tellsLeaves_99 : decode cX12_tellsLeaves 99 = .ok (.goto (-97), 3) := by decide +kernel
theorem dX12_tellsLeaves_102 : decode cX12_tellsLeaves 102 = .ok (.return_, 1) := by decide +kernel
theorem dX12_isDear_0 : decode cX12_isDear 0 = .ok (.lconst 1, 1) := by decide +kernel
theorem dX12_isDear_1 : decode cX12_isDear 1 = .ok (.lstore_n 1, 1) := by decide +kernel
theorem dX12_isDear_2 : decode cX12_isDear 2 = .ok (.iconst 0, 1) := by decide +kernel
theorem dX12_isDear_3 : decode cX12_isDear 3 = .ok (.istore_n 3, 1) := by decide +kernel
theorem dX12_isDear_4 : decode cX12_isDear 4 = .ok (.iload_n 3, 1) := by decide +kernel
theorem dX12_isDear_5 : decode cX12_isDear 5 = .ok (.aload_n 0, 1) := by decide +kernel
theorem dX12_isDear_6 : decode cX12_isDear 6 = .ok (.getfield 9, 3) := by decide +kernel
theorem dX12_isDear_9 : decode cX12_isDear 9 = .ok (.if_icmp .ge 33, 3) := by decide +kernel
theorem dX12_isDear_12 : decode cX12_isDear 12 = .ok (.lload_n 1, 1) := by decide +kernel
theorem dX12_isDear_13 : decode cX12_isDear 13 = .ok (.ldc2_w 132, 3) := by decide +kernel
theorem dX12_isDear_16 : decode cX12_isDear 16 = .ok (.lcmp, 1) := by decide +kernel
theorem dX12_isDear_17 : decode cX12_isDear 17 = .ok (.ifCond .le 7, 3) := by decide +kernel
theorem dX12_isDear_20 : decode cX12_isDear 20 = .ok (.lload_n 1, 1) := by decide +kernel
theorem dX12_isDear_21 : decode cX12_isDear 21 = .ok (.goto 14, 3) := by decide +kernel
theorem dX12_isDear_24 : decode cX12_isDear 24 = .ok (.lload_n 1, 1) := by decide +kernel
theorem dX12_isDear_25 : decode cX12_isDear 25 = .ok (.aload_n 0, 1) := by decide +kernel
theorem dX12_isDear_26 : decode cX12_isDear 26 = .ok (.getfield 15, 3) := by decide +kernel
theorem dX12_isDear_29 : decode cX12_isDear 29 = .ok (.iload_n 3, 1) := by decide +kernel
theorem dX12_isDear_30 : decode cX12_isDear 30 = .ok (.iaload, 1) := by decide +kernel
theorem dX12_isDear_31 : decode cX12_isDear 31 = .ok (.iconst 1, 1) := by decide +kernel
theorem dX12_isDear_32 : decode cX12_isDear 32 = .ok (.iadd, 1) := by decide +kernel
theorem dX12_isDear_33 : decode cX12_isDear 33 = .ok (.i2l, 1) := by decide +kernel
theorem dX12_isDear_34 : decode cX12_isDear 34 = .ok (.lmul, 1) := by decide +kernel
theorem dX12_isDear_35 : decode cX12_isDear 35 = .ok (.lstore_n 1, 1) := by decide +kernel
theorem dX12_isDear_36 : decode cX12_isDear 36 = .ok (.iinc 3 1, 3) := by decide +kernel
theorem dX12_isDear_39 : decode cX12_isDear 39 = .ok (.goto (-35), 3) := by decide +kernel
theorem dX12_isDear_42 : decode cX12_isDear 42 = .ok (.lload_n 1, 1) := by decide +kernel
theorem dX12_isDear_43 : decode cX12_isDear 43 = .ok (.ldc2_w 132, 3) := by decide +kernel
theorem dX12_isDear_46 : decode cX12_isDear 46 = .ok (.lcmp, 1) := by decide +kernel
theorem dX12_isDear_47 : decode cX12_isDear 47 = .ok (.ifCond .le 7, 3) := by decide +kernel
theorem dX12_isDear_50 : decode cX12_isDear 50 = .ok (.iconst 1, 1) := by decide +kernel
theorem dX12_isDear_51 : decode cX12_isDear 51 = .ok (.goto 4, 3) := by decide +kernel
theorem dX12_isDear_54 : decode cX12_isDear 54 = .ok (.iconst 0, 1) := by decide +kernel
theorem dX12_isDear_55 : decode cX12_isDear 55 = .ok (.ireturn, 1) := by decide +kernel
theorem dX12_adds_0 : decode cX12_adds 0 = .ok (.iconst 0, 1) := by decide +kernel
theorem dX12_adds_1 : decode cX12_adds 1 = .ok (.istore_n 3, 1) := by decide +kernel
theorem dX12_adds_2 : decode cX12_adds 2 = .ok (.iload_n 3, 1) := by decide +kernel
theorem dX12_adds_3 : decode cX12_adds 3 = .ok (.aload_n 0, 1) := by decide +kernel
theorem dX12_adds_4 : decode cX12_adds 4 = .ok (.getfield 31, 3) := by decide +kernel
theorem dX12_adds_7 : decode cX12_adds 7 = .ok (.aload_n 0, 1) := by decide +kernel
theorem dX12_adds_8 : decode cX12_adds 8 = .ok (.getfield 9, 3) := by decide +kernel
theorem dX12_adds_11 : decode cX12_adds 11 = .ok (.iaload, 1) := by decide +kernel
theorem dX12_adds_12 : decode cX12_adds 12 = .ok (.if_icmp .ge 31, 3) := by decide +kernel
theorem dX12_adds_15 : decode cX12_adds 15 = .ok (.aload_n 0, 1) := by decide +kernel
theorem dX12_adds_16 : decode cX12_adds 16 = .ok (.getfield 40, 3) := by decide +kernel
theorem dX12_adds_19 : decode cX12_adds 19 = .ok (.iload_n 3, 1) := by decide +kernel
theorem dX12_adds_20 : decode cX12_adds 20 = .ok (.dup2, 1) := by decide +kernel
theorem dX12_adds_21 : decode cX12_adds 21 = .ok (.iaload, 1) := by decide +kernel
theorem dX12_adds_22 : decode cX12_adds 22 = .ok (.iload_n 2, 1) := by decide +kernel
theorem dX12_adds_23 : decode cX12_adds 23 = .ok (.aload_n 0, 1) := by decide +kernel
theorem dX12_adds_24 : decode cX12_adds 24 = .ok (.getfield 37, 3) := by decide +kernel
theorem dX12_adds_27 : decode cX12_adds 27 = .ok (.bipush 30, 2) := by decide +kernel
theorem dX12_adds_29 : decode cX12_adds 29 = .ok (.iload_n 1, 1) := by decide +kernel
theorem dX12_adds_30 : decode cX12_adds 30 = .ok (.imul, 1) := by decide +kernel
theorem dX12_adds_31 : decode cX12_adds 31 = .ok (.iload_n 3, 1) := by decide +kernel
theorem dX12_adds_32 : decode cX12_adds 32 = .ok (.iadd, 1) := by decide +kernel
theorem dX12_adds_33 : decode cX12_adds 33 = .ok (.iaload, 1) := by decide +kernel
theorem dX12_adds_34 : decode cX12_adds 34 = .ok (.imul, 1) := by decide +kernel
theorem dX12_adds_35 : decode cX12_adds 35 = .ok (.iadd, 1) := by decide +kernel
theorem dX12_adds_36 : decode cX12_adds 36 = .ok (.iastore, 1) := by decide +kernel
theorem dX12_adds_37 : decode cX12_adds 37 = .ok (.iinc 3 1, 3) := by decide +kernel
theorem dX12_adds_40 : decode cX12_adds 40 = .ok (.goto (-38), 3) := by decide +kernel
theorem dX12_adds_43 : decode cX12_adds 43 = .ok (.return_, 1) := by decide +kernel
theorem dX12_areNothing_0 : decode cX12_areNothing 0 = .ok (.iconst 1, 1) := by decide +kernel
theorem dX12_areNothing_1 : decode cX12_areNothing 1 = .ok (.istore_n 1, 1) := by decide +kernel
theorem dX12_areNothing_2 : decode cX12_areNothing 2 = .ok (.iconst 0, 1) := by decide +kernel
theorem dX12_areNothing_3 : decode cX12_areNothing 3 = .ok (.istore_n 2, 1) := by decide +kernel
theorem dX12_areNothing_4 : decode cX12_areNothing 4 = .ok (.iload_n 2, 1) := by decide +kernel
theorem dX12_areNothing_5 : decode cX12_areNothing 5 = .ok (.aload_n 0, 1) := by decide +kernel
theorem dX12_areNothing_6 : decode cX12_areNothing 6 = .ok (.getfield 31, 3) := by decide +kernel
theorem dX12_areNothing_9 : decode cX12_areNothing 9 = .ok (.aload_n 0, 1) := by decide +kernel
theorem dX12_areNothing_10 : decode cX12_areNothing 10 = .ok (.getfield 9, 3) := by decide +kernel
theorem dX12_areNothing_13 : decode cX12_areNothing 13 = .ok (.iaload, 1) := by decide +kernel
theorem dX12_areNothing_14 : decode cX12_areNothing 14 = .ok (.if_icmp .ge 26, 3) := by decide +kernel
theorem dX12_areNothing_17 : decode cX12_areNothing 17 = .ok (.iload_n 1, 1) := by decide +kernel
theorem dX12_areNothing_18 : decode cX12_areNothing 18 = .ok (.aload_n 0, 1) := by decide +kernel
theorem dX12_areNothing_19 : decode cX12_areNothing 19 = .ok (.getfield 40, 3) := by decide +kernel
theorem dX12_areNothing_22 : decode cX12_areNothing 22 = .ok (.iload_n 2, 1) := by decide +kernel
theorem dX12_areNothing_23 : decode cX12_areNothing 23 = .ok (.iaload, 1) := by decide +kernel
theorem dX12_areNothing_24 : decode cX12_areNothing 24 = .ok (.ifCond .ne 7, 3) := by decide +kernel
theorem dX12_areNothing_27 : decode cX12_areNothing 27 = .ok (.iconst 1, 1) := by decide +kernel
theorem dX12_areNothing_28 : decode cX12_areNothing 28 = .ok (.goto 4, 3) := by decide +kernel
theorem dX12_areNothing_31 : decode cX12_areNothing 31 = .ok (.iconst 0, 1) := by decide +kernel
theorem dX12_areNothing_32 : decode cX12_areNothing 32 = .ok (.iand, 1) := by decide +kernel
theorem dX12_areNothing_33 : decode cX12_areNothing 33 = .ok (.istore_n 1, 1) := by decide +kernel
theorem dX12_areNothing_34 : decode cX12_areNothing 34 = .ok (.iinc 2 1, 3) := by decide +kernel
theorem dX12_areNothing_37 : decode cX12_areNothing 37 = .ok (.goto (-33), 3) := by decide +kernel
theorem dX12_areNothing_40 : decode cX12_areNothing 40 = .ok (.iload_n 1, 1) := by decide +kernel
theorem dX12_areNothing_41 : decode cX12_areNothing 41 = .ok (.ireturn, 1) := by decide +kernel
theorem dX12_goes_0 : decode cX12_goes 0 = .ok (.iload_n 1, 1) := by decide +kernel
theorem dX12_goes_1 : decode cX12_goes 1 = .ok (.aload_n 0, 1) := by decide +kernel
theorem dX12_goes_2 : decode cX12_goes 2 = .ok (.getfield 9, 3) := by decide +kernel
theorem dX12_goes_5 : decode cX12_goes 5 = .ok (.if_icmp .ne 110, 3) := by decide +kernel
theorem dX12_goes_8 : decode cX12_goes 8 = .ok (.iload_n 2, 1) := by decide +kernel
theorem dX12_goes_9 : decode cX12_goes 9 = .ok (.ifCond .le 105, 3) := by decide +kernel
theorem dX12_goes_12 : decode cX12_goes 12 = .ok (.aload_n 0, 1) := by decide +kernel
theorem dX12_goes_13 : decode cX12_goes 13 = .ok (.invokevirtual 134, 3) := by decide +kernel
theorem dX12_goes_16 : decode cX12_goes 16 = .ok (.ifCond .eq 98, 3) := by decide +kernel
theorem dX12_goes_19 : decode cX12_goes 19 = .ok (.aload_n 0, 1) := by decide +kernel
theorem dX12_goes_20 : decode cX12_goes 20 = .ok (.dup, 1) := by decide +kernel
theorem dX12_goes_21 : decode cX12_goes 21 = .ok (.getfield 137, 3) := by decide +kernel
theorem dX12_goes_24 : decode cX12_goes 24 = .ok (.iconst 1, 1) := by decide +kernel
theorem dX12_goes_25 : decode cX12_goes 25 = .ok (.iadd, 1) := by decide +kernel
theorem dX12_goes_26 : decode cX12_goes 26 = .ok (.putfield 137, 3) := by decide +kernel
theorem dX12_goes_29 : decode cX12_goes 29 = .ok (.aload_n 0, 1) := by decide +kernel
theorem dX12_goes_30 : decode cX12_goes 30 = .ok (.aload_n 0, 1) := by decide +kernel
theorem dX12_goes_31 : decode cX12_goes 31 = .ok (.getfield 140, 3) := by decide +kernel
theorem dX12_goes_34 : decode cX12_goes 34 = .ok (.ifCond .le 20, 3) := by decide +kernel
theorem dX12_goes_37 : decode cX12_goes 37 = .ok (.iload_n 2, 1) := by decide +kernel
theorem dX12_goes_38 : decode cX12_goes 38 = .ok (.aload_n 0, 1) := by decide +kernel
theorem dX12_goes_39 : decode cX12_goes 39 = .ok (.getfield 143, 3) := by decide +kernel
theorem dX12_goes_42 : decode cX12_goes 42 = .ok (.if_icmp .ne 12, 3) := by decide +kernel
theorem dX12_goes_45 : decode cX12_goes 45 = .ok (.aload_n 0, 1) := by decide +kernel
theorem dX12_goes_46 : decode cX12_goes 46 = .ok (.getfield 140, 3) := by decide +kernel
theorem dX12_goes_49 : decode cX12_goes 49 = .ok (.iconst 1, 1) := by decide +kernel
theorem dX12_goes_50 : decode cX12_goes 50 = .ok (.iadd, 1) := by decide +kernel
theorem dX12_goes_51 : decode cX12_goes 51 = .ok (.goto 7, 3) := by decide +kernel
theorem dX12_goes_54 : decode cX12_goes 54 = .ok (.aload_n 0, 1) := by decide +kernel
theorem dX12_goes_55 : decode cX12_goes 55 = .ok (.getfield 140, 3) := by decide +kernel
theorem dX12_goes_58 : decode cX12_goes 58 = .ok (.putfield 140, 3) := by decide +kernel
theorem dX12_goes_61 : decode cX12_goes 61 = .ok (.aload_n 0, 1) := by decide +kernel
theorem dX12_goes_62 : decode cX12_goes 62 = .ok (.getfield 140, 3) := by decide +kernel
theorem dX12_goes_65 : decode cX12_goes 65 = .ok (.ifCond .eq 11, 3) := by decide +kernel
theorem dX12_goes_68 : decode cX12_goes 68 = .ok (.iload_n 2, 1) := by decide +kernel
theorem dX12_goes_69 : decode cX12_goes 69 = .ok (.aload_n 0, 1) := by decide +kernel
theorem dX12_goes_70 : decode cX12_goes 70 = .ok (.getfield 143, 3) := by decide +kernel
theorem dX12_goes_73 : decode cX12_goes 73 = .ok (.if_icmp .ge 41, 3) := by decide +kernel
theorem dX12_goes_76 : decode cX12_goes 76 = .ok (.aload_n 0, 1) := by decide +kernel
theorem dX12_goes_77 : decode cX12_goes 77 = .ok (.iload_n 2, 1) := by decide +kernel
theorem dX12_goes_78 : decode cX12_goes 78 = .ok (.putfield 143, 3) := by decide +kernel
theorem dX12_goes_81 : decode cX12_goes 81 = .ok (.aload_n 0, 1) := by decide +kernel
theorem dX12_goes_82 : decode cX12_goes 82 = .ok (.iconst 1, 1) := by decide +kernel
theorem dX12_goes_83 : decode cX12_goes 83 = .ok (.putfield 140, 3) := by decide +kernel
theorem dX12_goes_86 : decode cX12_goes 86 = .ok (.iconst 0, 1) := by decide +kernel
theorem dX12_goes_87 : decode cX12_goes 87 = .ok (.istore_n 3, 1) := by decide +kernel
theorem dX12_goes_88 : decode cX12_goes 88 = .ok (.iload_n 3, 1) := by decide +kernel
theorem dX12_goes_89 : decode cX12_goes 89 = .ok (.aload_n 0, 1) := by decide +kernel
theorem dX12_goes_90 : decode cX12_goes 90 = .ok (.getfield 9, 3) := by decide +kernel
theorem dX12_goes_93 : decode cX12_goes 93 = .ok (.if_icmp .ge 21, 3) := by decide +kernel
theorem dX12_goes_96 : decode cX12_goes 96 = .ok (.aload_n 0, 1) := by decide +kernel
theorem dX12_goes_97 : decode cX12_goes 97 = .ok (.getfield 49, 3) := by decide +kernel
theorem dX12_goes_100 : decode cX12_goes 100 = .ok (.iload_n 3, 1) := by decide +kernel
theorem dX12_goes_101 : decode cX12_goes 101 = .ok (.aload_n 0, 1) := by decide +kernel
theorem dX12_goes_102 : decode cX12_goes 102 = .ok (.getfield 46, 3) := by decide +kernel
theorem dX12_goes_105 : decode cX12_goes 105 = .ok (.iload_n 3, 1) := by decide +kernel
theorem dX12_goes_106 : decode cX12_goes 106 = .ok (.iaload, 1) := by decide +kernel
theorem dX12_goes_107 : decode cX12_goes 107 = .ok (.iastore, 1) := by decide +kernel
theorem dX12_goes_108 : decode cX12_goes 108 = .ok (.iinc 3 1, 3) := by decide +kernel
theorem dX12_goes_111 : decode cX12_goes 111 = .ok (.goto (-23), 3) := by decide +kernel
theorem dX12_goes_114 : decode cX12_goes 114 = .ok (.return_, 1) := by decide +kernel
theorem dX12_goes_115 : decode cX12_goes 115 = .ok (.aload_n 0, 1) := by decide +kernel
theorem dX12_goes_116 : decode cX12_goes 116 = .ok (.iload_n 1, 1) := by decide +kernel
theorem dX12_goes_117 : decode cX12_goes 117 = .ok (.aload_n 0, 1) := by decide +kernel
theorem dX12_goes_118 : decode cX12_goes 118 = .ok (.getfield 52, 3) := by decide +kernel
theorem dX12_goes_121 : decode cX12_goes 121 = .ok (.iload_n 1, 1) := by decide +kernel
theorem dX12_goes_122 : decode cX12_goes 122 = .ok (.iaload, 1) := by decide +kernel
theorem dX12_goes_123 : decode cX12_goes 123 = .ok (.invokevirtual 146, 3) := by decide +kernel
theorem dX12_goes_126 : decode cX12_goes 126 = .ok (.aload_n 0, 1) := by decide +kernel
theorem dX12_goes_127 : decode cX12_goes 127 = .ok (.getfield 52, 3) := by decide +kernel
theorem dX12_goes_130 : decode cX12_goes 130 = .ok (.iload_n 1, 1) := by decide +kernel
theorem dX12_goes_131 : decode cX12_goes 131 = .ok (.iaload, 1) := by decide +kernel
theorem dX12_goes_132 : decode cX12_goes 132 = .ok (.istore_n 3, 1) := by decide +kernel
theorem dX12_goes_133 : decode cX12_goes 133 = .ok (.iload_n 3, 1) := by decide +kernel
theorem dX12_goes_134 : decode cX12_goes 134 = .ok (.ifCond .lt 40, 3) := by decide +kernel
theorem dX12_goes_137 : decode cX12_goes 137 = .ok (.aload_n 0, 1) := by decide +kernel
theorem dX12_goes_138 : decode cX12_goes 138 = .ok (.getfield 46, 3) := by decide +kernel
theorem dX12_goes_141 : decode cX12_goes 141 = .ok (.iload_n 1, 1) := by decide +kernel
theorem dX12_goes_142 : decode cX12_goes 142 = .ok (.iload_n 3, 1) := by decide +kernel
theorem dX12_goes_143 : decode cX12_goes 143 = .ok (.iastore, 1) := by decide +kernel
theorem dX12_goes_144 : decode cX12_goes 144 = .ok (.aload_n 0, 1) := by decide +kernel
theorem dX12_goes_145 : decode cX12_goes 145 = .ok (.iload_n 1, 1) := by decide +kernel
theorem dX12_goes_146 : decode cX12_goes 146 = .ok (.iconst 1, 1) := by decide +kernel
theorem dX12_goes_147 : decode cX12_goes 147 = .ok (.iadd, 1) := by decide +kernel
theorem dX12_goes_148 : decode cX12_goes 148 = .ok (.iload_n 2, 1) := by decide +kernel
theorem dX12_goes_149 : decode cX12_goes 149 = .ok (.iload_n 3, 1) := by decide +kernel
theorem dX12_goes_150 : decode cX12_goes 150 = .ok (.iadd, 1) := by decide +kernel
theorem dX12_goes_151 : decode cX12_goes 151 = .ok (.invokevirtual 149, 3) := by decide +kernel
theorem dX12_goes_154 : decode cX12_goes 154 = .ok (.aload_n 0, 1) := by decide +kernel
theorem dX12_goes_155 : decode cX12_goes 155 = .ok (.iload_n 1, 1) := by decide +kernel
theorem dX12_goes_156 : decode cX12_goes 156 = .ok (.iload_n 3, 1) := by decide +kernel
theorem dX12_goes_157 : decode cX12_goes 157 = .ok (.ifCond .le 7, 3) := by decide +kernel
theorem dX12_goes_160 : decode cX12_goes 160 = .ok (.iconst (-1), 1) := by decide +kernel
theorem dX12_goes_161 : decode cX12_goes 161 = .ok (.goto 4, 3) := by decide +kernel
theorem dX12_goes_164 : decode cX12_goes 164 = .ok (.iconst 0, 1) := by decide +kernel
theorem dX12_goes_165 : decode cX12_goes 165 = .ok (.invokevirtual 146, 3) := by decide +kernel
theorem dX12_goes_168 : decode cX12_goes 168 = .ok (.iinc 3 (-1), 3) := by decide +kernel
theorem dX12_goes_171 : decode cX12_goes 171 = .ok (.goto (-38), 3) := by decide +kernel
theorem dX12_goes_174 : decode cX12_goes 174 = .ok (.return_, 1) := by decide +kernel
theorem dX12_looks_0 : decode cX12_looks 0 = .ok (.aload_n 0, 1) := by decide +kernel
theorem dX12_looks_1 : decode cX12_looks 1 = .ok (.iconst 0, 1) := by decide +kernel
theorem dX12_looks_2 : decode cX12_looks 2 = .ok (.putfield 137, 3) := by decide +kernel
theorem dX12_looks_5 : decode cX12_looks 5 = .ok (.aload_n 0, 1) := by decide +kernel
theorem dX12_looks_6 : decode cX12_looks 6 = .ok (.iconst 0, 1) := by decide +kernel
theorem dX12_looks_7 : decode cX12_looks 7 = .ok (.putfield 140, 3) := by decide +kernel
theorem dX12_looks_10 : decode cX12_looks 10 = .ok (.aload_n 0, 1) := by decide +kernel
theorem dX12_looks_11 : decode cX12_looks 11 = .ok (.iconst 0, 1) := by decide +kernel
theorem dX12_looks_12 : decode cX12_looks 12 = .ok (.putfield 143, 3) := by decide +kernel
theorem dX12_looks_15 : decode cX12_looks 15 = .ok (.iconst 0, 1) := by decide +kernel
theorem dX12_looks_16 : decode cX12_looks 16 = .ok (.istore_n 1, 1) := by decide +kernel
theorem dX12_looks_17 : decode cX12_looks 17 = .ok (.iload_n 1, 1) := by decide +kernel
theorem dX12_looks_18 : decode cX12_looks 18 = .ok (.bipush 30, 2) := by decide +kernel
theorem dX12_looks_20 : decode cX12_looks 20 = .ok (.if_icmp .ge 16, 3) := by decide +kernel
theorem dX12_looks_23 : decode cX12_looks 23 = .ok (.aload_n 0, 1) := by decide +kernel
theorem dX12_looks_24 : decode cX12_looks 24 = .ok (.getfield 40, 3) := by decide +kernel
theorem dX12_looks_27 : decode cX12_looks 27 = .ok (.iload_n 1, 1) := by decide +kernel
theorem dX12_looks_28 : decode cX12_looks 28 = .ok (.iconst 0, 1) := by decide +kernel
theorem dX12_looks_29 : decode cX12_looks 29 = .ok (.iastore, 1) := by decide +kernel
theorem dX12_looks_30 : decode cX12_looks 30 = .ok (.iinc 1 1, 3) := by decide +kernel
theorem dX12_looks_33 : decode cX12_looks 33 = .ok (.goto (-16), 3) := by decide +kernel
theorem dX12_looks_36 : decode cX12_looks 36 = .ok (.aload_n 0, 1) := by decide +kernel
theorem dX12_looks_37 : decode cX12_looks 37 = .ok (.iconst 0, 1) := by decide +kernel
theorem dX12_looks_38 : decode cX12_looks 38 = .ok (.iconst 0, 1) := by decide +kernel
theorem dX12_looks_39 : decode cX12_looks 39 = .ok (.invokevirtual 149, 3) := by decide +kernel
theorem dX12_looks_42 : decode cX12_looks 42 = .ok (.return_, 1) := by decide +kernel
theorem dX12_looksAtRow_0 : decode cX12_looksAtRow 0 = .ok (.aload_n 0, 1) := by decide +kernel
theorem dX12_looksAtRow_1 : decode cX12_looksAtRow 1 = .ok (.invokevirtual 152, 3) := by decide +kernel
theorem dX12_looksAtRow_4 : decode cX12_looksAtRow 4 = .ok (.iconst 0, 1) := by decide +kernel
theorem dX12_looksAtRow_5 : decode cX12_looksAtRow 5 = .ok (.istore_n 1, 1) := by decide +kernel
theorem dX12_looksAtRow_6 : decode cX12_looksAtRow 6 = .ok (.iload_n 1, 1) := by decide +kernel
theorem dX12_looksAtRow_7 : decode cX12_looksAtRow 7 = .ok (.aload_n 0, 1) := by decide +kernel
theorem dX12_looksAtRow_8 : decode cX12_looksAtRow 8 = .ok (.getfield 9, 3) := by decide +kernel
theorem dX12_looksAtRow_11 : decode cX12_looksAtRow 11 = .ok (.if_icmp .ge 21, 3) := by decide +kernel
theorem dX12_looksAtRow_14 : decode cX12_looksAtRow 14 = .ok (.aload_n 0, 1) := by decide +kernel
theorem dX12_looksAtRow_15 : decode cX12_looksAtRow 15 = .ok (.getfield 52, 3) := by decide +kernel
theorem dX12_looksAtRow_18 : decode cX12_looksAtRow 18 = .ok (.iload_n 1, 1) := by decide +kernel
theorem dX12_looksAtRow_19 : decode cX12_looksAtRow 19 = .ok (.aload_n 0, 1) := by decide +kernel
theorem dX12_looksAtRow_20 : decode cX12_looksAtRow 20 = .ok (.getfield 15, 3) := by decide +kernel
theorem dX12_looksAtRow_23 : decode cX12_looksAtRow 23 = .ok (.iload_n 1, 1) := by decide +kernel
theorem dX12_looksAtRow_24 : decode cX12_looksAtRow 24 = .ok (.iaload, 1) := by decide +kernel
theorem dX12_looksAtRow_25 : decode cX12_looksAtRow 25 = .ok (.iastore, 1) := by decide +kernel
theorem dX12_looksAtRow_26 : decode cX12_looksAtRow 26 = .ok (.iinc 1 1, 3) := by decide +kernel
theorem dX12_looksAtRow_29 : decode cX12_looksAtRow 29 = .ok (.goto (-23), 3) := by decide +kernel
theorem dX12_looksAtRow_32 : decode cX12_looksAtRow 32 = .ok (.aload_n 0, 1) := by decide +kernel
theorem dX12_looksAtRow_33 : decode cX12_looksAtRow 33 = .ok (.invokevirtual 155, 3) := by decide +kernel
theorem dX12_looksAtRow_36 : decode cX12_looksAtRow 36 = .ok (.return_, 1) := by decide +kernel
theorem dX12_primitive_0 : decode cX12_primitive 0 = .ok (.aload_n 0, 1) := by decide +kernel
theorem dX12_primitive_1 : decode cX12_primitive 1 = .ok (.invokevirtual 158, 3) := by decide +kernel
theorem dX12_primitive_4 : decode cX12_primitive 4 = .ok (.ifCond .eq 6, 3) := by decide +kernel
theorem dX12_primitive_7 : decode cX12_primitive 7 = .ok (.bipush (-8), 2) := by decide +kernel
theorem dX12_primitive_9 : decode cX12_primitive 9 = .ok (.ireturn, 1) := by decide +kernel
theorem dX12_primitive_10 : decode cX12_primitive 10 = .ok (.aload_n 0, 1) := by decide +kernel
theorem dX12_primitive_11 : decode cX12_primitive 11 = .ok (.invokevirtual 161, 3) := by decide +kernel
theorem dX12_primitive_14 : decode cX12_primitive 14 = .ok (.aload_n 0, 1) := by decide +kernel
theorem dX12_primitive_15 : decode cX12_primitive 15 = .ok (.getfield 137, 3) := by decide +kernel
theorem dX12_primitive_18 : decode cX12_primitive 18 = .ok (.iconst 1, 1) := by decide +kernel
theorem dX12_primitive_19 : decode cX12_primitive 19 = .ok (.if_icmp .ne 18, 3) := by decide +kernel
theorem dX12_primitive_22 : decode cX12_primitive 22 = .ok (.aload_n 0, 1) := by decide +kernel
theorem dX12_primitive_23 : decode cX12_primitive 23 = .ok (.getfield 143, 3) := by decide +kernel
theorem dX12_primitive_26 : decode cX12_primitive 26 = .ok (.aload_n 0, 1) := by decide +kernel
theorem dX12_primitive_27 : decode cX12_primitive 27 = .ok (.invokevirtual 115, 3) := by decide +kernel
theorem dX12_primitive_30 : decode cX12_primitive 30 = .ok (.if_icmp .ne 7, 3) := by decide +kernel
theorem dX12_primitive_33 : decode cX12_primitive 33 = .ok (.iconst 1, 1) := by decide +kernel
theorem dX12_primitive_34 : decode cX12_primitive 34 = .ok (.goto 4, 3) := by decide +kernel
theorem dX12_primitive_37 : decode cX12_primitive 37 = .ok (.iconst 0, 1) := by decide +kernel
theorem dX12_primitive_38 : decode cX12_primitive 38 = .ok (.ireturn, 1) := by decide +kernel
theorem dX12_parts_0 : decode cX12_parts 0 = .ok (.iload_n 1, 1) := by decide +kernel
theorem dX12_parts_1 : decode cX12_parts 1 = .ok (.i2l, 1) := by decide +kernel
theorem dX12_parts_2 : decode cX12_parts 2 = .ok (.lconst 0, 1) := by decide +kernel
theorem dX12_parts_3 : decode cX12_parts 3 = .ok (.ldc2_w 101, 3) := by decide +kernel
theorem dX12_parts_6 : decode cX12_parts 6 = .ok (.invokestatic 97, 3) := by decide +kernel
theorem dX12_parts_9 : decode cX12_parts 9 = .ok (.ifCond .ne 5, 3) := by decide +kernel
theorem dX12_parts_12 : decode cX12_parts 12 = .ok (.iconst (-1), 1) := by decide +kernel
theorem dX12_parts_13 : decode cX12_parts 13 = .ok (.ireturn, 1) := by decide +kernel
theorem dX12_parts_14 : decode cX12_parts 14 = .ok (.aload_n 0, 1) := by decide +kernel
theorem dX12_parts_15 : decode cX12_parts 15 = .ok (.invokevirtual 158, 3) := by decide +kernel
theorem dX12_parts_18 : decode cX12_parts 18 = .ok (.ifCond .eq 6, 3) := by decide +kernel
theorem dX12_parts_21 : decode cX12_parts 21 = .ok (.bipush (-8), 2) := by decide +kernel
theorem dX12_parts_23 : decode cX12_parts 23 = .ok (.ireturn, 1) := by decide +kernel
theorem dX12_parts_24 : decode cX12_parts 24 = .ok (.aload_n 0, 1) := by decide +kernel
theorem dX12_parts_25 : decode cX12_parts 25 = .ok (.invokevirtual 161, 3) := by decide +kernel
theorem dX12_parts_28 : decode cX12_parts 28 = .ok (.iload_n 1, 1) := by decide +kernel
theorem dX12_parts_29 : decode cX12_parts 29 = .ok (.ifCond .ne 10, 3) := by decide +kernel
theorem dX12_parts_32 : decode cX12_parts 32 = .ok (.aload_n 0, 1) := by decide +kernel
theorem dX12_parts_33 : decode cX12_parts 33 = .ok (.getfield 137, 3) := by decide +kernel
theorem dX12_parts_36 : decode cX12_parts 36 = .ok (.goto 31, 3) := by decide +kernel
theorem dX12_parts_39 : decode cX12_parts 39 = .ok (.iload_n 1, 1) := by decide +kernel
theorem dX12_parts_40 : decode cX12_parts 40 = .ok (.iconst 2, 1) := by decide +kernel
theorem dX12_parts_41 : decode cX12_parts 41 = .ok (.if_icmp .ne 10, 3) := by decide +kernel
theorem dX12_parts_44 : decode cX12_parts 44 = .ok (.aload_n 0, 1) := by decide +kernel
theorem dX12_parts_45 : decode cX12_parts 45 = .ok (.getfield 140, 3) := by decide +kernel
theorem dX12_parts_48 : decode cX12_parts 48 = .ok (.goto 19, 3) := by decide +kernel
theorem dX12_parts_51 : decode cX12_parts 51 = .ok (.aload_n 0, 1) := by decide +kernel
theorem dX12_parts_52 : decode cX12_parts 52 = .ok (.getfield 140, 3) := by decide +kernel
theorem dX12_parts_55 : decode cX12_parts 55 = .ok (.ifCond .ne 8, 3) := by decide +kernel
theorem dX12_parts_58 : decode cX12_parts 58 = .ok (.bipush (-5), 2) := by decide +kernel
theorem dX12_parts_60 : decode cX12_parts 60 = .ok (.goto 7, 3) := by decide +kernel
theorem dX12_parts_63 : decode cX12_parts 63 = .ok (.aload_n 0, 1) := by decide +kernel
theorem dX12_parts_64 : decode cX12_parts 64 = .ok (.getfield 143, 3) := by decide +kernel
theorem dX12_parts_67 : decode cX12_parts 67 = .ok (.ireturn, 1) := by decide +kernel
theorem dX12_part_0 : decode cX12_part 0 = .ok (.aload_n 0, 1) := by decide +kernel
theorem dX12_part_1 : decode cX12_part 1 = .ok (.iload_n 1, 1) := by decide +kernel
theorem dX12_part_2 : decode cX12_part 2 = .ok (.invokevirtual 105, 3) := by decide +kernel
theorem dX12_part_5 : decode cX12_part 5 = .ok (.ifCond .ne 5, 3) := by decide +kernel
theorem dX12_part_8 : decode cX12_part 8 = .ok (.iconst (-1), 1) := by decide +kernel
theorem dX12_part_9 : decode cX12_part 9 = .ok (.ireturn, 1) := by decide +kernel
theorem dX12_part_10 : decode cX12_part 10 = .ok (.aload_n 0, 1) := by decide +kernel
theorem dX12_part_11 : decode cX12_part 11 = .ok (.invokevirtual 158, 3) := by decide +kernel
theorem dX12_part_14 : decode cX12_part 14 = .ok (.ifCond .eq 6, 3) := by decide +kernel
theorem dX12_part_17 : decode cX12_part 17 = .ok (.bipush (-8), 2) := by decide +kernel
theorem dX12_part_19 : decode cX12_part 19 = .ok (.ireturn, 1) := by decide +kernel
theorem dX12_part_20 : decode cX12_part 20 = .ok (.aload_n 0, 1) := by decide +kernel
theorem dX12_part_21 : decode cX12_part 21 = .ok (.invokevirtual 161, 3) := by decide +kernel
theorem dX12_part_24 : decode cX12_part 24 = .ok (.aload_n 0, 1) := by decide +kernel
theorem dX12_part_25 : decode cX12_part 25 = .ok (.getfield 140, 3) := by decide +kernel
theorem dX12_part_28 : decode cX12_part 28 = .ok (.ifCond .ne 8, 3) := by decide +kernel
theorem dX12_part_31 : decode cX12_part 31 = .ok (.bipush (-5), 2) := by decide +kernel
theorem dX12_part_33 : decode cX12_part 33 = .ok (.goto 9, 3) := by decide +kernel
theorem dX12_part_36 : decode cX12_part 36 = .ok (.aload_n 0, 1) := by decide +kernel
theorem dX12_part_37 : decode cX12_part 37 = .ok (.getfield 49, 3) := by decide +kernel
theorem dX12_part_40 : decode cX12_part 40 = .ok (.iload_n 1, 1) := by decide +kernel
theorem dX12_part_41 : decode cX12_part 41 = .ok (.iaload, 1) := by decide +kernel
theorem dX12_part_42 : decode cX12_part 42 = .ok (.ireturn, 1) := by decide +kernel
theorem dX12_take_0 : decode cX12_take 0 = .ok (.aload_n 0, 1) := by decide +kernel
theorem dX12_take_1 : decode cX12_take 1 = .ok (.invokevirtual 158, 3) := by decide +kernel
theorem dX12_take_4 : decode cX12_take 4 = .ok (.ifCond .eq 6, 3) := by decide +kernel
theorem dX12_take_7 : decode cX12_take 7 = .ok (.bipush (-8), 2) := by decide +kernel
theorem dX12_take_9 : decode cX12_take 9 = .ok (.ireturn, 1) := by decide +kernel
theorem dX12_take_10 : decode cX12_take 10 = .ok (.aload_n 0, 1) := by decide +kernel
theorem dX12_take_11 : decode cX12_take 11 = .ok (.invokevirtual 161, 3) := by decide +kernel
theorem dX12_take_14 : decode cX12_take 14 = .ok (.iconst 0, 1) := by decide +kernel
theorem dX12_take_15 : decode cX12_take 15 = .ok (.istore_n 1, 1) := by decide +kernel
theorem dX12_take_16 : decode cX12_take 16 = .ok (.iload_n 1, 1) := by decide +kernel
theorem dX12_take_17 : decode cX12_take 17 = .ok (.aload_n 0, 1) := by decide +kernel
theorem dX12_take_18 : decode cX12_take 18 = .ok (.getfield 9, 3) := by decide +kernel
theorem dX12_take_21 : decode cX12_take 21 = .ok (.if_icmp .ge 35, 3) := by decide +kernel
theorem dX12_take_24 : decode cX12_take 24 = .ok (.aload_n 0, 1) := by decide +kernel
theorem dX12_take_25 : decode cX12_take 25 = .ok (.getfield 15, 3) := by decide +kernel
theorem dX12_take_28 : decode cX12_take 28 = .ok (.iload_n 1, 1) := by decide +kernel
theorem dX12_take_29 : decode cX12_take 29 = .ok (.dup2, 1) := by decide +kernel
theorem dX12_take_30 : decode cX12_take 30 = .ok (.iaload, 1) := by decide +kernel
theorem dX12_take_31 : decode cX12_take 31 = .ok (.aload_n 0, 1) := by decide +kernel
theorem dX12_take_32 : decode cX12_take 32 = .ok (.getfield 140, 3) := by decide +kernel
theorem dX12_take_35 : decode cX12_take 35 = .ok (.ifCond .ne 7, 3) := by decide +kernel
theorem dX12_take_38 : decode cX12_take 38 = .ok (.iconst 0, 1) := by decide +kernel
theorem dX12_take_39 : decode cX12_take 39 = .ok (.goto 9, 3) := by decide +kernel
theorem dX12_take_42 : decode cX12_take 42 = .ok (.aload_n 0, 1) := by decide +kernel
theorem dX12_take_43 : decode cX12_take 43 = .ok (.getfield 49, 3) := by decide +kernel
theorem dX12_take_46 : decode cX12_take 46 = .ok (.iload_n 1, 1) := by decide +kernel
theorem dX12_take_47 : decode cX12_take 47 = .ok (.iaload, 1) := by decide +kernel
theorem dX12_take_48 : decode cX12_take 48 = .ok (.isub, 1) := by decide +kernel
theorem dX12_take_49 : decode cX12_take 49 = .ok (.iastore, 1) := by decide +kernel
theorem dX12_take_50 : decode cX12_take 50 = .ok (.iinc 1 1, 3) := by decide +kernel
theorem dX12_take_53 : decode cX12_take 53 = .ok (.goto (-37), 3) := by decide +kernel
theorem dX12_take_56 : decode cX12_take 56 = .ok (.aload_n 0, 1) := by decide +kernel
theorem dX12_take_57 : decode cX12_take 57 = .ok (.getfield 140, 3) := by decide +kernel
theorem dX12_take_60 : decode cX12_take 60 = .ok (.ifCond .ne 8, 3) := by decide +kernel
theorem dX12_take_63 : decode cX12_take 63 = .ok (.bipush (-5), 2) := by decide +kernel
theorem dX12_take_65 : decode cX12_take 65 = .ok (.goto 7, 3) := by decide +kernel
theorem dX12_take_68 : decode cX12_take 68 = .ok (.aload_n 0, 1) := by decide +kernel
theorem dX12_take_69 : decode cX12_take 69 = .ok (.getfield 143, 3) := by decide +kernel
theorem dX12_take_72 : decode cX12_take 72 = .ok (.ireturn, 1) := by decide +kernel
theorem dX12_pieces_0 : decode cX12_pieces 0 = .ok (.aload_n 0, 1) := by decide +kernel
theorem dX12_pieces_1 : decode cX12_pieces 1 = .ok (.invokevirtual 158, 3) := by decide +kernel
theorem dX12_pieces_4 : decode cX12_pieces 4 = .ok (.ifCond .eq 6, 3) := by decide +kernel
theorem dX12_pieces_7 : decode cX12_pieces 7 = .ok (.bipush (-8), 2) := by decide +kernel
theorem dX12_pieces_9 : decode cX12_pieces 9 = .ok (.ireturn, 1) := by decide +kernel
theorem dX12_pieces_10 : decode cX12_pieces 10 = .ok (.aload_n 0, 1) := by decide +kernel
theorem dX12_pieces_11 : decode cX12_pieces 11 = .ok (.invokevirtual 161, 3) := by decide +kernel
theorem dX12_pieces_14 : decode cX12_pieces 14 = .ok (.iconst 0, 1) := by decide +kernel
theorem dX12_pieces_15 : decode cX12_pieces 15 = .ok (.istore_n 1, 1) := by decide +kernel
theorem dX12_pieces_16 : decode cX12_pieces 16 = .ok (.aload_n 0, 1) := by decide +kernel
theorem dX12_pieces_17 : decode cX12_pieces 17 = .ok (.getfield 140, 3) := by decide +kernel
theorem dX12_pieces_20 : decode cX12_pieces 20 = .ok (.ifCond .le 44, 3) := by decide +kernel
theorem dX12_pieces_23 : decode cX12_pieces 23 = .ok (.iinc 1 1, 3) := by decide +kernel
theorem dX12_pieces_26 : decode cX12_pieces 26 = .ok (.iconst 0, 1) := by decide +kernel
theorem dX12_pieces_27 : decode cX12_pieces 27 = .ok (.istore_n 2, 1) := by decide +kernel
theorem dX12_pieces_28 : decode cX12_pieces 28 = .ok (.iload_n 2, 1) := by decide +kernel
theorem dX12_pieces_29 : decode cX12_pieces 29 = .ok (.aload_n 0, 1) := by decide +kernel
theorem dX12_pieces_30 : decode cX12_pieces 30 = .ok (.getfield 9, 3) := by decide +kernel
theorem dX12_pieces_33 : decode cX12_pieces 33 = .ok (.if_icmp .ge 24, 3) := by decide +kernel
theorem dX12_pieces_36 : decode cX12_pieces 36 = .ok (.aload_n 0, 1) := by decide +kernel
theorem dX12_pieces_37 : decode cX12_pieces 37 = .ok (.getfield 52, 3) := by decide +kernel
theorem dX12_pieces_40 : decode cX12_pieces 40 = .ok (.iload_n 2, 1) := by decide +kernel
theorem dX12_pieces_41 : decode cX12_pieces 41 = .ok (.dup2, 1) := by decide +kernel
theorem dX12_pieces_42 : decode cX12_pieces 42 = .ok (.iaload, 1) := by decide +kernel
theorem dX12_pieces_43 : decode cX12_pieces 43 = .ok (.aload_n 0, 1) := by decide +kernel
theorem dX12_pieces_44 : decode cX12_pieces 44 = .ok (.getfield 49, 3) := by decide +kernel
theorem dX12_pieces_47 : decode cX12_pieces 47 = .ok (.iload_n 2, 1) := by decide +kernel
theorem dX12_pieces_48 : decode cX12_pieces 48 = .ok (.iaload, 1) := by decide +kernel
theorem dX12_pieces_49 : decode cX12_pieces 49 = .ok (.isub, 1) := by decide +kernel
theorem dX12_pieces_50 : decode cX12_pieces 50 = .ok (.iastore, 1) := by decide +kernel
theorem dX12_pieces_51 : decode cX12_pieces 51 = .ok (.iinc 2 1, 3) := by decide +kernel
theorem dX12_pieces_54 : decode cX12_pieces 54 = .ok (.goto (-26), 3) := by decide +kernel
theorem dX12_pieces_57 : decode cX12_pieces 57 = .ok (.aload_n 0, 1) := by decide +kernel
theorem dX12_pieces_58 : decode cX12_pieces 58 = .ok (.invokevirtual 155, 3) := by decide +kernel
theorem dX12_pieces_61 : decode cX12_pieces 61 = .ok (.goto (-45), 3) := by decide +kernel
theorem dX12_pieces_64 : decode cX12_pieces 64 = .ok (.iload_n 1, 1) := by decide +kernel
theorem dX12_pieces_65 : decode cX12_pieces 65 = .ok (.ireturn, 1) := by decide +kernel
theorem dX12_common_0 : decode cX12_common 0 = .ok (.iload_n 0, 1) := by decide +kernel
theorem dX12_common_1 : decode cX12_common 1 = .ok (.istore_n 2, 1) := by decide +kernel
theorem dX12_common_2 : decode cX12_common 2 = .ok (.iload_n 1, 1) := by decide +kernel
theorem dX12_common_3 : decode cX12_common 3 = .ok (.istore_n 3, 1) := by decide +kernel
theorem dX12_common_4 : decode cX12_common 4 = .ok (.iload_n 3, 1) := by decide +kernel
theorem dX12_common_5 : decode cX12_common 5 = .ok (.ifCond .eq 16, 3) := by decide +kernel
theorem dX12_common_8 : decode cX12_common 8 = .ok (.iload_n 2, 1) := by decide +kernel
theorem dX12_common_9 : decode cX12_common 9 = .ok (.iload_n 3, 1) := by decide +kernel
theorem dX12_common_10 : decode cX12_common 10 = .ok (.irem, 1) := by decide +kernel
theorem dX12_common_11 : decode cX12_common 11 = .ok (.istore 4, 2) := by decide +kernel
theorem dX12_common_13 : decode cX12_common 13 = .ok (.iload_n 3, 1) := by decide +kernel
theorem dX12_common_14 : decode cX12_common 14 = .ok (.istore_n 2, 1) := by decide +kernel
theorem dX12_common_15 : decode cX12_common 15 = .ok (.iload 4, 2) := by decide +kernel
theorem dX12_common_17 : decode cX12_common 17 = .ok (.istore_n 3, 1) := by decide +kernel
theorem dX12_common_18 : decode cX12_common 18 = .ok (.goto (-14), 3) := by decide +kernel
theorem dX12_common_21 : decode cX12_common 21 = .ok (.iload_n 2, 1) := by decide +kernel
theorem dX12_common_22 : decode cX12_common 22 = .ok (.ireturn, 1) := by decide +kernel
theorem dX12_isPrime_0 : decode cX12_isPrime 0 = .ok (.iload_n 1, 1) := by decide +kernel
theorem dX12_isPrime_1 : decode cX12_isPrime 1 = .ok (.i2l, 1) := by decide +kernel
theorem dX12_isPrime_2 : decode cX12_isPrime 2 = .ok (.ldc2_w 101, 3) := by decide +kernel
theorem dX12_isPrime_5 : decode cX12_isPrime 5 = .ok (.aload_n 0, 1) := by decide +kernel
theorem dX12_isPrime_6 : decode cX12_isPrime 6 = .ok (.getfield 9, 3) := by decide +kernel
theorem dX12_isPrime_9 : decode cX12_isPrime 9 = .ok (.i2l, 1) := by decide +kernel
theorem dX12_isPrime_10 : decode cX12_isPrime 10 = .ok (.invokestatic 97, 3) := by decide +kernel
theorem dX12_isPrime_13 : decode cX12_isPrime 13 = .ok (.ifCond .eq 16, 3) := by decide +kernel
theorem dX12_isPrime_16 : decode cX12_isPrime 16 = .ok (.aload_n 0, 1) := by decide +kernel
theorem dX12_isPrime_17 : decode cX12_isPrime 17 = .ok (.getfield 9, 3) := by decide +kernel
theorem dX12_isPrime_20 : decode cX12_isPrime 20 = .ok (.iload_n 1, 1) := by decide +kernel
theorem dX12_isPrime_21 : decode cX12_isPrime 21 = .ok (.irem, 1) := by decide +kernel
theorem dX12_isPrime_22 : decode cX12_isPrime 22 = .ok (.ifCond .ne 7, 3) := by decide +kernel
theorem dX12_isPrime_25 : decode cX12_isPrime 25 = .ok (.iconst 1, 1) := by decide +kernel
theorem dX12_isPrime_26 : decode cX12_isPrime 26 = .ok (.goto 4, 3) := by decide +kernel
theorem dX12_isPrime_29 : decode cX12_isPrime 29 = .ok (.iconst 0, 1) := by decide +kernel
theorem dX12_isPrime_30 : decode cX12_isPrime 30 = .ok (.istore_n 2, 1) := by decide +kernel
theorem dX12_isPrime_31 : decode cX12_isPrime 31 = .ok (.iconst 2, 1) := by decide +kernel
theorem dX12_isPrime_32 : decode cX12_isPrime 32 = .ok (.istore_n 3, 1) := by decide +kernel
theorem dX12_isPrime_33 : decode cX12_isPrime 33 = .ok (.iload_n 2, 1) := by decide +kernel
theorem dX12_isPrime_34 : decode cX12_isPrime 34 = .ok (.ifCond .eq 26, 3) := by decide +kernel
theorem dX12_isPrime_37 : decode cX12_isPrime 37 = .ok (.iload_n 3, 1) := by decide +kernel
theorem dX12_isPrime_38 : decode cX12_isPrime 38 = .ok (.iload_n 1, 1) := by decide +kernel
theorem dX12_isPrime_39 : decode cX12_isPrime 39 = .ok (.if_icmp .ge 21, 3) := by decide +kernel
theorem dX12_isPrime_42 : decode cX12_isPrime 42 = .ok (.iload_n 1, 1) := by decide +kernel
theorem dX12_isPrime_43 : decode cX12_isPrime 43 = .ok (.iload_n 3, 1) := by decide +kernel
theorem dX12_isPrime_44 : decode cX12_isPrime 44 = .ok (.irem, 1) := by decide +kernel
theorem dX12_isPrime_45 : decode cX12_isPrime 45 = .ok (.ifCond .eq 7, 3) := by decide +kernel
theorem dX12_isPrime_48 : decode cX12_isPrime 48 = .ok (.iconst 1, 1) := by decide +kernel
theorem dX12_isPrime_49 : decode cX12_isPrime 49 = .ok (.goto 4, 3) := by decide +kernel
theorem dX12_isPrime_52 : decode cX12_isPrime 52 = .ok (.iconst 0, 1) := by decide +kernel
theorem dX12_isPrime_53 : decode cX12_isPrime 53 = .ok (.istore_n 2, 1) := by decide +kernel
theorem dX12_isPrime_54 : decode cX12_isPrime 54 = .ok (.iinc 3 1, 3) := by decide +kernel
theorem dX12_isPrime_57 : decode cX12_isPrime 57 = .ok (.goto (-24), 3) := by decide +kernel
theorem dX12_isPrime_60 : decode cX12_isPrime 60 = .ok (.iload_n 2, 1) := by decide +kernel
theorem dX12_isPrime_61 : decode cX12_isPrime 61 = .ok (.ireturn, 1) := by decide +kernel
theorem dX12_can_0 : decode cX12_can 0 = .ok (.iload_n 1, 1) := by decide +kernel
theorem dX12_can_1 : decode cX12_can 1 = .ok (.iconst 1, 1) := by decide +kernel
theorem dX12_can_2 : decode cX12_can 2 = .ok (.if_icmp .ne 35, 3) := by decide +kernel
theorem dX12_can_5 : decode cX12_can 5 = .ok (.iload_n 2, 1) := by decide +kernel
theorem dX12_can_6 : decode cX12_can 6 = .ok (.i2l, 1) := by decide +kernel
theorem dX12_can_7 : decode cX12_can 7 = .ok (.lconst 1, 1) := by decide +kernel
theorem dX12_can_8 : decode cX12_can 8 = .ok (.ldc2_w 164, 3) := by decide +kernel
theorem dX12_can_11 : decode cX12_can 11 = .ok (.invokestatic 97, 3) := by decide +kernel
theorem dX12_can_14 : decode cX12_can 14 = .ok (.ifCond .eq 19, 3) := by decide +kernel
theorem dX12_can_17 : decode cX12_can 17 = .ok (.iload_n 2, 1) := by decide +kernel
theorem dX12_can_18 : decode cX12_can 18 = .ok (.aload_n 0, 1) := by decide +kernel
theorem dX12_can_19 : decode cX12_can 19 = .ok (.getfield 9, 3) := by decide +kernel
theorem dX12_can_22 : decode cX12_can 22 = .ok (.invokestatic 166, 3) := by decide +kernel
theorem dX12_can_25 : decode cX12_can 25 = .ok (.iconst 1, 1) := by decide +kernel
theorem dX12_can_26 : decode cX12_can 26 = .ok (.if_icmp .ne 7, 3) := by decide +kernel
theorem dX12_can_29 : decode cX12_can 29 = .ok (.iconst 1, 1) := by decide +kernel
theorem dX12_can_30 : decode cX12_can 30 = .ok (.goto 25, 3) := by decide +kernel
theorem dX12_can_33 : decode cX12_can 33 = .ok (.iconst 0, 1) := by decide +kernel
theorem dX12_can_34 : decode cX12_can 34 = .ok (.goto 21, 3) := by decide +kernel
theorem dX12_can_37 : decode cX12_can 37 = .ok (.iload_n 1, 1) := by decide +kernel
theorem dX12_can_38 : decode cX12_can 38 = .ok (.iconst 3, 1) := by decide +kernel
theorem dX12_can_39 : decode cX12_can 39 = .ok (.if_icmp .ne 11, 3) := by decide +kernel
theorem dX12_can_42 : decode cX12_can 42 = .ok (.aload_n 0, 1) := by decide +kernel
theorem dX12_can_43 : decode cX12_can 43 = .ok (.iload_n 2, 1) := by decide +kernel
theorem dX12_can_44 : decode cX12_can 44 = .ok (.invokevirtual 170, 3) := by decide +kernel
theorem dX12_can_47 : decode cX12_can 47 = .ok (.ifCond .eq 7, 3) := by decide +kernel
theorem dX12_can_50 : decode cX12_can 50 = .ok (.iconst 1, 1) := by decide +kernel
theorem dX12_can_51 : decode cX12_can 51 = .ok (.goto 4, 3) := by decide +kernel
theorem dX12_can_54 : decode cX12_can 54 = .ok (.iconst 0, 1) := by decide +kernel
theorem dX12_can_55 : decode cX12_can 55 = .ok (.ireturn, 1) := by decide +kernel
theorem dX12_comesTo_0 : decode cX12_comesTo 0 = .ok (.iload_n 1, 1) := by decide +kernel
theorem dX12_comesTo_1 : decode cX12_comesTo 1 = .ok (.lookupswitch 74 #[(0, 27), (2, 62)], 27) := by decide +kernel
theorem dX12_comesTo_28 : decode cX12_comesTo 28 = .ok (.iload_n 3, 1) := by decide +kernel
theorem dX12_comesTo_29 : decode cX12_comesTo 29 = .ok (.i2l, 1) := by decide +kernel
theorem dX12_comesTo_30 : decode cX12_comesTo 30 = .ok (.iload_n 2, 1) := by decide +kernel
theorem dX12_comesTo_31 : decode cX12_comesTo 31 = .ok (.i2l, 1) := by decide +kernel
theorem dX12_comesTo_32 : decode cX12_comesTo 32 = .ok (.ladd, 1) := by decide +kernel
theorem dX12_comesTo_33 : decode cX12_comesTo 33 = .ok (.aload_n 0, 1) := by decide +kernel
theorem dX12_comesTo_34 : decode cX12_comesTo 34 = .ok (.getfield 9, 3) := by decide +kernel
theorem dX12_comesTo_37 : decode cX12_comesTo 37 = .ok (.i2l, 1) := by decide +kernel
theorem dX12_comesTo_38 : decode cX12_comesTo 38 = .ok (.lrem, 1) := by decide +kernel
theorem dX12_comesTo_39 : decode cX12_comesTo 39 = .ok (.lstore 4, 2) := by decide +kernel
theorem dX12_comesTo_41 : decode cX12_comesTo 41 = .ok (.lload 4, 2) := by decide +kernel
theorem dX12_comesTo_43 : decode cX12_comesTo 43 = .ok (.lconst 0, 1) := by decide +kernel
theorem dX12_comesTo_44 : decode cX12_comesTo 44 = .ok (.lcmp, 1) := by decide +kernel
theorem dX12_comesTo_45 : decode cX12_comesTo 45 = .ok (.ifCond .ge 14, 3) := by decide +kernel
theorem dX12_comesTo_48 : decode cX12_comesTo 48 = .ok (.lload 4, 2) := by decide +kernel
theorem dX12_comesTo_50 : decode cX12_comesTo 50 = .ok (.aload_n 0, 1) := by decide +kernel
theorem dX12_comesTo_51 : decode cX12_comesTo 51 = .ok (.getfield 9, 3) := by decide +kernel
theorem dX12_comesTo_54 : decode cX12_comesTo 54 = .ok (.i2l, 1) := by decide +kernel
theorem dX12_comesTo_55 : decode cX12_comesTo 55 = .ok (.ladd, 1) := by decide +kernel
theorem dX12_comesTo_56 : decode cX12_comesTo 56 = .ok (.goto 5, 3) := by decide +kernel
theorem dX12_comesTo_59 : decode cX12_comesTo 59 = .ok (.lload 4, 2) := by decide +kernel
theorem dX12_comesTo_61 : decode cX12_comesTo 61 = .ok (.l2i, 1) := by decide +kernel
theorem dX12_comesTo_62 : decode cX12_comesTo 62 = .ok (.ireturn, 1) := by decide +kernel
theorem dX12_comesTo_63 : decode cX12_comesTo 63 = .ok (.aload_n 0, 1) := by decide +kernel
theorem dX12_comesTo_64 : decode cX12_comesTo 64 = .ok (.getfield 9, 3) := by decide +kernel
theorem dX12_comesTo_67 : decode cX12_comesTo 67 = .ok (.iload_n 3, 1) := by decide +kernel
theorem dX12_comesTo_68 : decode cX12_comesTo 68 = .ok (.isub, 1) := by decide +kernel
theorem dX12_comesTo_69 : decode cX12_comesTo 69 = .ok (.aload_n 0, 1) := by decide +kernel
theorem dX12_comesTo_70 : decode cX12_comesTo 70 = .ok (.getfield 9, 3) := by decide +kernel
theorem dX12_comesTo_73 : decode cX12_comesTo 73 = .ok (.irem, 1) := by decide +kernel
theorem dX12_comesTo_74 : decode cX12_comesTo 74 = .ok (.ireturn, 1) := by decide +kernel
theorem dX12_comesTo_75 : decode cX12_comesTo 75 = .ok (.iload_n 3, 1) := by decide +kernel
theorem dX12_comesTo_76 : decode cX12_comesTo 76 = .ok (.iload_n 2, 1) := by decide +kernel
theorem dX12_comesTo_77 : decode cX12_comesTo 77 = .ok (.imul, 1) := by decide +kernel
theorem dX12_comesTo_78 : decode cX12_comesTo 78 = .ok (.aload_n 0, 1) := by decide +kernel
theorem dX12_comesTo_79 : decode cX12_comesTo 79 = .ok (.getfield 9, 3) := by decide +kernel
theorem dX12_comesTo_82 : decode cX12_comesTo 82 = .ok (.irem, 1) := by decide +kernel
theorem dX12_comesTo_83 : decode cX12_comesTo 83 = .ok (.ireturn, 1) := by decide +kernel
theorem dX12_changes_0 : decode cX12_changes 0 = .ok (.iconst 0, 1) := by decide +kernel
theorem dX12_changes_1 : decode cX12_changes 1 = .ok (.istore_n 3, 1) := by decide +kernel
theorem dX12_changes_2 : decode cX12_changes 2 = .ok (.iload_n 3, 1) := by decide +kernel
theorem dX12_changes_3 : decode cX12_changes 3 = .ok (.bipush 30, 2) := by decide +kernel
theorem dX12_changes_5 : decode cX12_changes 5 = .ok (.if_icmp .ge 16, 3) := by decide +kernel
theorem dX12_changes_8 : decode cX12_changes 8 = .ok (.aload_n 0, 1) := by decide +kernel
theorem dX12_changes_9 : decode cX12_changes 9 = .ok (.getfield 55, 3) := by decide +kernel
theorem dX12_changes_12 : decode cX12_changes 12 = .ok (.iload_n 3, 1) := by decide +kernel
theorem dX12_changes_13 : decode cX12_changes 13 = .ok (.iconst 0, 1) := by decide +kernel
theorem dX12_changes_14 : decode cX12_changes 14 = .ok (.iastore, 1) := by decide +kernel
theorem dX12_changes_15 : decode cX12_changes 15 = .ok (.iinc 3 1, 3) := by decide +kernel
theorem dX12_changes_18 : decode cX12_changes 18 = .ok (.goto (-16), 3) := by decide +kernel
theorem dX12_changes_21 : decode cX12_changes 21 = .ok (.iconst 1, 1) := by decide +kernel
theorem dX12_changes_22 : decode cX12_changes 22 = .ok (.istore_n 3, 1) := by decide +kernel
theorem dX12_changes_23 : decode cX12_changes 23 = .ok (.iconst 0, 1) := by decide +kernel
theorem dX12_changes_24 : decode cX12_changes 24 = .ok (.istore 4, 2) := by decide +kernel
theorem dX12_changes_26 : decode cX12_changes 26 = .ok (.iload 4, 2) := by decide +kernel
theorem dX12_changes_28 : decode cX12_changes 28 = .ok (.aload_n 0, 1) := by decide +kernel
theorem dX12_changes_29 : decode cX12_changes 29 = .ok (.getfield 9, 3) := by decide +kernel
theorem dX12_changes_32 : decode cX12_changes 32 = .ok (.if_icmp .ge 56, 3) := by decide +kernel
theorem dX12_changes_35 : decode cX12_changes 35 = .ok (.aload_n 0, 1) := by decide +kernel
theorem dX12_changes_36 : decode cX12_changes 36 = .ok (.iload_n 1, 1) := by decide +kernel
theorem dX12_changes_37 : decode cX12_changes 37 = .ok (.iload_n 2, 1) := by decide +kernel
theorem dX12_changes_38 : decode cX12_changes 38 = .ok (.iload 4, 2) := by decide +kernel
theorem dX12_changes_40 : decode cX12_changes 40 = .ok (.invokevirtual 173, 3) := by decide +kernel
theorem dX12_changes_43 : decode cX12_changes 43 = .ok (.istore 5, 2) := by decide +kernel
theorem dX12_changes_45 : decode cX12_changes 45 = .ok (.aload_n 0, 1) := by decide +kernel
theorem dX12_changes_46 : decode cX12_changes 46 = .ok (.getfield 55, 3) := by decide +kernel
theorem dX12_changes_49 : decode cX12_changes 49 = .ok (.iload 5, 2) := by decide +kernel
theorem dX12_changes_51 : decode cX12_changes 51 = .ok (.dup2, 1) := by decide +kernel
theorem dX12_changes_52 : decode cX12_changes 52 = .ok (.iaload, 1) := by decide +kernel
theorem dX12_changes_53 : decode cX12_changes 53 = .ok (.aload_n 0, 1) := by decide +kernel
theorem dX12_changes_54 : decode cX12_changes 54 = .ok (.getfield 15, 3) := by decide +kernel
theorem dX12_changes_57 : decode cX12_changes 57 = .ok (.iload 4, 2) := by decide +kernel
theorem dX12_changes_59 : decode cX12_changes 59 = .ok (.iaload, 1) := by decide +kernel
theorem dX12_changes_60 : decode cX12_changes 60 = .ok (.iadd, 1) := by decide +kernel
theorem dX12_changes_61 : decode cX12_changes 61 = .ok (.iastore, 1) := by decide +kernel
theorem dX12_changes_62 : decode cX12_changes 62 = .ok (.iload_n 3, 1) := by decide +kernel
theorem dX12_changes_63 : decode cX12_changes 63 = .ok (.aload_n 0, 1) := by decide +kernel
theorem dX12_changes_64 : decode cX12_changes 64 = .ok (.getfield 55, 3) := by decide +kernel
theorem dX12_changes_67 : decode cX12_changes 67 = .ok (.iload 5, 2) := by decide +kernel
theorem dX12_changes_69 : decode cX12_changes 69 = .ok (.iaload, 1) := by decide +kernel
theorem dX12_changes_70 : decode cX12_changes 70 = .ok (.bipush 9, 2) := by decide +kernel
theorem dX12_changes_72 : decode cX12_changes 72 = .ok (.if_icmp .gt 7, 3) := by decide +kernel
theorem dX12_changes_75 : decode cX12_changes 75 = .ok (.iconst 1, 1) := by decide +kernel
theorem dX12_changes_76 : decode cX12_changes 76 = .ok (.goto 4, 3) := by decide +kernel
theorem dX12_changes_79 : decode cX12_changes 79 = .ok (.iconst 0, 1) := by decide +kernel
theorem dX12_changes_80 : decode cX12_changes 80 = .ok (.iand, 1) := by decide +kernel
theorem dX12_changes_81 : decode cX12_changes 81 = .ok (.istore_n 3, 1) := by decide +kernel
theorem dX12_changes_82 : decode cX12_changes 82 = .ok (.iinc 4 1, 3) := by decide +kernel
theorem dX12_changes_85 : decode cX12_changes 85 = .ok (.goto (-59), 3) := by decide +kernel
theorem dX12_changes_88 : decode cX12_changes 88 = .ok (.iconst 0, 1) := by decide +kernel
theorem dX12_changes_89 : decode cX12_changes 89 = .ok (.istore 4, 2) := by decide +kernel
theorem dX12_changes_91 : decode cX12_changes 91 = .ok (.iload 4, 2) := by decide +kernel
theorem dX12_changes_93 : decode cX12_changes 93 = .ok (.aload_n 0, 1) := by decide +kernel
theorem dX12_changes_94 : decode cX12_changes 94 = .ok (.getfield 9, 3) := by decide +kernel
theorem dX12_changes_97 : decode cX12_changes 97 = .ok (.if_icmp .ge 37, 3) := by decide +kernel
theorem dX12_changes_100 : decode cX12_changes 100 = .ok (.aload_n 0, 1) := by decide +kernel
theorem dX12_changes_101 : decode cX12_changes 101 = .ok (.getfield 15, 3) := by decide +kernel
theorem dX12_changes_104 : decode cX12_changes 104 = .ok (.iload 4, 2) := by decide +kernel
theorem dX12_changes_106 : decode cX12_changes 106 = .ok (.iload_n 3, 1) := by decide +kernel
theorem dX12_changes_107 : decode cX12_changes 107 = .ok (.ifCond .eq 13, 3) := by decide +kernel
theorem dX12_changes_110 : decode cX12_changes 110 = .ok (.aload_n 0, 1) := by decide +kernel
theorem dX12_changes_111 : decode cX12_changes 111 = .ok (.getfield 55, 3) := by decide +kernel
theorem dX12_changes_114 : decode cX12_changes 114 = .ok (.iload 4, 2) := by decide +kernel
theorem dX12_changes_116 : decode cX12_changes 116 = .ok (.iaload, 1) := by decide +kernel
theorem dX12_changes_117 : decode cX12_changes 117 = .ok (.goto 10, 3) := by decide +kernel
theorem dX12_changes_120 : decode cX12_changes 120 = .ok (.aload_n 0, 1) := by decide +kernel
theorem dX12_changes_121 : decode cX12_changes 121 = .ok (.getfield 15, 3) := by decide +kernel
theorem dX12_changes_124 : decode cX12_changes 124 = .ok (.iload 4, 2) := by decide +kernel
theorem dX12_changes_126 : decode cX12_changes 126 = .ok (.iaload, 1) := by decide +kernel
theorem dX12_changes_127 : decode cX12_changes 127 = .ok (.iastore, 1) := by decide +kernel
theorem dX12_changes_128 : decode cX12_changes 128 = .ok (.iinc 4 1, 3) := by decide +kernel
theorem dX12_changes_131 : decode cX12_changes 131 = .ok (.goto (-40), 3) := by decide +kernel
theorem dX12_changes_134 : decode cX12_changes 134 = .ok (.iload_n 3, 1) := by decide +kernel
theorem dX12_changes_135 : decode cX12_changes 135 = .ok (.ireturn, 1) := by decide +kernel
theorem dX12_turn_0 : decode cX12_turn 0 = .ok (.aload_n 0, 1) := by decide +kernel
theorem dX12_turn_1 : decode cX12_turn 1 = .ok (.iconst 0, 1) := by decide +kernel
theorem dX12_turn_2 : decode cX12_turn 2 = .ok (.iload_n 1, 1) := by decide +kernel
theorem dX12_turn_3 : decode cX12_turn 3 = .ok (.invokevirtual 177, 3) := by decide +kernel
theorem dX12_turn_6 : decode cX12_turn 6 = .ok (.istore_n 2, 1) := by decide +kernel
theorem dX12_turn_7 : decode cX12_turn 7 = .ok (.aload_n 0, 1) := by decide +kernel
theorem dX12_turn_8 : decode cX12_turn 8 = .ok (.getfield 15, 3) := by decide +kernel
theorem dX12_turn_11 : decode cX12_turn 11 = .ok (.iconst 0, 1) := by decide +kernel
theorem dX12_turn_12 : decode cX12_turn 12 = .ok (.iaload, 1) := by decide +kernel
theorem dX12_turn_13 : decode cX12_turn 13 = .ok (.ireturn, 1) := by decide +kernel
theorem dX12_times_0 : decode cX12_times 0 = .ok (.iload_n 1, 1) := by decide +kernel
theorem dX12_times_1 : decode cX12_times 1 = .ok (.i2l, 1) := by decide +kernel
theorem dX12_times_2 : decode cX12_times 2 = .ok (.lconst 1, 1) := by decide +kernel
theorem dX12_times_3 : decode cX12_times 3 = .ok (.ldc2_w 164, 3) := by decide +kernel
theorem dX12_times_6 : decode cX12_times 6 = .ok (.invokestatic 97, 3) := by decide +kernel
theorem dX12_times_9 : decode cX12_times 9 = .ok (.ifCond .ne 6, 3) := by decide +kernel
theorem dX12_times_12 : decode cX12_times 12 = .ok (.bipush (-2), 2) := by decide +kernel
theorem dX12_times_14 : decode cX12_times 14 = .ok (.ireturn, 1) := by decide +kernel
theorem dX12_times_15 : decode cX12_times 15 = .ok (.aload_n 0, 1) := by decide +kernel
theorem dX12_times_16 : decode cX12_times 16 = .ok (.iconst 1, 1) := by decide +kernel
theorem dX12_times_17 : decode cX12_times 17 = .ok (.iload_n 1, 1) := by decide +kernel
theorem dX12_times_18 : decode cX12_times 18 = .ok (.invokevirtual 181, 3) := by decide +kernel
theorem dX12_times_21 : decode cX12_times 21 = .ok (.ifCond .ne 6, 3) := by decide +kernel
theorem dX12_times_24 : decode cX12_times 24 = .ok (.bipush (-3), 2) := by decide +kernel
theorem dX12_times_26 : decode cX12_times 26 = .ok (.ireturn, 1) := by decide +kernel
theorem dX12_times_27 : decode cX12_times 27 = .ok (.aload_n 0, 1) := by decide +kernel
theorem dX12_times_28 : decode cX12_times 28 = .ok (.iconst 1, 1) := by decide +kernel
theorem dX12_times_29 : decode cX12_times 29 = .ok (.iload_n 1, 1) := by decide +kernel
theorem dX12_times_30 : decode cX12_times 30 = .ok (.invokevirtual 177, 3) := by decide +kernel
theorem dX12_times_33 : decode cX12_times 33 = .ok (.istore_n 2, 1) := by decide +kernel
theorem dX12_times_34 : decode cX12_times 34 = .ok (.aload_n 0, 1) := by decide +kernel
theorem dX12_times_35 : decode cX12_times 35 = .ok (.getfield 15, 3) := by decide +kernel
theorem dX12_times_38 : decode cX12_times 38 = .ok (.iconst 0, 1) := by decide +kernel
theorem dX12_times_39 : decode cX12_times 39 = .ok (.iaload, 1) := by decide +kernel
theorem dX12_times_40 : decode cX12_times 40 = .ok (.ireturn, 1) := by decide +kernel
theorem dX12_mirror_0 : decode cX12_mirror 0 = .ok (.aload_n 0, 1) := by decide +kernel
theorem dX12_mirror_1 : decode cX12_mirror 1 = .ok (.iconst 2, 1) := by decide +kernel
theorem dX12_mirror_2 : decode cX12_mirror 2 = .ok (.iconst 0, 1) := by decide +kernel
theorem dX12_mirror_3 : decode cX12_mirror 3 = .ok (.invokevirtual 177, 3) := by decide +kernel
theorem dX12_mirror_6 : decode cX12_mirror 6 = .ok (.istore_n 1, 1) := by decide +kernel
theorem dX12_mirror_7 : decode cX12_mirror 7 = .ok (.aload_n 0, 1) := by decide +kernel
theorem dX12_mirror_8 : decode cX12_mirror 8 = .ok (.getfield 15, 3) := by decide +kernel
theorem dX12_mirror_11 : decode cX12_mirror 11 = .ok (.iconst 0, 1) := by decide +kernel
theorem dX12_mirror_12 : decode cX12_mirror 12 = .ok (.iaload, 1) := by decide +kernel
theorem dX12_mirror_13 : decode cX12_mirror 13 = .ok (.ireturn, 1) := by decide +kernel
theorem dX12_raise_0 : decode cX12_raise 0 = .ok (.aload_n 0, 1) := by decide +kernel
theorem dX12_raise_1 : decode cX12_raise 1 = .ok (.iload_n 1, 1) := by decide +kernel
theorem dX12_raise_2 : decode cX12_raise 2 = .ok (.invokevirtual 170, 3) := by decide +kernel
theorem dX12_raise_5 : decode cX12_raise 5 = .ok (.ifCond .ne 5, 3) := by decide +kernel
theorem dX12_raise_8 : decode cX12_raise 8 = .ok (.iconst (-1), 1) := by decide +kernel
theorem dX12_raise_9 : decode cX12_raise 9 = .ok (.ireturn, 1) := by decide +kernel
theorem dX12_raise_10 : decode cX12_raise 10 = .ok (.aload_n 0, 1) := by decide +kernel
theorem dX12_raise_11 : decode cX12_raise 11 = .ok (.iconst 3, 1) := by decide +kernel
theorem dX12_raise_12 : decode cX12_raise 12 = .ok (.iload_n 1, 1) := by decide +kernel
theorem dX12_raise_13 : decode cX12_raise 13 = .ok (.invokevirtual 177, 3) := by decide +kernel
theorem dX12_raise_16 : decode cX12_raise 16 = .ok (.ifCond .eq 12, 3) := by decide +kernel
theorem dX12_raise_19 : decode cX12_raise 19 = .ok (.aload_n 0, 1) := by decide +kernel
theorem dX12_raise_20 : decode cX12_raise 20 = .ok (.getfield 15, 3) := by decide +kernel
theorem dX12_raise_23 : decode cX12_raise 23 = .ok (.iconst 0, 1) := by decide +kernel
theorem dX12_raise_24 : decode cX12_raise 24 = .ok (.iaload, 1) := by decide +kernel
theorem dX12_raise_25 : decode cX12_raise 25 = .ok (.goto 5, 3) := by decide +kernel
theorem dX12_raise_28 : decode cX12_raise 28 = .ok (.bipush (-4), 2) := by decide +kernel
theorem dX12_raise_30 : decode cX12_raise 30 = .ok (.ireturn, 1) := by decide +kernel
theorem dX12_turned_0 : decode cX12_turned 0 = .ok (.aload_n 0, 1) := by decide +kernel
theorem dX12_turned_1 : decode cX12_turned 1 = .ok (.getfield 15, 3) := by decide +kernel
theorem dX12_turned_4 : decode cX12_turned 4 = .ok (.iload_n 2, 1) := by decide +kernel
theorem dX12_turned_5 : decode cX12_turned 5 = .ok (.iload_n 1, 1) := by decide +kernel
theorem dX12_turned_6 : decode cX12_turned 6 = .ok (.aload_n 0, 1) := by decide +kernel
theorem dX12_turned_7 : decode cX12_turned 7 = .ok (.getfield 9, 3) := by decide +kernel
theorem dX12_turned_10 : decode cX12_turned 10 = .ok (.irem, 1) := by decide +kernel
theorem dX12_turned_11 : decode cX12_turned 11 = .ok (.isub, 1) := by decide +kernel
theorem dX12_turned_12 : decode cX12_turned 12 = .ok (.aload_n 0, 1) := by decide +kernel
theorem dX12_turned_13 : decode cX12_turned 13 = .ok (.getfield 9, 3) := by decide +kernel
theorem dX12_turned_16 : decode cX12_turned 16 = .ok (.iadd, 1) := by decide +kernel
theorem dX12_turned_17 : decode cX12_turned 17 = .ok (.aload_n 0, 1) := by decide +kernel
theorem dX12_turned_18 : decode cX12_turned 18 = .ok (.getfield 9, 3) := by decide +kernel
theorem dX12_turned_21 : decode cX12_turned 21 = .ok (.irem, 1) := by decide +kernel
theorem dX12_turned_22 : decode cX12_turned 22 = .ok (.iaload, 1) := by decide +kernel
theorem dX12_turned_23 : decode cX12_turned 23 = .ok (.ireturn, 1) := by decide +kernel
theorem dX12_stays_0 : decode cX12_stays 0 = .ok (.iconst 1, 1) := by decide +kernel
theorem dX12_stays_1 : decode cX12_stays 1 = .ok (.istore_n 3, 1) := by decide +kernel
theorem dX12_stays_2 : decode cX12_stays 2 = .ok (.iconst 0, 1) := by decide +kernel
theorem dX12_stays_3 : decode cX12_stays 3 = .ok (.istore 4, 2) := by decide +kernel
theorem dX12_stays_5 : decode cX12_stays 5 = .ok (.iload 4, 2) := by decide +kernel
theorem dX12_stays_7 : decode cX12_stays 7 = .ok (.aload_n 0, 1) := by decide +kernel
theorem dX12_stays_8 : decode cX12_stays 8 = .ok (.getfield 9, 3) := by decide +kernel
theorem dX12_stays_11 : decode cX12_stays 11 = .ok (.if_icmp .ge 34, 3) := by decide +kernel
theorem dX12_stays_14 : decode cX12_stays 14 = .ok (.iload_n 3, 1) := by decide +kernel
theorem dX12_stays_15 : decode cX12_stays 15 = .ok (.aload_n 0, 1) := by decide +kernel
theorem dX12_stays_16 : decode cX12_stays 16 = .ok (.iload_n 1, 1) := by decide +kernel
theorem dX12_stays_17 : decode cX12_stays 17 = .ok (.iload 4, 2) := by decide +kernel
theorem dX12_stays_19 : decode cX12_stays 19 = .ok (.invokevirtual 184, 3) := by decide +kernel
theorem dX12_stays_22 : decode cX12_stays 22 = .ok (.aload_n 0, 1) := by decide +kernel
theorem dX12_stays_23 : decode cX12_stays 23 = .ok (.getfield 15, 3) := by decide +kernel
theorem dX12_stays_26 : decode cX12_stays 26 = .ok (.iload 4, 2) := by decide +kernel
theorem dX12_stays_28 : decode cX12_stays 28 = .ok (.iaload, 1) := by decide +kernel
theorem dX12_stays_29 : decode cX12_stays 29 = .ok (.if_icmp .ne 7, 3) := by decide +kernel
theorem dX12_stays_32 : decode cX12_stays 32 = .ok (.iconst 1, 1) := by decide +kernel
theorem dX12_stays_33 : decode cX12_stays 33 = .ok (.goto 4, 3) := by decide +kernel
theorem dX12_stays_36 : decode cX12_stays 36 = .ok (.iconst 0, 1) := by decide +kernel
theorem dX12_stays_37 : decode cX12_stays 37 = .ok (.iand, 1) := by decide +kernel
theorem dX12_stays_38 : decode cX12_stays 38 = .ok (.istore_n 3, 1) := by decide +kernel
theorem dX12_stays_39 : decode cX12_stays 39 = .ok (.iinc 4 1, 3) := by decide +kernel
theorem dX12_stays_42 : decode cX12_stays 42 = .ok (.goto (-37), 3) := by decide +kernel
theorem dX12_stays_45 : decode cX12_stays 45 = .ok (.iload_n 3, 1) := by decide +kernel
theorem dX12_stays_46 : decode cX12_stays 46 = .ok (.iload_n 2, 1) := by decide +kernel
theorem dX12_stays_47 : decode cX12_stays 47 = .ok (.if_icmp .ne 7, 3) := by decide +kernel
theorem dX12_stays_50 : decode cX12_stays 50 = .ok (.iconst 1, 1) := by decide +kernel
theorem dX12_stays_51 : decode cX12_stays 51 = .ok (.goto 4, 3) := by decide +kernel
theorem dX12_stays_54 : decode cX12_stays 54 = .ok (.iconst 0, 1) := by decide +kernel
theorem dX12_stays_55 : decode cX12_stays 55 = .ok (.ireturn, 1) := by decide +kernel
theorem dX12_stays__0 : decode cX12_stays_ 0 = .ok (.iload_n 1, 1) := by decide +kernel
theorem dX12_stays__1 : decode cX12_stays_ 1 = .ok (.i2l, 1) := by decide +kernel
theorem dX12_stays__2 : decode cX12_stays_ 2 = .ok (.lconst 0, 1) := by decide +kernel
theorem dX12_stays__3 : decode cX12_stays_ 3 = .ok (.lconst 1, 1) := by decide +kernel
theorem dX12_stays__4 : decode cX12_stays_ 4 = .ok (.invokestatic 97, 3) := by decide +kernel
theorem dX12_stays__7 : decode cX12_stays_ 7 = .ok (.ifCond .ne 5, 3) := by decide +kernel
theorem dX12_stays__10 : decode cX12_stays_ 10 = .ok (.iconst (-1), 1) := by decide +kernel
theorem dX12_stays__11 : decode cX12_stays_ 11 = .ok (.ireturn, 1) := by decide +kernel
theorem dX12_stays__12 : decode cX12_stays_ 12 = .ok (.iconst 0, 1) := by decide +kernel
theorem dX12_stays__13 : decode cX12_stays_ 13 = .ok (.istore_n 2, 1) := by decide +kernel
theorem dX12_stays__14 : decode cX12_stays_ 14 = .ok (.aload_n 0, 1) := by decide +kernel
theorem dX12_stays__15 : decode cX12_stays_ 15 = .ok (.getfield 9, 3) := by decide +kernel
theorem dX12_stays__18 : decode cX12_stays_ 18 = .ok (.istore_n 3, 1) := by decide +kernel
theorem dX12_stays__19 : decode cX12_stays_ 19 = .ok (.aload_n 0, 1) := by decide +kernel
theorem dX12_stays__20 : decode cX12_stays_ 20 = .ok (.getfield 9, 3) := by decide +kernel
theorem dX12_stays__23 : decode cX12_stays_ 23 = .ok (.iconst 1, 1) := by decide +kernel
theorem dX12_stays__24 : decode cX12_stays_ 24 = .ok (.isub, 1) := by decide +kernel
theorem dX12_stays__25 : decode cX12_stays_ 25 = .ok (.istore 4, 2) := by decide +kernel
theorem dX12_stays__27 : decode cX12_stays_ 27 = .ok (.iload 4, 2) := by decide +kernel
theorem dX12_stays__29 : decode cX12_stays_ 29 = .ok (.ifCond .lt 49, 3) := by decide +kernel
theorem dX12_stays__32 : decode cX12_stays_ 32 = .ok (.iload_n 2, 1) := by decide +kernel
theorem dX12_stays__33 : decode cX12_stays_ 33 = .ok (.aload_n 0, 1) := by decide +kernel
theorem dX12_stays__34 : decode cX12_stays_ 34 = .ok (.iload 4, 2) := by decide +kernel
theorem dX12_stays__36 : decode cX12_stays_ 36 = .ok (.iconst 1, 1) := by decide +kernel
theorem dX12_stays__37 : decode cX12_stays_ 37 = .ok (.invokevirtual 187, 3) := by decide +kernel
theorem dX12_stays__40 : decode cX12_stays_ 40 = .ok (.ifCond .eq 7, 3) := by decide +kernel
theorem dX12_stays__43 : decode cX12_stays_ 43 = .ok (.iconst 1, 1) := by decide +kernel
theorem dX12_stays__44 : decode cX12_stays_ 44 = .ok (.goto 4, 3) := by decide +kernel
theorem dX12_stays__47 : decode cX12_stays_ 47 = .ok (.iconst 0, 1) := by decide +kernel
theorem dX12_stays__48 : decode cX12_stays_ 48 = .ok (.iadd, 1) := by decide +kernel
theorem dX12_stays__49 : decode cX12_stays_ 49 = .ok (.istore_n 2, 1) := by decide +kernel
theorem dX12_stays__50 : decode cX12_stays_ 50 = .ok (.iload 4, 2) := by decide +kernel
theorem dX12_stays__52 : decode cX12_stays_ 52 = .ok (.ifCond .le 18, 3) := by decide +kernel
theorem dX12_stays__55 : decode cX12_stays_ 55 = .ok (.aload_n 0, 1) := by decide +kernel
theorem dX12_stays__56 : decode cX12_stays_ 56 = .ok (.iload 4, 2) := by decide +kernel
theorem dX12_stays__58 : decode cX12_stays_ 58 = .ok (.iconst 1, 1) := by decide +kernel
theorem dX12_stays__59 : decode cX12_stays_ 59 = .ok (.invokevirtual 187, 3) := by decide +kernel
theorem dX12_stays__62 : decode cX12_stays_ 62 = .ok (.ifCond .eq 8, 3) := by decide +kernel
theorem dX12_stays__65 : decode cX12_stays_ 65 = .ok (.iload 4, 2) := by decide +kernel
theorem dX12_stays__67 : decode cX12_stays_ 67 = .ok (.goto 4, 3) := by decide +kernel
theorem dX12_stays__70 : decode cX12_stays_ 70 = .ok (.iload_n 3, 1) := by decide +kernel
theorem dX12_stays__71 : decode cX12_stays_ 71 = .ok (.istore_n 3, 1) := by decide +kernel
theorem dX12_stays__72 : decode cX12_stays_ 72 = .ok (.iinc 4 (-1), 3) := by decide +kernel
theorem dX12_stays__75 : decode cX12_stays_ 75 = .ok (.goto (-48), 3) := by decide +kernel
theorem dX12_stays__78 : decode cX12_stays_ 78 = .ok (.iload_n 1, 1) := by decide +kernel
theorem dX12_stays__79 : decode cX12_stays_ 79 = .ok (.ifCond .ne 7, 3) := by decide +kernel
theorem dX12_stays__82 : decode cX12_stays_ 82 = .ok (.iload_n 2, 1) := by decide +kernel
theorem dX12_stays__83 : decode cX12_stays_ 83 = .ok (.goto 4, 3) := by decide +kernel
theorem dX12_stays__86 : decode cX12_stays_ 86 = .ok (.iload_n 3, 1) := by decide +kernel
theorem dX12_stays__87 : decode cX12_stays_ 87 = .ok (.ireturn, 1) := by decide +kernel
theorem dX12_isAhead_0 : decode cX12_isAhead 0 = .ok (.iconst 0, 1) := by decide +kernel
theorem dX12_isAhead_1 : decode cX12_isAhead 1 = .ok (.istore_n 3, 1) := by decide +kernel
theorem dX12_isAhead_2 : decode cX12_isAhead 2 = .ok (.iload_n 3, 1) := by decide +kernel
theorem dX12_isAhead_3 : decode cX12_isAhead 3 = .ok (.aload_n 0, 1) := by decide +kernel
theorem dX12_isAhead_4 : decode cX12_isAhead 4 = .ok (.getfield 9, 3) := by decide +kernel
theorem dX12_isAhead_7 : decode cX12_isAhead 7 = .ok (.if_icmp .ge 45, 3) := by decide +kernel
theorem dX12_isAhead_10 : decode cX12_isAhead 10 = .ok (.aload_n 0, 1) := by decide +kernel
theorem dX12_isAhead_11 : decode cX12_isAhead 11 = .ok (.iload_n 1, 1) := by decide +kernel
theorem dX12_isAhead_12 : decode cX12_isAhead 12 = .ok (.iload_n 3, 1) := by decide +kernel
theorem dX12_isAhead_13 : decode cX12_isAhead 13 = .ok (.invokevirtual 184, 3) := by decide +kernel
theorem dX12_isAhead_16 : decode cX12_isAhead 16 = .ok (.aload_n 0, 1) := by decide +kernel
theorem dX12_isAhead_17 : decode cX12_isAhead 17 = .ok (.iload_n 2, 1) := by decide +kernel
theorem dX12_isAhead_18 : decode cX12_isAhead 18 = .ok (.iload_n 3, 1) := by decide +kernel
theorem dX12_isAhead_19 : decode cX12_isAhead 19 = .ok (.invokevirtual 184, 3) := by decide +kernel
theorem dX12_isAhead_22 : decode cX12_isAhead 22 = .ok (.if_icmp .eq 24, 3) := by decide +kernel
theorem dX12_isAhead_25 : decode cX12_isAhead 25 = .ok (.aload_n 0, 1) := by decide +kernel
theorem dX12_isAhead_26 : decode cX12_isAhead 26 = .ok (.iload_n 1, 1) := by decide +kernel
theorem dX12_isAhead_27 : decode cX12_isAhead 27 = .ok (.iload_n 3, 1) := by decide +kernel
theorem dX12_isAhead_28 : decode cX12_isAhead 28 = .ok (.invokevirtual 184, 3) := by decide +kernel
theorem dX12_isAhead_31 : decode cX12_isAhead 31 = .ok (.aload_n 0, 1) := by decide +kernel
theorem dX12_isAhead_32 : decode cX12_isAhead 32 = .ok (.iload_n 2, 1) := by decide +kernel
theorem dX12_isAhead_33 : decode cX12_isAhead 33 = .ok (.iload_n 3, 1) := by decide +kernel
theorem dX12_isAhead_34 : decode cX12_isAhead 34 = .ok (.invokevirtual 184, 3) := by decide +kernel
theorem dX12_isAhead_37 : decode cX12_isAhead 37 = .ok (.if_icmp .le 7, 3) := by decide +kernel
theorem dX12_isAhead_40 : decode cX12_isAhead 40 = .ok (.iconst 1, 1) := by decide +kernel
theorem dX12_isAhead_41 : decode cX12_isAhead 41 = .ok (.goto 4, 3) := by decide +kernel
theorem dX12_isAhead_44 : decode cX12_isAhead 44 = .ok (.iconst 0, 1) := by decide +kernel
theorem dX12_isAhead_45 : decode cX12_isAhead 45 = .ok (.ireturn, 1) := by decide +kernel
theorem dX12_isAhead_46 : decode cX12_isAhead 46 = .ok (.iinc 3 1, 3) := by decide +kernel
theorem dX12_isAhead_49 : decode cX12_isAhead 49 = .ok (.goto (-47), 3) := by decide +kernel
theorem dX12_isAhead_52 : decode cX12_isAhead 52 = .ok (.iconst 0, 1) := by decide +kernel
theorem dX12_isAhead_53 : decode cX12_isAhead 53 = .ok (.ireturn, 1) := by decide +kernel
theorem dX12_best_0 : decode cX12_best 0 = .ok (.iconst 0, 1) := by decide +kernel
theorem dX12_best_1 : decode cX12_best 1 = .ok (.istore_n 1, 1) := by decide +kernel
theorem dX12_best_2 : decode cX12_best 2 = .ok (.iconst 1, 1) := by decide +kernel
theorem dX12_best_3 : decode cX12_best 3 = .ok (.istore_n 2, 1) := by decide +kernel
theorem dX12_best_4 : decode cX12_best 4 = .ok (.iload_n 2, 1) := by decide +kernel
theorem dX12_best_5 : decode cX12_best 5 = .ok (.aload_n 0, 1) := by decide +kernel
theorem dX12_best_6 : decode cX12_best 6 = .ok (.getfield 9, 3) := by decide +kernel
theorem dX12_best_9 : decode cX12_best 9 = .ok (.if_icmp .ge 24, 3) := by decide +kernel
theorem dX12_best_12 : decode cX12_best 12 = .ok (.aload_n 0, 1) := by decide +kernel
theorem dX12_best_13 : decode cX12_best 13 = .ok (.iload_n 2, 1) := by decide +kernel
theorem dX12_best_14 : decode cX12_best 14 = .ok (.iload_n 1, 1) := by decide +kernel
theorem dX12_best_15 : decode cX12_best 15 = .ok (.invokevirtual 191, 3) := by decide +kernel
theorem dX12_best_18 : decode cX12_best 18 = .ok (.ifCond .eq 7, 3) := by decide +kernel
theorem dX12_best_21 : decode cX12_best 21 = .ok (.iload_n 2, 1) := by decide +kernel
theorem dX12_best_22 : decode cX12_best 22 = .ok (.goto 4, 3) := by decide +kernel
theorem dX12_best_25 : decode cX12_best 25 = .ok (.iload_n 1, 1) := by decide +kernel
theorem dX12_best_26 : decode cX12_best 26 = .ok (.istore_n 1, 1) := by decide +kernel
theorem dX12_best_27 : decode cX12_best 27 = .ok (.iinc 2 1, 3) := by decide +kernel
theorem dX12_best_30 : decode cX12_best 30 = .ok (.goto (-26), 3) := by decide +kernel
theorem dX12_best_33 : decode cX12_best 33 = .ok (.iload_n 1, 1) := by decide +kernel
theorem dX12_best_34 : decode cX12_best 34 = .ok (.ireturn, 1) := by decide +kernel
theorem dX12_isList_0 : decode cX12_isList 0 = .ok (.iload_n 0, 1) := by decide +kernel
theorem dX12_isList_1 : decode cX12_isList 1 = .ok (.i2l, 1) := by decide +kernel
theorem dX12_isList_2 : decode cX12_isList 2 = .ok (.lconst 0, 1) := by decide +kernel
theorem dX12_isList_3 : decode cX12_isList 3 = .ok (.ldc2_w 101, 3) := by decide +kernel
theorem dX12_isList_6 : decode cX12_isList 6 = .ok (.invokestatic 97, 3) := by decide +kernel
theorem dX12_isList_9 : decode cX12_isList 9 = .ok (.ireturn, 1) := by decide +kernel
theorem dX12_alike_0 : decode cX12_alike 0 = .ok (.iload_n 1, 1) := by decide +kernel
theorem dX12_alike_1 : decode cX12_alike 1 = .ok (.invokestatic 194, 3) := by decide +kernel
theorem dX12_alike_4 : decode cX12_alike 4 = .ok (.ifCond .ne 5, 3) := by decide +kernel
theorem dX12_alike_7 : decode cX12_alike 7 = .ok (.iconst (-1), 1) := by decide +kernel
theorem dX12_alike_8 : decode cX12_alike 8 = .ok (.ireturn, 1) := by decide +kernel
theorem dX12_alike_9 : decode cX12_alike 9 = .ok (.aload_n 0, 1) := by decide +kernel
theorem dX12_alike_10 : decode cX12_alike 10 = .ok (.getfield 58, 3) := by decide +kernel
theorem dX12_alike_13 : decode cX12_alike 13 = .ok (.iload_n 1, 1) := by decide +kernel
theorem dX12_alike_14 : decode cX12_alike 14 = .ok (.iaload, 1) := by decide +kernel
theorem dX12_alike_15 : decode cX12_alike 15 = .ok (.ifCond .ge 6, 3) := by decide +kernel
theorem dX12_alike_18 : decode cX12_alike 18 = .ok (.bipush (-11), 2) := by decide +kernel
theorem dX12_alike_20 : decode cX12_alike 20 = .ok (.ireturn, 1) := by decide +kernel
theorem dX12_alike_21 : decode cX12_alike 21 = .ok (.iconst 0, 1) := by decide +kernel
theorem dX12_alike_22 : decode cX12_alike 22 = .ok (.istore_n 2, 1) := by decide +kernel
theorem dX12_alike_23 : decode cX12_alike 23 = .ok (.iload_n 2, 1) := by decide +kernel
theorem dX12_alike_24 : decode cX12_alike 24 = .ok (.aload_n 0, 1) := by decide +kernel
theorem dX12_alike_25 : decode cX12_alike 25 = .ok (.getfield 9, 3) := by decide +kernel
theorem dX12_alike_28 : decode cX12_alike 28 = .ok (.if_icmp .ge 80, 3) := by decide +kernel
theorem dX12_alike_31 : decode cX12_alike 31 = .ok (.aload_n 0, 1) := by decide +kernel
theorem dX12_alike_32 : decode cX12_alike 32 = .ok (.getfield 58, 3) := by decide +kernel
theorem dX12_alike_35 : decode cX12_alike 35 = .ok (.iload_n 1, 1) := by decide +kernel
theorem dX12_alike_36 : decode cX12_alike 36 = .ok (.iaload, 1) := by decide +kernel
theorem dX12_alike_37 : decode cX12_alike 37 = .ok (.aload_n 0, 1) := by decide +kernel
theorem dX12_alike_38 : decode cX12_alike 38 = .ok (.getfield 9, 3) := by decide +kernel
theorem dX12_alike_41 : decode cX12_alike 41 = .ok (.if_icmp .ne 67, 3) := by decide +kernel
theorem dX12_alike_44 : decode cX12_alike 44 = .ok (.iconst 1, 1) := by decide +kernel
theorem dX12_alike_45 : decode cX12_alike 45 = .ok (.istore_n 3, 1) := by decide +kernel
theorem dX12_alike_46 : decode cX12_alike 46 = .ok (.iconst 0, 1) := by decide +kernel
theorem dX12_alike_47 : decode cX12_alike 47 = .ok (.istore 4, 2) := by decide +kernel
theorem dX12_alike_49 : decode cX12_alike 49 = .ok (.iload 4, 2) := by decide +kernel
theorem dX12_alike_51 : decode cX12_alike 51 = .ok (.aload_n 0, 1) := by decide +kernel
theorem dX12_alike_52 : decode cX12_alike 52 = .ok (.getfield 9, 3) := by decide +kernel
theorem dX12_alike_55 : decode cX12_alike 55 = .ok (.if_icmp .ge 41, 3) := by decide +kernel
theorem dX12_alike_58 : decode cX12_alike 58 = .ok (.iload_n 3, 1) := by decide +kernel
theorem dX12_alike_59 : decode cX12_alike 59 = .ok (.aload_n 0, 1) := by decide +kernel
theorem dX12_alike_60 : decode cX12_alike 60 = .ok (.getfield 61, 3) := by decide +kernel
theorem dX12_alike_63 : decode cX12_alike 63 = .ok (.bipush 30, 2) := by decide +kernel
theorem dX12_alike_65 : decode cX12_alike 65 = .ok (.iload_n 1, 1) := by decide +kernel
theorem dX12_alike_66 : decode cX12_alike 66 = .ok (.imul, 1) := by decide +kernel
theorem dX12_alike_67 : decode cX12_alike 67 = .ok (.iload 4, 2) := by decide +kernel
theorem dX12_alike_69 : decode cX12_alike 69 = .ok (.iadd, 1) := by decide +kernel
theorem dX12_alike_70 : decode cX12_alike 70 = .ok (.laload, 1) := by decide +kernel
theorem dX12_alike_71 : decode cX12_alike 71 = .ok (.aload_n 0, 1) := by decide +kernel
theorem dX12_alike_72 : decode cX12_alike 72 = .ok (.iload_n 2, 1) := by decide +kernel
theorem dX12_alike_73 : decode cX12_alike 73 = .ok (.iload 4, 2) := by decide +kernel
theorem dX12_alike_75 : decode cX12_alike 75 = .ok (.invokevirtual 184, 3) := by decide +kernel
theorem dX12_alike_78 : decode cX12_alike 78 = .ok (.i2l, 1) := by decide +kernel
theorem dX12_alike_79 : decode cX12_alike 79 = .ok (.lcmp, 1) := by decide +kernel
theorem dX12_alike_80 : decode cX12_alike 80 = .ok (.ifCond .ne 7, 3) := by decide +kernel
theorem dX12_alike_83 : decode cX12_alike 83 = .ok (.iconst 1, 1) := by decide +kernel
theorem dX12_alike_84 : decode cX12_alike 84 = .ok (.goto 4, 3) := by decide +kernel
theorem dX12_alike_87 : decode cX12_alike 87 = .ok (.iconst 0, 1) := by decide +kernel
theorem dX12_alike_88 : decode cX12_alike 88 = .ok (.iand, 1) := by decide +kernel
theorem dX12_alike_89 : decode cX12_alike 89 = .ok (.istore_n 3, 1) := by decide +kernel
theorem dX12_alike_90 : decode cX12_alike 90 = .ok (.iinc 4 1, 3) := by decide +kernel
theorem dX12_alike_93 : decode cX12_alike 93 = .ok (.goto (-44), 3) := by decide +kernel
theorem dX12_alike_96 : decode cX12_alike 96 = .ok (.iload_n 3, 1) := by decide +kernel
theorem dX12_alike_97 : decode cX12_alike 97 = .ok (.ifCond .eq 5, 3) := by decide +kernel
theorem dX12_alike_100 : decode cX12_alike 100 = .ok (.iload_n 2, 1) := by decide +kernel
theorem dX12_alike_101 : decode cX12_alike 101 = .ok (.ireturn, 1) := by decide +kernel
theorem dX12_alike_102 : decode cX12_alike 102 = .ok (.iinc 2 1, 3) := by decide +kernel
theorem dX12_alike_105 : decode cX12_alike 105 = .ok (.goto (-82), 3) := by decide +kernel
theorem dX12_alike_108 : decode cX12_alike 108 = .ok (.bipush (-5), 2) := by decide +kernel
theorem dX12_alike_110 : decode cX12_alike 110 = .ok (.ireturn, 1) := by decide +kernel
theorem dX12_prime_0 : decode cX12_prime 0 = .ok (.iconst 0, 1) := by decide +kernel
theorem dX12_prime_1 : decode cX12_prime 1 = .ok (.istore_n 2, 1) := by decide +kernel
theorem dX12_prime_2 : decode cX12_prime 2 = .ok (.iconst 2, 1) := by decide +kernel
theorem dX12_prime_3 : decode cX12_prime 3 = .ok (.istore_n 3, 1) := by decide +kernel
theorem dX12_prime_4 : decode cX12_prime 4 = .ok (.iload_n 3, 1) := by decide +kernel
theorem dX12_prime_5 : decode cX12_prime 5 = .ok (.aload_n 0, 1) := by decide +kernel
theorem dX12_prime_6 : decode cX12_prime 6 = .ok (.getfield 9, 3) := by decide +kernel
theorem dX12_prime_9 : decode cX12_prime 9 = .ok (.if_icmp .gt 27, 3) := by decide +kernel
theorem dX12_prime_12 : decode cX12_prime 12 = .ok (.aload_n 0, 1) := by decide +kernel
theorem dX12_prime_13 : decode cX12_prime 13 = .ok (.iload_n 3, 1) := by decide +kernel
theorem dX12_prime_14 : decode cX12_prime 14 = .ok (.invokevirtual 170, 3) := by decide +kernel
theorem dX12_prime_17 : decode cX12_prime 17 = .ok (.ifCond .eq 13, 3) := by decide +kernel
theorem dX12_prime_20 : decode cX12_prime 20 = .ok (.iload_n 2, 1) := by decide +kernel
theorem dX12_prime_21 : decode cX12_prime 21 = .ok (.iload_n 1, 1) := by decide +kernel
theorem dX12_prime_22 : decode cX12_prime 22 = .ok (.if_icmp .ne 5, 3) := by decide +kernel
theorem dX12_prime_25 : decode cX12_prime 25 = .ok (.iload_n 3, 1) := by decide +kernel
theorem dX12_prime_26 : decode cX12_prime 26 = .ok (.ireturn, 1) := by decide +kernel
theorem dX12_prime_27 : decode cX12_prime 27 = .ok (.iinc 2 1, 3) := by decide +kernel
theorem dX12_prime_30 : decode cX12_prime 30 = .ok (.iinc 3 1, 3) := by decide +kernel
theorem dX12_prime_33 : decode cX12_prime 33 = .ok (.goto (-29), 3) := by decide +kernel
theorem dX12_prime_36 : decode cX12_prime 36 = .ok (.iload_n 1, 1) := by decide +kernel
theorem dX12_prime_37 : decode cX12_prime 37 = .ok (.iconst (-1), 1) := by decide +kernel
theorem dX12_prime_38 : decode cX12_prime 38 = .ok (.if_icmp .ne 7, 3) := by decide +kernel
theorem dX12_prime_41 : decode cX12_prime 41 = .ok (.iload_n 2, 1) := by decide +kernel
theorem dX12_prime_42 : decode cX12_prime 42 = .ok (.goto 4, 3) := by decide +kernel
theorem dX12_prime_45 : decode cX12_prime 45 = .ok (.iconst (-1), 1) := by decide +kernel
theorem dX12_prime_46 : decode cX12_prime 46 = .ok (.ireturn, 1) := by decide +kernel
theorem dX12_unit_0 : decode cX12_unit 0 = .ok (.iconst 1, 1) := by decide +kernel
theorem dX12_unit_1 : decode cX12_unit 1 = .ok (.istore_n 2, 1) := by decide +kernel
theorem dX12_unit_2 : decode cX12_unit 2 = .ok (.iload_n 2, 1) := by decide +kernel
theorem dX12_unit_3 : decode cX12_unit 3 = .ok (.iload_n 1, 1) := by decide +kernel
theorem dX12_unit_4 : decode cX12_unit 4 = .ok (.irem, 1) := by decide +kernel
theorem dX12_unit_5 : decode cX12_unit 5 = .ok (.iconst 1, 1) := by decide +kernel
theorem dX12_unit_6 : decode cX12_unit 6 = .ok (.if_icmp .ne 14, 3) := by decide +kernel
theorem dX12_unit_9 : decode cX12_unit 9 = .ok (.iload_n 2, 1) := by decide +kernel
theorem dX12_unit_10 : decode cX12_unit 10 = .ok (.aload_n 0, 1) := by decide +kernel
theorem dX12_unit_11 : decode cX12_unit 11 = .ok (.getfield 9, 3) := by decide +kernel
theorem dX12_unit_14 : decode cX12_unit 14 = .ok (.iload_n 1, 1) := by decide +kernel
theorem dX12_unit_15 : decode cX12_unit 15 = .ok (.idiv, 1) := by decide +kernel
theorem dX12_unit_16 : decode cX12_unit 16 = .ok (.irem, 1) := by decide +kernel
theorem dX12_unit_17 : decode cX12_unit 17 = .ok (.ifCond .eq 9, 3) := by decide +kernel
theorem dX12_unit_20 : decode cX12_unit 20 = .ok (.iinc 2 1, 3) := by decide +kernel
theorem dX12_unit_23 : decode cX12_unit 23 = .ok (.goto (-21), 3) := by decide +kernel
theorem dX12_unit_26 : decode cX12_unit 26 = .ok (.iload_n 2, 1) := by decide +kernel
theorem dX12_unit_27 : decode cX12_unit 27 = .ok (.ireturn, 1) := by decide +kernel
theorem dX12_tellsLayer_0 : decode cX12_tellsLayer 0 = .ok (.iconst 0, 1) := by decide +kernel
theorem dX12_tellsLayer_1 : decode cX12_tellsLayer 1 = .ok (.istore_n 3, 1) := by decide +kernel
theorem dX12_tellsLayer_2 : decode cX12_tellsLayer 2 = .ok (.iload_n 3, 1) := by decide +kernel
theorem dX12_tellsLayer_3 : decode cX12_tellsLayer 3 = .ok (.bipush 30, 2) := by decide +kernel
theorem dX12_tellsLayer_5 : decode cX12_tellsLayer 5 = .ok (.if_icmp .ge 16, 3) := by decide +kernel
theorem dX12_tellsLayer_8 : decode cX12_tellsLayer 8 = .ok (.aload_n 0, 1) := by decide +kernel
theorem dX12_tellsLayer_9 : decode cX12_tellsLayer 9 = .ok (.getfield 65, 3) := by decide +kernel
theorem dX12_tellsLayer_12 : decode cX12_tellsLayer 12 = .ok (.iload_n 3, 1) := by decide +kernel
theorem dX12_tellsLayer_13 : decode cX12_tellsLayer 13 = .ok (.iconst 0, 1) := by decide +kernel
theorem dX12_tellsLayer_14 : decode cX12_tellsLayer 14 = .ok (.iastore, 1) := by decide +kernel
theorem dX12_tellsLayer_15 : decode cX12_tellsLayer 15 = .ok (.iinc 3 1, 3) := by decide +kernel
theorem dX12_tellsLayer_18 : decode cX12_tellsLayer 18 = .ok (.goto (-16), 3) := by decide +kernel
theorem dX12_tellsLayer_21 : decode cX12_tellsLayer 21 = .ok (.aload_n 0, 1) := by decide +kernel
theorem dX12_tellsLayer_22 : decode cX12_tellsLayer 22 = .ok (.getfield 9, 3) := by decide +kernel
theorem dX12_tellsLayer_25 : decode cX12_tellsLayer 25 = .ok (.iload_n 1, 1) := by decide +kernel
theorem dX12_tellsLayer_26 : decode cX12_tellsLayer 26 = .ok (.iload_n 1, 1) := by decide +kernel
theorem dX12_tellsLayer_27 : decode cX12_tellsLayer 27 = .ok (.imul, 1) := by decide +kernel
theorem dX12_tellsLayer_28 : decode cX12_tellsLayer 28 = .ok (.irem, 1) := by decide +kernel
theorem dX12_tellsLayer_29 : decode cX12_tellsLayer 29 = .ok (.ifCond .ne 7, 3) := by decide +kernel
theorem dX12_tellsLayer_32 : decode cX12_tellsLayer 32 = .ok (.iload_n 2, 1) := by decide +kernel
theorem dX12_tellsLayer_33 : decode cX12_tellsLayer 33 = .ok (.goto 15, 3) := by decide +kernel
theorem dX12_tellsLayer_36 : decode cX12_tellsLayer 36 = .ok (.iload_n 2, 1) := by decide +kernel
theorem dX12_tellsLayer_37 : decode cX12_tellsLayer 37 = .ok (.aload_n 0, 1) := by decide +kernel
theorem dX12_tellsLayer_38 : decode cX12_tellsLayer 38 = .ok (.iload_n 1, 1) := by decide +kernel
theorem dX12_tellsLayer_39 : decode cX12_tellsLayer 39 = .ok (.invokevirtual 197, 3) := by decide +kernel
theorem dX12_tellsLayer_42 : decode cX12_tellsLayer 42 = .ok (.imul, 1) := by decide +kernel
theorem dX12_tellsLayer_43 : decode cX12_tellsLayer 43 = .ok (.aload_n 0, 1) := by decide +kernel
theorem dX12_tellsLayer_44 : decode cX12_tellsLayer 44 = .ok (.getfield 9, 3) := by decide +kernel
theorem dX12_tellsLayer_47 : decode cX12_tellsLayer 47 = .ok (.irem, 1) := by decide +kernel
theorem dX12_tellsLayer_48 : decode cX12_tellsLayer 48 = .ok (.istore_n 3, 1) := by decide +kernel
theorem dX12_tellsLayer_49 : decode cX12_tellsLayer 49 = .ok (.iload_n 2, 1) := by decide +kernel
theorem dX12_tellsLayer_50 : decode cX12_tellsLayer 50 = .ok (.istore 4, 2) := by decide +kernel
theorem dX12_tellsLayer_52 : decode cX12_tellsLayer 52 = .ok (.iload 4, 2) := by decide +kernel
theorem dX12_tellsLayer_54 : decode cX12_tellsLayer 54 = .ok (.aload_n 0, 1) := by decide +kernel
theorem dX12_tellsLayer_55 : decode cX12_tellsLayer 55 = .ok (.getfield 9, 3) := by decide +kernel
theorem dX12_tellsLayer_58 : decode cX12_tellsLayer 58 = .ok (.if_icmp .ge 38, 3) := by decide +kernel
theorem dX12_tellsLayer_61 : decode cX12_tellsLayer 61 = .ok (.aload_n 0, 1) := by decide +kernel
theorem dX12_tellsLayer_62 : decode cX12_tellsLayer 62 = .ok (.getfield 65, 3) := by decide +kernel
theorem dX12_tellsLayer_65 : decode cX12_tellsLayer 65 = .ok (.iload 4, 2) := by decide +kernel
theorem dX12_tellsLayer_67 : decode cX12_tellsLayer 67 = .ok (.iload_n 3, 1) := by decide +kernel
theorem dX12_tellsLayer_68 : decode cX12_tellsLayer 68 = .ok (.isub, 1) := by decide +kernel
theorem dX12_tellsLayer_69 : decode cX12_tellsLayer 69 = .ok (.aload_n 0, 1) := by decide +kernel
theorem dX12_tellsLayer_70 : decode cX12_tellsLayer 70 = .ok (.getfield 9, 3) := by decide +kernel
theorem dX12_tellsLayer_73 : decode cX12_tellsLayer 73 = .ok (.iadd, 1) := by decide +kernel
theorem dX12_tellsLayer_74 : decode cX12_tellsLayer 74 = .ok (.aload_n 0, 1) := by decide +kernel
theorem dX12_tellsLayer_75 : decode cX12_tellsLayer 75 = .ok (.getfield 9, 3) := by decide +kernel
theorem dX12_tellsLayer_78 : decode cX12_tellsLayer 78 = .ok (.irem, 1) := by decide +kernel
theorem dX12_tellsLayer_79 : decode cX12_tellsLayer 79 = .ok (.aload_n 0, 1) := by decide +kernel
theorem dX12_tellsLayer_80 : decode cX12_tellsLayer 80 = .ok (.getfield 15, 3) := by decide +kernel
theorem dX12_tellsLayer_83 : decode cX12_tellsLayer 83 = .ok (.iload 4, 2) := by decide +kernel
theorem dX12_tellsLayer_85 : decode cX12_tellsLayer 85 = .ok (.iaload, 1) := by decide +kernel
theorem dX12_tellsLayer_86 : decode cX12_tellsLayer 86 = .ok (.iastore, 1) := by decide +kernel
theorem dX12_tellsLayer_87 : decode cX12_tellsLayer 87 = .ok (.iload 4, 2) := by decide +kernel
theorem dX12_tellsLayer_89 : decode cX12_tellsLayer 89 = .ok (.iload_n 1, 1) := by decide +kernel
theorem dX12_tellsLayer_90 : decode cX12_tellsLayer 90 = .ok (.iadd, 1) := by decide +kernel
theorem dX12_tellsLayer_91 : decode cX12_tellsLayer 91 = .ok (.istore 4, 2) := by decide +kernel
theorem dX12_tellsLayer_93 : decode cX12_tellsLayer 93 = .ok (.goto (-41), 3) := by decide +kernel
theorem dX12_tellsLayer_96 : decode cX12_tellsLayer 96 = .ok (.return_, 1) := by decide +kernel
theorem dX12_layer_0 : decode cX12_layer 0 = .ok (.aload_n 0, 1) := by decide +kernel
theorem dX12_layer_1 : decode cX12_layer 1 = .ok (.iload_n 1, 1) := by decide +kernel
theorem dX12_layer_2 : decode cX12_layer 2 = .ok (.invokevirtual 170, 3) := by decide +kernel
theorem dX12_layer_5 : decode cX12_layer 5 = .ok (.ifCond .eq 24, 3) := by decide +kernel
theorem dX12_layer_8 : decode cX12_layer 8 = .ok (.iload_n 2, 1) := by decide +kernel
theorem dX12_layer_9 : decode cX12_layer 9 = .ok (.i2l, 1) := by decide +kernel
theorem dX12_layer_10 : decode cX12_layer 10 = .ok (.lconst 0, 1) := by decide +kernel
theorem dX12_layer_11 : decode cX12_layer 11 = .ok (.iload_n 1, 1) := by decide +kernel
theorem dX12_layer_12 : decode cX12_layer 12 = .ok (.iconst 1, 1) := by decide +kernel
theorem dX12_layer_13 : decode cX12_layer 13 = .ok (.isub, 1) := by decide +kernel
theorem dX12_layer_14 : decode cX12_layer 14 = .ok (.i2l, 1) := by decide +kernel
theorem dX12_layer_15 : decode cX12_layer 15 = .ok (.invokestatic 97, 3) := by decide +kernel
theorem dX12_layer_18 : decode cX12_layer 18 = .ok (.ifCond .eq 11, 3) := by decide +kernel
theorem dX12_layer_21 : decode cX12_layer 21 = .ok (.aload_n 0, 1) := by decide +kernel
theorem dX12_layer_22 : decode cX12_layer 22 = .ok (.iload_n 3, 1) := by decide +kernel
theorem dX12_layer_23 : decode cX12_layer 23 = .ok (.invokevirtual 105, 3) := by decide +kernel
theorem dX12_layer_26 : decode cX12_layer 26 = .ok (.ifCond .ne 5, 3) := by decide +kernel
theorem dX12_layer_29 : decode cX12_layer 29 = .ok (.iconst (-1), 1) := by decide +kernel
theorem dX12_layer_30 : decode cX12_layer 30 = .ok (.ireturn, 1) := by decide +kernel
theorem dX12_layer_31 : decode cX12_layer 31 = .ok (.aload_n 0, 1) := by decide +kernel
theorem dX12_layer_32 : decode cX12_layer 32 = .ok (.iload_n 1, 1) := by decide +kernel
theorem dX12_layer_33 : decode cX12_layer 33 = .ok (.iload_n 2, 1) := by decide +kernel
theorem dX12_layer_34 : decode cX12_layer 34 = .ok (.invokevirtual 201, 3) := by decide +kernel
theorem dX12_layer_37 : decode cX12_layer 37 = .ok (.aload_n 0, 1) := by decide +kernel
theorem dX12_layer_38 : decode cX12_layer 38 = .ok (.getfield 65, 3) := by decide +kernel
theorem dX12_layer_41 : decode cX12_layer 41 = .ok (.iload_n 3, 1) := by decide +kernel
theorem dX12_layer_42 : decode cX12_layer 42 = .ok (.iaload, 1) := by decide +kernel
theorem dX12_layer_43 : decode cX12_layer 43 = .ok (.ireturn, 1) := by decide +kernel
theorem dX12_layers_0 : decode cX12_layers 0 = .ok (.aload_n 0, 1) := by decide +kernel
theorem dX12_layers_1 : decode cX12_layers 1 = .ok (.iload_n 1, 1) := by decide +kernel
theorem dX12_layers_2 : decode cX12_layers 2 = .ok (.invokevirtual 170, 3) := by decide +kernel
theorem dX12_layers_5 : decode cX12_layers 5 = .ok (.ifCond .eq 13, 3) := by decide +kernel
theorem dX12_layers_8 : decode cX12_layers 8 = .ok (.iload_n 2, 1) := by decide +kernel
theorem dX12_layers_9 : decode cX12_layers 9 = .ok (.i2l, 1) := by decide +kernel
theorem dX12_layers_10 : decode cX12_layers 10 = .ok (.lconst 0, 1) := by decide +kernel
theorem dX12_layers_11 : decode cX12_layers 11 = .ok (.lconst 1, 1) := by decide +kernel
theorem dX12_layers_12 : decode cX12_layers 12 = .ok (.invokestatic 97, 3) := by decide +kernel
theorem dX12_layers_15 : decode cX12_layers 15 = .ok (.ifCond .ne 5, 3) := by decide +kernel
theorem dX12_layers_18 : decode cX12_layers 18 = .ok (.iconst (-1), 1) := by decide +kernel
theorem dX12_layers_19 : decode cX12_layers 19 = .ok (.ireturn, 1) := by decide +kernel
theorem dX12_layers_20 : decode cX12_layers 20 = .ok (.aload_n 0, 1) := by decide +kernel
theorem dX12_layers_21 : decode cX12_layers 21 = .ok (.getfield 9, 3) := by decide +kernel
theorem dX12_layers_24 : decode cX12_layers 24 = .ok (.iload_n 1, 1) := by decide +kernel
theorem dX12_layers_25 : decode cX12_layers 25 = .ok (.iload_n 1, 1) := by decide +kernel
theorem dX12_layers_26 : decode cX12_layers 26 = .ok (.imul, 1) := by decide +kernel
theorem dX12_layers_27 : decode cX12_layers 27 = .ok (.irem, 1) := by decide +kernel
theorem dX12_layers_28 : decode cX12_layers 28 = .ok (.ifCond .ne 7, 3) := by decide +kernel
theorem dX12_layers_31 : decode cX12_layers 31 = .ok (.iconst 1, 1) := by decide +kernel
theorem dX12_layers_32 : decode cX12_layers 32 = .ok (.goto 4, 3) := by decide +kernel
theorem dX12_layers_35 : decode cX12_layers 35 = .ok (.iconst 0, 1) := by decide +kernel
theorem dX12_layers_36 : decode cX12_layers 36 = .ok (.istore_n 3, 1) := by decide +kernel
theorem dX12_layers_37 : decode cX12_layers 37 = .ok (.bipush (-5), 2) := by decide +kernel
theorem dX12_layers_39 : decode cX12_layers 39 = .ok (.istore 4, 2) := by decide +kernel
theorem dX12_layers_41 : decode cX12_layers 41 = .ok (.aload_n 0, 1) := by decide +kernel
theorem dX12_layers_42 : decode cX12_layers 42 = .ok (.iload_n 1, 1) := by decide +kernel
theorem dX12_layers_43 : decode cX12_layers 43 = .ok (.iconst 0, 1) := by decide +kernel
theorem dX12_layers_44 : decode cX12_layers 44 = .ok (.invokevirtual 201, 3) := by decide +kernel
theorem dX12_layers_47 : decode cX12_layers 47 = .ok (.aload_n 0, 1) := by decide +kernel
theorem dX12_layers_48 : decode cX12_layers 48 = .ok (.aload_n 0, 1) := by decide +kernel
theorem dX12_layers_49 : decode cX12_layers 49 = .ok (.getfield 65, 3) := by decide +kernel
theorem dX12_layers_52 : decode cX12_layers 52 = .ok (.invokevirtual 121, 3) := by decide +kernel
theorem dX12_layers_55 : decode cX12_layers 55 = .ok (.iconst 0, 1) := by decide +kernel
theorem dX12_layers_56 : decode cX12_layers 56 = .ok (.istore 5, 2) := by decide +kernel
theorem dX12_layers_58 : decode cX12_layers 58 = .ok (.iload 5, 2) := by decide +kernel
theorem dX12_layers_60 : decode cX12_layers 60 = .ok (.bipush 30, 2) := by decide +kernel
theorem dX12_layers_62 : decode cX12_layers 62 = .ok (.if_icmp .ge 31, 3) := by decide +kernel
theorem dX12_layers_65 : decode cX12_layers 65 = .ok (.aload_n 0, 1) := by decide +kernel
theorem dX12_layers_66 : decode cX12_layers 66 = .ok (.getfield 40, 3) := by decide +kernel
theorem dX12_layers_69 : decode cX12_layers 69 = .ok (.iload 5, 2) := by decide +kernel
theorem dX12_layers_71 : decode cX12_layers 71 = .ok (.iload_n 3, 1) := by decide +kernel
theorem dX12_layers_72 : decode cX12_layers 72 = .ok (.ifCond .eq 7, 3) := by decide +kernel
theorem dX12_layers_75 : decode cX12_layers 75 = .ok (.iconst 0, 1) := by decide +kernel
theorem dX12_layers_76 : decode cX12_layers 76 = .ok (.goto 10, 3) := by decide +kernel
theorem dX12_layers_79 : decode cX12_layers 79 = .ok (.aload_n 0, 1) := by decide +kernel
theorem dX12_layers_80 : decode cX12_layers 80 = .ok (.getfield 34, 3) := by decide +kernel
theorem dX12_layers_83 : decode cX12_layers 83 = .ok (.iload 5, 2) := by decide +kernel
theorem dX12_layers_85 : decode cX12_layers 85 = .ok (.iaload, 1) := by decide +kernel
theorem dX12_layers_86 : decode cX12_layers 86 = .ok (.iastore, 1) := by decide +kernel
theorem dX12_layers_87 : decode cX12_layers 87 = .ok (.iinc 5 1, 3) := by decide +kernel
theorem dX12_layers_90 : decode cX12_layers 90 = .ok (.goto (-32), 3) := by decide +kernel
theorem dX12_layers_93 : decode cX12_layers 93 = .ok (.iload_n 1, 1) := by decide +kernel
theorem dX12_layers_94 : decode cX12_layers 94 = .ok (.iconst 1, 1) := by decide +kernel
theorem dX12_layers_95 : decode cX12_layers 95 = .ok (.isub, 1) := by decide +kernel
theorem dX12_layers_96 : decode cX12_layers 96 = .ok (.istore 5, 2) := by decide +kernel
theorem dX12_layers_98 : decode cX12_layers 98 = .ok (.iload 5, 2) := by decide +kernel
theorem dX12_layers_100 : decode cX12_layers 100 = .ok (.ifCond .lt 91, 3) := by decide +kernel
theorem dX12_layers_103 : decode cX12_layers 103 = .ok (.aload_n 0, 1) := by decide +kernel
theorem dX12_layers_104 : decode cX12_layers 104 = .ok (.iload_n 1, 1) := by decide +kernel
theorem dX12_layers_105 : decode cX12_layers 105 = .ok (.iload 5, 2) := by decide +kernel
theorem dX12_layers_107 : decode cX12_layers 107 = .ok (.invokevirtual 201, 3) := by decide +kernel
theorem dX12_layers_110 : decode cX12_layers 110 = .ok (.aload_n 0, 1) := by decide +kernel
theorem dX12_layers_111 : decode cX12_layers 111 = .ok (.aload_n 0, 1) := by decide +kernel
theorem dX12_layers_112 : decode cX12_layers 112 = .ok (.getfield 65, 3) := by decide +kernel
theorem dX12_layers_115 : decode cX12_layers 115 = .ok (.invokevirtual 121, 3) := by decide +kernel
theorem dX12_layers_118 : decode cX12_layers 118 = .ok (.iconst 1, 1) := by decide +kernel
theorem dX12_layers_119 : decode cX12_layers 119 = .ok (.istore 6, 2) := by decide +kernel
theorem dX12_layers_121 : decode cX12_layers 121 = .ok (.iconst 0, 1) := by decide +kernel
theorem dX12_layers_122 : decode cX12_layers 122 = .ok (.istore 7, 2) := by decide +kernel
theorem dX12_layers_124 : decode cX12_layers 124 = .ok (.iload 7, 2) := by decide +kernel
theorem dX12_layers_126 : decode cX12_layers 126 = .ok (.aload_n 0, 1) := by decide +kernel
theorem dX12_layers_127 : decode cX12_layers 127 = .ok (.getfield 31, 3) := by decide +kernel
theorem dX12_layers_130 : decode cX12_layers 130 = .ok (.aload_n 0, 1) := by decide +kernel
theorem dX12_layers_131 : decode cX12_layers 131 = .ok (.getfield 9, 3) := by decide +kernel
theorem dX12_layers_134 : decode cX12_layers 134 = .ok (.iaload, 1) := by decide +kernel
theorem dX12_layers_135 : decode cX12_layers 135 = .ok (.if_icmp .ge 36, 3) := by decide +kernel
theorem dX12_layers_138 : decode cX12_layers 138 = .ok (.iload 6, 2) := by decide +kernel
theorem dX12_layers_140 : decode cX12_layers 140 = .ok (.aload_n 0, 1) := by decide +kernel
theorem dX12_layers_141 : decode cX12_layers 141 = .ok (.getfield 34, 3) := by decide +kernel
theorem dX12_layers_144 : decode cX12_layers 144 = .ok (.iload 7, 2) := by decide +kernel
theorem dX12_layers_146 : decode cX12_layers 146 = .ok (.iaload, 1) := by decide +kernel
theorem dX12_layers_147 : decode cX12_layers 147 = .ok (.aload_n 0, 1) := by decide +kernel
theorem dX12_layers_148 : decode cX12_layers 148 = .ok (.getfield 40, 3) := by decide +kernel
theorem dX12_layers_151 : decode cX12_layers 151 = .ok (.iload 7, 2) := by decide +kernel
theorem dX12_layers_153 : decode cX12_layers 153 = .ok (.iaload, 1) := by decide +kernel
theorem dX12_layers_154 : decode cX12_layers 154 = .ok (.if_icmp .ne 7, 3) := by decide +kernel
theorem dX12_layers_157 : decode cX12_layers 157 = .ok (.iconst 1, 1) := by decide +kernel
theorem dX12_layers_158 : decode cX12_layers 158 = .ok (.goto 4, 3) := by decide +kernel
theorem dX12_layers_161 : decode cX12_layers 161 = .ok (.iconst 0, 1) := by decide +kernel
theorem dX12_layers_162 : decode cX12_layers 162 = .ok (.iand, 1) := by decide +kernel
theorem dX12_layers_163 : decode cX12_layers 163 = .ok (.istore 6, 2) := by decide +kernel
theorem dX12_layers_165 : decode cX12_layers 165 = .ok (.iinc 7 1, 3) := by decide +kernel
theorem dX12_layers_168 : decode cX12_layers 168 = .ok (.goto (-44), 3) := by decide +kernel
theorem dX12_layers_171 : decode cX12_layers 171 = .ok (.iload 6, 2) := by decide +kernel
theorem dX12_layers_173 : decode cX12_layers 173 = .ok (.ifCond .eq 8, 3) := by decide +kernel
theorem dX12_layers_176 : decode cX12_layers 176 = .ok (.iload 4, 2) := by decide +kernel
theorem dX12_layers_178 : decode cX12_layers 178 = .ok (.goto 5, 3) := by decide +kernel
theorem dX12_layers_181 : decode cX12_layers 181 = .ok (.iload 5, 2) := by decide +kernel
theorem dX12_layers_183 : decode cX12_layers 183 = .ok (.istore 4, 2) := by decide +kernel
theorem dX12_layers_185 : decode cX12_layers 185 = .ok (.iinc 5 (-1), 3) := by decide +kernel
theorem dX12_layers_188 : decode cX12_layers 188 = .ok (.goto (-90), 3) := by decide +kernel
theorem dX12_layers_191 : decode cX12_layers 191 = .ok (.iload_n 2, 1) := by decide +kernel
theorem dX12_layers_192 : decode cX12_layers 192 = .ok (.iconst 1, 1) := by decide +kernel
theorem dX12_layers_193 : decode cX12_layers 193 = .ok (.if_icmp .ne 8, 3) := by decide +kernel
theorem dX12_layers_196 : decode cX12_layers 196 = .ok (.iload 4, 2) := by decide +kernel
theorem dX12_layers_198 : decode cX12_layers 198 = .ok (.goto 15, 3) := by decide +kernel
theorem dX12_layers_201 : decode cX12_layers 201 = .ok (.iload 4, 2) := by decide +kernel
theorem dX12_layers_203 : decode cX12_layers 203 = .ok (.bipush (-5), 2) := by decide +kernel
theorem dX12_layers_205 : decode cX12_layers 205 = .ok (.if_icmp .ne 7, 3) := by decide +kernel
theorem dX12_layers_208 : decode cX12_layers 208 = .ok (.iconst 1, 1) := by decide +kernel
theorem dX12_layers_209 : decode cX12_layers 209 = .ok (.goto 4, 3) := by decide +kernel
theorem dX12_layers_212 : decode cX12_layers 212 = .ok (.iconst 0, 1) := by decide +kernel
theorem dX12_layers_213 : decode cX12_layers 213 = .ok (.ireturn, 1) := by decide +kernel
theorem dX12_tellsWays_0 : decode cX12_tellsWays 0 = .ok (.iconst 0, 1) := by decide +kernel
theorem dX12_tellsWays_1 : decode cX12_tellsWays 1 = .ok (.istore_n 1, 1) := by decide +kernel
theorem dX12_tellsWays_2 : decode cX12_tellsWays 2 = .ok (.iload_n 1, 1) := by decide +kernel
theorem dX12_tellsWays_3 : decode cX12_tellsWays 3 = .ok (.sipush 200, 3) := by decide +kernel
theorem dX12_tellsWays_6 : decode cX12_tellsWays 6 = .ok (.if_icmp .gt 24, 3) := by decide +kernel
theorem dX12_tellsWays_9 : decode cX12_tellsWays 9 = .ok (.aload_n 0, 1) := by decide +kernel
theorem dX12_tellsWays_10 : decode cX12_tellsWays 10 = .ok (.getfield 68, 3) := by decide +kernel
theorem dX12_tellsWays_13 : decode cX12_tellsWays 13 = .ok (.iload_n 1, 1) := by decide +kernel
theorem dX12_tellsWays_14 : decode cX12_tellsWays 14 = .ok (.iload_n 1, 1) := by decide +kernel
theorem dX12_tellsWays_15 : decode cX12_tellsWays 15 = .ok (.ifCond .ne 7, 3) := by decide +kernel
theorem dX12_tellsWays_18 : decode cX12_tellsWays 18 = .ok (.iconst 1, 1) := by decide +kernel
theorem dX12_tellsWays_19 : decode cX12_tellsWays 19 = .ok (.goto 4, 3) := by decide +kernel
theorem dX12_tellsWays_22 : decode cX12_tellsWays 22 = .ok (.iconst 0, 1) := by decide +kernel
theorem dX12_tellsWays_23 : decode cX12_tellsWays 23 = .ok (.iastore, 1) := by decide +kernel
theorem dX12_tellsWays_24 : decode cX12_tellsWays 24 = .ok (.iinc 1 1, 3) := by decide +kernel
theorem dX12_tellsWays_27 : decode cX12_tellsWays 27 = .ok (.goto (-25), 3) := by decide +kernel
theorem dX12_tellsWays_30 : decode cX12_tellsWays 30 = .ok (.iconst 2, 1) := by decide +kernel
theorem dX12_tellsWays_31 : decode cX12_tellsWays 31 = .ok (.istore_n 1, 1) := by decide +kernel
theorem dX12_tellsWays_32 : decode cX12_tellsWays 32 = .ok (.iload_n 1, 1) := by decide +kernel
theorem dX12_tellsWays_33 : decode cX12_tellsWays 33 = .ok (.aload_n 0, 1) := by decide +kernel
theorem dX12_tellsWays_34 : decode cX12_tellsWays 34 = .ok (.getfield 9, 3) := by decide +kernel
theorem dX12_tellsWays_37 : decode cX12_tellsWays 37 = .ok (.if_icmp .gt 49, 3) := by decide +kernel
theorem dX12_tellsWays_40 : decode cX12_tellsWays 40 = .ok (.iload_n 1, 1) := by decide +kernel
theorem dX12_tellsWays_41 : decode cX12_tellsWays 41 = .ok (.istore_n 2, 1) := by decide +kernel
theorem dX12_tellsWays_42 : decode cX12_tellsWays 42 = .ok (.iload_n 2, 1) := by decide +kernel
theorem dX12_tellsWays_43 : decode cX12_tellsWays 43 = .ok (.sipush 200, 3) := by decide +kernel
theorem dX12_tellsWays_46 : decode cX12_tellsWays 46 = .ok (.if_icmp .gt 34, 3) := by decide +kernel
theorem dX12_tellsWays_49 : decode cX12_tellsWays 49 = .ok (.aload_n 0, 1) := by decide +kernel
theorem dX12_tellsWays_50 : decode cX12_tellsWays 50 = .ok (.iload_n 1, 1) := by decide +kernel
theorem dX12_tellsWays_51 : decode cX12_tellsWays 51 = .ok (.invokevirtual 170, 3) := by decide +kernel
theorem dX12_tellsWays_54 : decode cX12_tellsWays 54 = .ok (.ifCond .eq 26, 3) := by decide +kernel
theorem dX12_tellsWays_57 : decode cX12_tellsWays 57 = .ok (.aload_n 0, 1) := by decide +kernel
theorem dX12_tellsWays_58 : decode cX12_tellsWays 58 = .ok (.getfield 68, 3) := by decide +kernel
theorem dX12_tellsWays_61 : decode cX12_tellsWays 61 = .ok (.iload_n 2, 1) := by decide +kernel
theorem dX12_tellsWays_62 : decode cX12_tellsWays 62 = .ok (.dup2, 1) := by decide +kernel
theorem dX12_tellsWays_63 : decode cX12_tellsWays 63 = .ok (.iaload, 1) := by decide +kernel
theorem dX12_tellsWays_64 : decode cX12_tellsWays 64 = .ok (.aload_n 0, 1) := by decide +kernel
theorem dX12_tellsWays_65 : decode cX12_tellsWays 65 = .ok (.getfield 68, 3) := by decide +kernel
theorem dX12_tellsWays_68 : decode cX12_tellsWays 68 = .ok (.iload_n 2, 1) := by decide +kernel
theorem dX12_tellsWays_69 : decode cX12_tellsWays 69 = .ok (.iload_n 1, 1) := by decide +kernel
theorem dX12_tellsWays_70 : decode cX12_tellsWays 70 = .ok (.isub, 1) := by decide +kernel
theorem dX12_tellsWays_71 : decode cX12_tellsWays 71 = .ok (.iaload, 1) := by decide +kernel
theorem dX12_tellsWays_72 : decode cX12_tellsWays 72 = .ok (.iadd, 1) := by decide +kernel
theorem dX12_tellsWays_73 : decode cX12_tellsWays 73 = .ok (.iastore, 1) := by decide +kernel
theorem dX12_tellsWays_74 : decode cX12_tellsWays 74 = .ok (.iinc 2 1, 3) := by decide +kernel
theorem dX12_tellsWays_77 : decode cX12_tellsWays 77 = .ok (.goto (-35), 3) := by decide +kernel
theorem dX12_tellsWays_80 : decode cX12_tellsWays 80 = .ok (.iinc 1 1, 3) := by decide +kernel
theorem dX12_tellsWays_83 : decode cX12_tellsWays 83 = .ok (.goto (-51), 3) := by decide +kernel
theorem dX12_tellsWays_86 : decode cX12_tellsWays 86 = .ok (.return_, 1) := by decide +kernel
theorem dX12_possible_0 : decode cX12_possible 0 = .ok (.iload_n 1, 1) := by decide +kernel
theorem dX12_possible_1 : decode cX12_possible 1 = .ok (.i2l, 1) := by decide +kernel
theorem dX12_possible_2 : decode cX12_possible 2 = .ok (.lconst 0, 1) := by decide +kernel
theorem dX12_possible_3 : decode cX12_possible 3 = .ok (.ldc2_w 204, 3) := by decide +kernel
theorem dX12_possible_6 : decode cX12_possible 6 = .ok (.invokestatic 97, 3) := by decide +kernel
theorem dX12_possible_9 : decode cX12_possible 9 = .ok (.ifCond .ne 6, 3) := by decide +kernel
theorem dX12_possible_12 : decode cX12_possible 12 = .ok (.bipush (-2), 2) := by decide +kernel
theorem dX12_possible_14 : decode cX12_possible 14 = .ok (.ireturn, 1) := by decide +kernel
theorem dX12_possible_15 : decode cX12_possible 15 = .ok (.aload_n 0, 1) := by decide +kernel
theorem dX12_possible_16 : decode cX12_possible 16 = .ok (.invokevirtual 206, 3) := by decide +kernel
theorem dX12_possible_19 : decode cX12_possible 19 = .ok (.aload_n 0, 1) := by decide +kernel
theorem dX12_possible_20 : decode cX12_possible 20 = .ok (.getfield 68, 3) := by decide +kernel
theorem dX12_possible_23 : decode cX12_possible 23 = .ok (.iload_n 1, 1) := by decide +kernel
theorem dX12_possible_24 : decode cX12_possible 24 = .ok (.iaload, 1) := by decide +kernel
theorem dX12_possible_25 : decode cX12_possible 25 = .ok (.ifCond .le 7, 3) := by decide +kernel
theorem dX12_possible_28 : decode cX12_possible 28 = .ok (.iconst 1, 1) := by decide +kernel
theorem dX12_possible_29 : decode cX12_possible 29 = .ok (.goto 4, 3) := by decide +kernel
theorem dX12_possible_32 : decode cX12_possible 32 = .ok (.iconst 0, 1) := by decide +kernel
theorem dX12_possible_33 : decode cX12_possible 33 = .ok (.ireturn, 1) := by decide +kernel
theorem dX12_ways_0 : decode cX12_ways 0 = .ok (.iload_n 1, 1) := by decide +kernel
theorem dX12_ways_1 : decode cX12_ways 1 = .ok (.i2l, 1) := by decide +kernel
theorem dX12_ways_2 : decode cX12_ways 2 = .ok (.lconst 0, 1) := by decide +kernel
theorem dX12_ways_3 : decode cX12_ways 3 = .ok (.ldc2_w 204, 3) := by decide +kernel
theorem dX12_ways_6 : decode cX12_ways 6 = .ok (.invokestatic 97, 3) := by decide +kernel
theorem dX12_ways_9 : decode cX12_ways 9 = .ok (.ifCond .ne 6, 3) := by decide +kernel
theorem dX12_ways_12 : decode cX12_ways 12 = .ok (.bipush (-2), 2) := by decide +kernel
theorem dX12_ways_14 : decode cX12_ways 14 = .ok (.ireturn, 1) := by decide +kernel
theorem dX12_ways_15 : decode cX12_ways 15 = .ok (.aload_n 0, 1) := by decide +kernel
theorem dX12_ways_16 : decode cX12_ways 16 = .ok (.invokevirtual 206, 3) := by decide +kernel
theorem dX12_ways_19 : decode cX12_ways 19 = .ok (.aload_n 0, 1) := by decide +kernel
theorem dX12_ways_20 : decode cX12_ways 20 = .ok (.getfield 68, 3) := by decide +kernel
theorem dX12_ways_23 : decode cX12_ways 23 = .ok (.iload_n 1, 1) := by decide +kernel
theorem dX12_ways_24 : decode cX12_ways 24 = .ok (.iaload, 1) := by decide +kernel
theorem dX12_ways_25 : decode cX12_ways 25 = .ok (.ireturn, 1) := by decide +kernel
theorem dX12_hole_0 : decode cX12_hole 0 = .ok (.iload_n 1, 1) := by decide +kernel
theorem dX12_hole_1 : decode cX12_hole 1 = .ok (.ifCond .ge 5, 3) := by decide +kernel
theorem dX12_hole_4 : decode cX12_hole 4 = .ok (.iconst (-1), 1) := by decide +kernel
theorem dX12_hole_5 : decode cX12_hole 5 = .ok (.ireturn, 1) := by decide +kernel
theorem dX12_hole_6 : decode cX12_hole 6 = .ok (.aload_n 0, 1) := by decide +kernel
theorem dX12_hole_7 : decode cX12_hole 7 = .ok (.invokevirtual 206, 3) := by decide +kernel
theorem dX12_hole_10 : decode cX12_hole 10 = .ok (.iconst 0, 1) := by decide +kernel
theorem dX12_hole_11 : decode cX12_hole 11 = .ok (.istore_n 2, 1) := by decide +kernel
theorem dX12_hole_12 : decode cX12_hole 12 = .ok (.iconst 1, 1) := by decide +kernel
theorem dX12_hole_13 : decode cX12_hole 13 = .ok (.istore_n 3, 1) := by decide +kernel
theorem dX12_hole_14 : decode cX12_hole 14 = .ok (.iload_n 3, 1) := by decide +kernel
theorem dX12_hole_15 : decode cX12_hole 15 = .ok (.sipush 200, 3) := by decide +kernel
theorem dX12_hole_18 : decode cX12_hole 18 = .ok (.if_icmp .gt 28, 3) := by decide +kernel
theorem dX12_hole_21 : decode cX12_hole 21 = .ok (.aload_n 0, 1) := by decide +kernel
theorem dX12_hole_22 : decode cX12_hole 22 = .ok (.getfield 68, 3) := by decide +kernel
theorem dX12_hole_25 : decode cX12_hole 25 = .ok (.iload_n 3, 1) := by decide +kernel
theorem dX12_hole_26 : decode cX12_hole 26 = .ok (.iaload, 1) := by decide +kernel
theorem dX12_hole_27 : decode cX12_hole 27 = .ok (.ifCond .ne 13, 3) := by decide +kernel
theorem dX12_hole_30 : decode cX12_hole 30 = .ok (.iload_n 2, 1) := by decide +kernel
theorem dX12_hole_31 : decode cX12_hole 31 = .ok (.iload_n 1, 1) := by decide +kernel
theorem dX12_hole_32 : decode cX12_hole 32 = .ok (.if_icmp .ne 5, 3) := by decide +kernel
theorem dX12_hole_35 : decode cX12_hole 35 = .ok (.iload_n 3, 1) := by decide +kernel
theorem dX12_hole_36 : decode cX12_hole 36 = .ok (.ireturn, 1) := by decide +kernel
theorem dX12_hole_37 : decode cX12_hole 37 = .ok (.iinc 2 1, 3) := by decide +kernel
theorem dX12_hole_40 : decode cX12_hole 40 = .ok (.iinc 3 1, 3) := by decide +kernel
theorem dX12_hole_43 : decode cX12_hole 43 = .ok (.goto (-29), 3) := by decide +kernel
theorem dX12_hole_46 : decode cX12_hole 46 = .ok (.bipush (-5), 2) := by decide +kernel
theorem dX12_hole_48 : decode cX12_hole 48 = .ok (.ireturn, 1) := by decide +kernel
theorem dX12_tellsSets_0 : decode cX12_tellsSets 0 = .ok (.iconst 0, 1) := by decide +kernel
theorem dX12_tellsSets_1 : decode cX12_tellsSets 1 = .ok (.istore_n 1, 1) := by decide +kernel
theorem dX12_tellsSets_2 : decode cX12_tellsSets 2 = .ok (.iload_n 1, 1) := by decide +kernel
theorem dX12_tellsSets_3 : decode cX12_tellsSets 3 = .ok (.iconst 1, 1) := by decide +kernel
theorem dX12_tellsSets_4 : decode cX12_tellsSets 4 = .ok (.aload_n 0, 1) := by decide +kernel
theorem dX12_tellsSets_5 : decode cX12_tellsSets 5 = .ok (.getfield 9, 3) := by decide +kernel
theorem dX12_tellsSets_8 : decode cX12_tellsSets 8 = .ok (.ishl, 1) := by decide +kernel
theorem dX12_tellsSets_9 : decode cX12_tellsSets 9 = .ok (.if_icmp .ge 60, 3) := by decide +kernel
theorem dX12_tellsSets_12 : decode cX12_tellsSets 12 = .ok (.iconst 0, 1) := by decide +kernel
theorem dX12_tellsSets_13 : decode cX12_tellsSets 13 = .ok (.istore_n 2, 1) := by decide +kernel
theorem dX12_tellsSets_14 : decode cX12_tellsSets 14 = .ok (.iload_n 2, 1) := by decide +kernel
theorem dX12_tellsSets_15 : decode cX12_tellsSets 15 = .ok (.bipush 30, 2) := by decide +kernel
theorem dX12_tellsSets_17 : decode cX12_tellsSets 17 = .ok (.if_icmp .ge 32, 3) := by decide +kernel
theorem dX12_tellsSets_20 : decode cX12_tellsSets 20 = .ok (.aload_n 0, 1) := by decide +kernel
theorem dX12_tellsSets_21 : decode cX12_tellsSets 21 = .ok (.getfield 43, 3) := by decide +kernel
theorem dX12_tellsSets_24 : decode cX12_tellsSets 24 = .ok (.iload_n 2, 1) := by decide +kernel
theorem dX12_tellsSets_25 : decode cX12_tellsSets 25 = .ok (.iload_n 2, 1) := by decide +kernel
theorem dX12_tellsSets_26 : decode cX12_tellsSets 26 = .ok (.aload_n 0, 1) := by decide +kernel
theorem dX12_tellsSets_27 : decode cX12_tellsSets 27 = .ok (.getfield 9, 3) := by decide +kernel
theorem dX12_tellsSets_30 : decode cX12_tellsSets 30 = .ok (.if_icmp .ge 11, 3) := by decide +kernel
theorem dX12_tellsSets_33 : decode cX12_tellsSets 33 = .ok (.iload_n 1, 1) := by decide +kernel
theorem dX12_tellsSets_34 : decode cX12_tellsSets 34 = .ok (.iload_n 2, 1) := by decide +kernel
theorem dX12_tellsSets_35 : decode cX12_tellsSets 35 = .ok (.ishr, 1) := by decide +kernel
theorem dX12_tellsSets_36 : decode cX12_tellsSets 36 = .ok (.iconst 1, 1) := by decide +kernel
theorem dX12_tellsSets_37 : decode cX12_tellsSets 37 = .ok (.iand, 1) := by decide +kernel
theorem dX12_tellsSets_38 : decode cX12_tellsSets 38 = .ok (.goto 4, 3) := by decide +kernel
theorem dX12_tellsSets_41 : decode cX12_tellsSets 41 = .ok (.iconst 0, 1) := by decide +kernel
theorem dX12_tellsSets_42 : decode cX12_tellsSets 42 = .ok (.iastore, 1) := by decide +kernel
theorem dX12_tellsSets_43 : decode cX12_tellsSets 43 = .ok (.iinc 2 1, 3) := by decide +kernel
theorem dX12_tellsSets_46 : decode cX12_tellsSets 46 = .ok (.goto (-32), 3) := by decide +kernel
theorem dX12_tellsSets_49 : decode cX12_tellsSets 49 = .ok (.aload_n 0, 1) := by decide +kernel
theorem dX12_tellsSets_50 : decode cX12_tellsSets 50 = .ok (.getfield 71, 3) := by decide +kernel
theorem dX12_tellsSets_53 : decode cX12_tellsSets 53 = .ok (.iload_n 1, 1) := by decide +kernel
theorem dX12_tellsSets_54 : decode cX12_tellsSets 54 = .ok (.aload_n 0, 1) := by decide +kernel
theorem dX12_tellsSets_55 : decode cX12_tellsSets 55 = .ok (.aload_n 0, 1) := by decide +kernel
theorem dX12_tellsSets_56 : decode cX12_tellsSets 56 = .ok (.getfield 43, 3) := by decide +kernel
theorem dX12_tellsSets_59 : decode cX12_tellsSets 59 = .ok (.invokevirtual 129, 3) := by decide +kernel
theorem dX12_tellsSets_62 : decode cX12_tellsSets 62 = .ok (.bastore, 1) := by decide +kernel
theorem dX12_tellsSets_63 : decode cX12_tellsSets 63 = .ok (.iinc 1 1, 3) := by decide +kernel
theorem dX12_tellsSets_66 : decode cX12_tellsSets 66 = .ok (.goto (-64), 3) := by decide +kernel
theorem dX12_tellsSets_69 : decode cX12_tellsSets 69 = .ok (.return_, 1) := by decide +kernel
theorem dX12_isPrimitive_0 : decode cX12_isPrimitive 0 = .ok (.iload_n 1, 1) := by decide +kernel
theorem dX12_isPrimitive_1 : decode cX12_isPrimitive 1 = .ok (.ifCond .eq 12, 3) := by decide +kernel
theorem dX12_isPrimitive_4 : decode cX12_isPrimitive 4 = .ok (.aload_n 0, 1) := by decide +kernel
theorem dX12_isPrimitive_5 : decode cX12_isPrimitive 5 = .ok (.getfield 71, 3) := by decide +kernel
theorem dX12_isPrimitive_8 : decode cX12_isPrimitive 8 = .ok (.iload_n 1, 1) := by decide +kernel
theorem dX12_isPrimitive_9 : decode cX12_isPrimitive 9 = .ok (.baload, 1) := by decide +kernel
theorem dX12_isPrimitive_10 : decode cX12_isPrimitive 10 = .ok (.ifCond .ne 5, 3) := by decide +kernel
theorem dX12_isPrimitive_13 : decode cX12_isPrimitive 13 = .ok (.iconst 0, 1) := by decide +kernel
theorem dX12_isPrimitive_14 : decode cX12_isPrimitive 14 = .ok (.ireturn, 1) := by decide +kernel
theorem dX12_isPrimitive_15 : decode cX12_isPrimitive 15 = .ok (.iload_n 1, 1) := by decide +kernel
theorem dX12_isPrimitive_16 : decode cX12_isPrimitive 16 = .ok (.iconst 1, 1) := by decide +kernel
theorem dX12_isPrimitive_17 : decode cX12_isPrimitive 17 = .ok (.isub, 1) := by decide +kernel
theorem dX12_isPrimitive_18 : decode cX12_isPrimitive 18 = .ok (.iload_n 1, 1) := by decide +kernel
theorem dX12_isPrimitive_19 : decode cX12_isPrimitive 19 = .ok (.iand, 1) := by decide +kernel
theorem dX12_isPrimitive_20 : decode cX12_isPrimitive 20 = .ok (.istore_n 2, 1) := by decide +kernel
theorem dX12_isPrimitive_21 : decode cX12_isPrimitive 21 = .ok (.iload_n 2, 1) := by decide +kernel
theorem dX12_isPrimitive_22 : decode cX12_isPrimitive 22 = .ok (.ifCond .le 23, 3) := by decide +kernel
theorem dX12_isPrimitive_25 : decode cX12_isPrimitive 25 = .ok (.aload_n 0, 1) := by decide +kernel
theorem dX12_isPrimitive_26 : decode cX12_isPrimitive 26 = .ok (.getfield 71, 3) := by decide +kernel
theorem dX12_isPrimitive_29 : decode cX12_isPrimitive 29 = .ok (.iload_n 2, 1) := by decide +kernel
theorem dX12_isPrimitive_30 : decode cX12_isPrimitive 30 = .ok (.baload, 1) := by decide +kernel
theorem dX12_isPrimitive_31 : decode cX12_isPrimitive 31 = .ok (.ifCond .eq 5, 3) := by decide +kernel
theorem dX12_isPrimitive_34 : decode cX12_isPrimitive 34 = .ok (.iconst 0, 1) := by decide +kernel
theorem dX12_isPrimitive_35 : decode cX12_isPrimitive 35 = .ok (.ireturn, 1) := by decide +kernel
theorem dX12_isPrimitive_36 : decode cX12_isPrimitive 36 = .ok (.iload_n 2, 1) := by decide +kernel
theorem dX12_isPrimitive_37 : decode cX12_isPrimitive 37 = .ok (.iconst 1, 1) := by decide +kernel
theorem dX12_isPrimitive_38 : decode cX12_isPrimitive 38 = .ok (.isub, 1) := by decide +kernel
theorem dX12_isPrimitive_39 : decode cX12_isPrimitive 39 = .ok (.iload_n 1, 1) := by decide +kernel
theorem dX12_isPrimitive_40 : decode cX12_isPrimitive 40 = .ok (.iand, 1) := by decide +kernel
theorem dX12_isPrimitive_41 : decode cX12_isPrimitive 41 = .ok (.istore_n 2, 1) := by decide +kernel
theorem dX12_isPrimitive_42 : decode cX12_isPrimitive 42 = .ok (.goto (-21), 3) := by decide +kernel
theorem dX12_isPrimitive_45 : decode cX12_isPrimitive 45 = .ok (.iconst 1, 1) := by decide +kernel
theorem dX12_isPrimitive_46 : decode cX12_isPrimitive 46 = .ok (.ireturn, 1) := by decide +kernel
theorem dX12_isLeast_0 : decode cX12_isLeast 0 = .ok (.iconst 1, 1) := by decide +kernel
theorem dX12_isLeast_1 : decode cX12_isLeast 1 = .ok (.istore_n 2, 1) := by decide +kernel
theorem dX12_isLeast_2 : decode cX12_isLeast 2 = .ok (.iconst 1, 1) := by decide +kernel
theorem dX12_isLeast_3 : decode cX12_isLeast 3 = .ok (.istore_n 3, 1) := by decide +kernel
theorem dX12_isLeast_4 : decode cX12_isLeast 4 = .ok (.iload_n 3, 1) := by decide +kernel
theorem dX12_isLeast_5 : decode cX12_isLeast 5 = .ok (.aload_n 0, 1) := by decide +kernel
theorem dX12_isLeast_6 : decode cX12_isLeast 6 = .ok (.getfield 9, 3) := by decide +kernel
theorem dX12_isLeast_9 : decode cX12_isLeast 9 = .ok (.if_icmp .ge 46, 3) := by decide +kernel
theorem dX12_isLeast_12 : decode cX12_isLeast 12 = .ok (.iload_n 1, 1) := by decide +kernel
theorem dX12_isLeast_13 : decode cX12_isLeast 13 = .ok (.iload_n 3, 1) := by decide +kernel
theorem dX12_isLeast_14 : decode cX12_isLeast 14 = .ok (.ishl, 1) := by decide +kernel
theorem dX12_isLeast_15 : decode cX12_isLeast 15 = .ok (.iload_n 1, 1) := by decide +kernel
theorem dX12_isLeast_16 : decode cX12_isLeast 16 = .ok (.aload_n 0, 1) := by decide +kernel
theorem dX12_isLeast_17 : decode cX12_isLeast 17 = .ok (.getfield 9, 3) := by decide +kernel
theorem dX12_isLeast_20 : decode cX12_isLeast 20 = .ok (.iload_n 3, 1) := by decide +kernel
theorem dX12_isLeast_21 : decode cX12_isLeast 21 = .ok (.isub, 1) := by decide +kernel
theorem dX12_isLeast_22 : decode cX12_isLeast 22 = .ok (.ishr, 1) := by decide +kernel
theorem dX12_isLeast_23 : decode cX12_isLeast 23 = .ok (.ior, 1) := by decide +kernel
theorem dX12_isLeast_24 : decode cX12_isLeast 24 = .ok (.iconst 1, 1) := by decide +kernel
theorem dX12_isLeast_25 : decode cX12_isLeast 25 = .ok (.aload_n 0, 1) := by decide +kernel
theorem dX12_isLeast_26 : decode cX12_isLeast 26 = .ok (.getfield 9, 3) := by decide +kernel
theorem dX12_isLeast_29 : decode cX12_isLeast 29 = .ok (.ishl, 1) := by decide +kernel
theorem dX12_isLeast_30 : decode cX12_isLeast 30 = .ok (.iconst 1, 1) := by decide +kernel
theorem dX12_isLeast_31 : decode cX12_isLeast 31 = .ok (.isub, 1) := by decide +kernel
theorem dX12_isLeast_32 : decode cX12_isLeast 32 = .ok (.iand, 1) := by decide +kernel
theorem dX12_isLeast_33 : decode cX12_isLeast 33 = .ok (.istore 4, 2) := by decide +kernel
theorem dX12_isLeast_35 : decode cX12_isLeast 35 = .ok (.iload_n 2, 1) := by decide +kernel
theorem dX12_isLeast_36 : decode cX12_isLeast 36 = .ok (.iload_n 1, 1) := by decide +kernel
theorem dX12_isLeast_37 : decode cX12_isLeast 37 = .ok (.iload 4, 2) := by decide +kernel
theorem dX12_isLeast_39 : decode cX12_isLeast 39 = .ok (.if_icmp .gt 7, 3) := by decide +kernel
theorem dX12_isLeast_42 : decode cX12_isLeast 42 = .ok (.iconst 1, 1) := by decide +kernel
theorem dX12_isLeast_43 : decode cX12_isLeast 43 = .ok (.goto 4, 3) := by decide +kernel
theorem dX12_isLeast_46 : decode cX12_isLeast 46 = .ok (.iconst 0, 1) := by decide +kernel
theorem dX12_isLeast_47 : decode cX12_isLeast 47 = .ok (.iand, 1) := by decide +kernel
theorem dX12_isLeast_48 : decode cX12_isLeast 48 = .ok (.istore_n 2, 1) := by decide +kernel
theorem dX12_isLeast_49 : decode cX12_isLeast 49 = .ok (.iinc 3 1, 3) := by decide +kernel
theorem dX12_isLeast_52 : decode cX12_isLeast 52 = .ok (.goto (-48), 3) := by decide +kernel
theorem dX12_isLeast_55 : decode cX12_isLeast 55 = .ok (.iload_n 2, 1) := by decide +kernel
theorem dX12_isLeast_56 : decode cX12_isLeast 56 = .ok (.ireturn, 1) := by decide +kernel
theorem dX12_listed_0 : decode cX12_listed 0 = .ok (.iload_n 1, 1) := by decide +kernel
theorem dX12_listed_1 : decode cX12_listed 1 = .ok (.i2l, 1) := by decide +kernel
theorem dX12_listed_2 : decode cX12_listed 2 = .ok (.lconst 1, 1) := by decide +kernel
theorem dX12_listed_3 : decode cX12_listed 3 = .ok (.ldc2_w 209, 3) := by decide +kernel
theorem dX12_listed_6 : decode cX12_listed 6 = .ok (.invokestatic 97, 3) := by decide +kernel
theorem dX12_listed_9 : decode cX12_listed 9 = .ok (.ifCond .ne 6, 3) := by decide +kernel
theorem dX12_listed_12 : decode cX12_listed 12 = .ok (.bipush (-2), 2) := by decide +kernel
theorem dX12_listed_14 : decode cX12_listed 14 = .ok (.ireturn, 1) := by decide +kernel
theorem dX12_listed_15 : decode cX12_listed 15 = .ok (.aload_n 0, 1) := by decide +kernel
theorem dX12_listed_16 : decode cX12_listed 16 = .ok (.getfield 9, 3) := by decide +kernel
theorem dX12_listed_19 : decode cX12_listed 19 = .ok (.bipush 12, 2) := by decide +kernel
theorem dX12_listed_21 : decode cX12_listed 21 = .ok (.if_icmp .le 6, 3) := by decide +kernel
theorem dX12_listed_24 : decode cX12_listed 24 = .ok (.bipush (-3), 2) := by decide +kernel
theorem dX12_listed_26 : decode cX12_listed 26 = .ok (.ireturn, 1) := by decide +kernel
theorem dX12_listed_27 : decode cX12_listed 27 = .ok (.aload_n 0, 1) := by decide +kernel
theorem dX12_listed_28 : decode cX12_listed 28 = .ok (.invokevirtual 211, 3) := by decide +kernel
theorem dX12_listed_31 : decode cX12_listed 31 = .ok (.iconst 0, 1) := by decide +kernel
theorem dX12_listed_32 : decode cX12_listed 32 = .ok (.istore_n 3, 1) := by decide +kernel
theorem dX12_listed_33 : decode cX12_listed 33 = .ok (.iconst 1, 1) := by decide +kernel
theorem dX12_listed_34 : decode cX12_listed 34 = .ok (.istore 4, 2) := by decide +kernel
theorem dX12_listed_36 : decode cX12_listed 36 = .ok (.iload 4, 2) := by decide +kernel
theorem dX12_listed_38 : decode cX12_listed 38 = .ok (.iconst 1, 1) := by decide +kernel
theorem dX12_listed_39 : decode cX12_listed 39 = .ok (.aload_n 0, 1) := by decide +kernel
theorem dX12_listed_40 : decode cX12_listed 40 = .ok (.getfield 9, 3) := by decide +kernel
theorem dX12_listed_43 : decode cX12_listed 43 = .ok (.ishl, 1) := by decide +kernel
theorem dX12_listed_44 : decode cX12_listed 44 = .ok (.if_icmp .ge 47, 3) := by decide +kernel
theorem dX12_listed_47 : decode cX12_listed 47 = .ok (.iload 4, 2) := by decide +kernel
theorem dX12_listed_49 : decode cX12_listed 49 = .ok (.invokestatic 214, 3) := by decide +kernel
theorem dX12_listed_52 : decode cX12_listed 52 = .ok (.iload_n 1, 1) := by decide +kernel
theorem dX12_listed_53 : decode cX12_listed 53 = .ok (.if_icmp .ne 32, 3) := by decide +kernel
theorem dX12_listed_56 : decode cX12_listed 56 = .ok (.aload_n 0, 1) := by decide +kernel
theorem dX12_listed_57 : decode cX12_listed 57 = .ok (.iload 4, 2) := by decide +kernel
theorem dX12_listed_59 : decode cX12_listed 59 = .ok (.invokevirtual 219, 3) := by decide +kernel
theorem dX12_listed_62 : decode cX12_listed 62 = .ok (.ifCond .eq 23, 3) := by decide +kernel
theorem dX12_listed_65 : decode cX12_listed 65 = .ok (.aload_n 0, 1) := by decide +kernel
theorem dX12_listed_66 : decode cX12_listed 66 = .ok (.iload 4, 2) := by decide +kernel
theorem dX12_listed_68 : decode cX12_listed 68 = .ok (.invokevirtual 222, 3) := by decide +kernel
theorem dX12_listed_71 : decode cX12_listed 71 = .ok (.ifCond .eq 14, 3) := by decide +kernel
theorem dX12_listed_74 : decode cX12_listed 74 = .ok (.iload_n 3, 1) := by decide +kernel
theorem dX12_listed_75 : decode cX12_listed 75 = .ok (.iload_n 2, 1) := by decide +kernel
theorem dX12_listed_76 : decode cX12_listed 76 = .ok (.if_icmp .ne 6, 3) := by decide +kernel
theorem dX12_listed_79 : decode cX12_listed 79 = .ok (.iload 4, 2) := by decide +kernel
theorem dX12_listed_81 : decode cX12_listed 81 = .ok (.ireturn, 1) := by decide +kernel
theorem dX12_listed_82 : decode cX12_listed 82 = .ok (.iinc 3 1, 3) := by decide +kernel
theorem dX12_listed_85 : decode cX12_listed 85 = .ok (.iinc 4 1, 3) := by decide +kernel
theorem dX12_listed_88 : decode cX12_listed 88 = .ok (.goto (-52), 3) := by decide +kernel
theorem dX12_listed_91 : decode cX12_listed 91 = .ok (.iload_n 2, 1) := by decide +kernel
theorem dX12_listed_92 : decode cX12_listed 92 = .ok (.iconst (-1), 1) := by decide +kernel
theorem dX12_listed_93 : decode cX12_listed 93 = .ok (.if_icmp .ne 7, 3) := by decide +kernel
theorem dX12_listed_96 : decode cX12_listed 96 = .ok (.iload_n 3, 1) := by decide +kernel
theorem dX12_listed_97 : decode cX12_listed 97 = .ok (.goto 4, 3) := by decide +kernel
theorem dX12_listed_100 : decode cX12_listed 100 = .ok (.iconst (-1), 1) := by decide +kernel
theorem dX12_listed_101 : decode cX12_listed 101 = .ok (.ireturn, 1) := by decide +kernel
theorem dX12_filled_0 : decode cX12_filled 0 = .ok (.aload_n 0, 1) := by decide +kernel
theorem dX12_filled_1 : decode cX12_filled 1 = .ok (.getfield 9, 3) := by decide +kernel
theorem dX12_filled_4 : decode cX12_filled 4 = .ok (.bipush 12, 2) := by decide +kernel
theorem dX12_filled_6 : decode cX12_filled 6 = .ok (.if_icmp .le 6, 3) := by decide +kernel
theorem dX12_filled_9 : decode cX12_filled 9 = .ok (.bipush (-3), 2) := by decide +kernel
theorem dX12_filled_11 : decode cX12_filled 11 = .ok (.ireturn, 1) := by decide +kernel
theorem dX12_filled_12 : decode cX12_filled 12 = .ok (.iload_n 1, 1) := by decide +kernel
theorem dX12_filled_13 : decode cX12_filled 13 = .ok (.i2l, 1) := by decide +kernel
theorem dX12_filled_14 : decode cX12_filled 14 = .ok (.lconst 0, 1) := by decide +kernel
theorem dX12_filled_15 : decode cX12_filled 15 = .ok (.iconst 1, 1) := by decide +kernel
theorem dX12_filled_16 : decode cX12_filled 16 = .ok (.aload_n 0, 1) := by decide +kernel
theorem dX12_filled_17 : decode cX12_filled 17 = .ok (.getfield 9, 3) := by decide +kernel
theorem dX12_filled_20 : decode cX12_filled 20 = .ok (.ishl, 1) := by decide +kernel
theorem dX12_filled_21 : decode cX12_filled 21 = .ok (.iconst 1, 1) := by decide +kernel
theorem dX12_filled_22 : decode cX12_filled 22 = .ok (.isub, 1) := by decide +kernel
theorem dX12_filled_23 : decode cX12_filled 23 = .ok (.i2l, 1) := by decide +kernel
theorem dX12_filled_24 : decode cX12_filled 24 = .ok (.invokestatic 97, 3) := by decide +kernel
theorem dX12_filled_27 : decode cX12_filled 27 = .ok (.ifCond .ne 6, 3) := by decide +kernel
theorem dX12_filled_30 : decode cX12_filled 30 = .ok (.bipush (-2), 2) := by decide +kernel
theorem dX12_filled_32 : decode cX12_filled 32 = .ok (.ireturn, 1) := by decide +kernel
theorem dX12_filled_33 : decode cX12_filled 33 = .ok (.iload_n 2, 1) := by decide +kernel
theorem dX12_filled_34 : decode cX12_filled 34 = .ok (.i2l, 1) := by decide +kernel
theorem dX12_filled_35 : decode cX12_filled 35 = .ok (.lconst 0, 1) := by decide +kernel
theorem dX12_filled_36 : decode cX12_filled 36 = .ok (.lconst 1, 1) := by decide +kernel
theorem dX12_filled_37 : decode cX12_filled 37 = .ok (.invokestatic 97, 3) := by decide +kernel
theorem dX12_filled_40 : decode cX12_filled 40 = .ok (.ifCond .ne 5, 3) := by decide +kernel
theorem dX12_filled_43 : decode cX12_filled 43 = .ok (.iconst (-1), 1) := by decide +kernel
theorem dX12_filled_44 : decode cX12_filled 44 = .ok (.ireturn, 1) := by decide +kernel
theorem dX12_filled_45 : decode cX12_filled 45 = .ok (.aload_n 0, 1) := by decide +kernel
theorem dX12_filled_46 : decode cX12_filled 46 = .ok (.invokevirtual 211, 3) := by decide +kernel
theorem dX12_filled_49 : decode cX12_filled 49 = .ok (.iconst 1, 1) := by decide +kernel
theorem dX12_filled_50 : decode cX12_filled 50 = .ok (.aload_n 0, 1) := by decide +kernel
theorem dX12_filled_51 : decode cX12_filled 51 = .ok (.getfield 9, 3) := by decide +kernel
theorem dX12_filled_54 : decode cX12_filled 54 = .ok (.ishl, 1) := by decide +kernel
theorem dX12_filled_55 : decode cX12_filled 55 = .ok (.iconst 1, 1) := by decide +kernel
theorem dX12_filled_56 : decode cX12_filled 56 = .ok (.isub, 1) := by decide +kernel
theorem dX12_filled_57 : decode cX12_filled 57 = .ok (.istore_n 3, 1) := by decide +kernel
theorem dX12_filled_58 : decode cX12_filled 58 = .ok (.iload_n 3, 1) := by decide +kernel
theorem dX12_filled_59 : decode cX12_filled 59 = .ok (.istore 4, 2) := by decide +kernel
theorem dX12_filled_61 : decode cX12_filled 61 = .ok (.iload 4, 2) := by decide +kernel
theorem dX12_filled_63 : decode cX12_filled 63 = .ok (.ifCond .lt 58, 3) := by decide +kernel
theorem dX12_filled_66 : decode cX12_filled 66 = .ok (.iload 4, 2) := by decide +kernel
theorem dX12_filled_68 : decode cX12_filled 68 = .ok (.iload_n 1, 1) := by decide +kernel
theorem dX12_filled_69 : decode cX12_filled 69 = .ok (.iand, 1) := by decide +kernel
theorem dX12_filled_70 : decode cX12_filled 70 = .ok (.iload_n 1, 1) := by decide +kernel
theorem dX12_filled_71 : decode cX12_filled 71 = .ok (.if_icmp .ne 17, 3) := by decide +kernel
theorem dX12_filled_74 : decode cX12_filled 74 = .ok (.aload_n 0, 1) := by decide +kernel
theorem dX12_filled_75 : decode cX12_filled 75 = .ok (.getfield 71, 3) := by decide +kernel
theorem dX12_filled_78 : decode cX12_filled 78 = .ok (.iload 4, 2) := by decide +kernel
theorem dX12_filled_80 : decode cX12_filled 80 = .ok (.baload, 1) := by decide +kernel
theorem dX12_filled_81 : decode cX12_filled 81 = .ok (.ifCond .eq 7, 3) := by decide +kernel
theorem dX12_filled_84 : decode cX12_filled 84 = .ok (.iconst 1, 1) := by decide +kernel
theorem dX12_filled_85 : decode cX12_filled 85 = .ok (.goto 4, 3) := by decide +kernel
theorem dX12_filled_88 : decode cX12_filled 88 = .ok (.iconst 0, 1) := by decide +kernel
theorem dX12_filled_89 : decode cX12_filled 89 = .ok (.istore 5, 2) := by decide +kernel
theorem dX12_filled_91 : decode cX12_filled 91 = .ok (.iload 5, 2) := by decide +kernel
theorem dX12_filled_93 : decode cX12_filled 93 = .ok (.ifCond .eq 20, 3) := by decide +kernel
theorem dX12_filled_96 : decode cX12_filled 96 = .ok (.iload 4, 2) := by decide +kernel
theorem dX12_filled_98 : decode cX12_filled 98 = .ok (.invokestatic 214, 3) := by decide +kernel
theorem dX12_filled_101 : decode cX12_filled 101 = .ok (.iload_n 3, 1) := by decide +kernel
theorem dX12_filled_102 : decode cX12_filled 102 = .ok (.invokestatic 214, 3) := by decide +kernel
theorem dX12_filled_105 : decode cX12_filled 105 = .ok (.if_icmp .gt 8, 3) := by decide +kernel
theorem dX12_filled_108 : decode cX12_filled 108 = .ok (.iload 4, 2) := by decide +kernel
theorem dX12_filled_110 : decode cX12_filled 110 = .ok (.goto 4, 3) := by decide +kernel
theorem dX12_filled_113 : decode cX12_filled 113 = .ok (.iload_n 3, 1) := by decide +kernel
theorem dX12_filled_114 : decode cX12_filled 114 = .ok (.istore_n 3, 1) := by decide +kernel
theorem dX12_filled_115 : decode cX12_filled 115 = .ok (.iinc 4 (-1), 3) := by decide +kernel
theorem dX12_filled_118 : decode cX12_filled 118 = .ok (.goto (-57), 3) := by decide +kernel
theorem dX12_filled_121 : decode cX12_filled 121 = .ok (.iload_n 2, 1) := by decide +kernel
theorem dX12_filled_122 : decode cX12_filled 122 = .ok (.ifCond .ne 10, 3) := by decide +kernel
theorem dX12_filled_125 : decode cX12_filled 125 = .ok (.iload_n 3, 1) := by decide +kernel
theorem dX12_filled_126 : decode cX12_filled 126 = .ok (.invokestatic 214, 3) := by decide +kernel
theorem dX12_filled_129 : decode cX12_filled 129 = .ok (.goto 4, 3) := by decide +kernel
theorem dX12_filled_132 : decode cX12_filled 132 = .ok (.iload_n 3, 1) := by decide +kernel
theorem dX12_filled_133 : decode cX12_filled 133 = .ok (.ireturn, 1) := by decide +kernel
theorem dX12_plan_0 : decode cX12_plan 0 = .ok (.iload_n 1, 1) := by decide +kernel
theorem dX12_plan_1 : decode cX12_plan 1 = .ok (.i2l, 1) := by decide +kernel
theorem dX12_plan_2 : decode cX12_plan 2 = .ok (.lconst 0, 1) := by decide +kernel
theorem dX12_plan_3 : decode cX12_plan 3 = .ok (.ldc2_w 225, 3) := by decide +kernel
theorem dX12_plan_6 : decode cX12_plan 6 = .ok (.invokestatic 97, 3) := by decide +kernel
theorem dX12_plan_9 : decode cX12_plan 9 = .ok (.ifCond .ne 5, 3) := by decide +kernel
theorem dX12_plan_12 : decode cX12_plan 12 = .ok (.iconst (-1), 1) := by decide +kernel
theorem dX12_plan_13 : decode cX12_plan 13 = .ok (.ireturn, 1) := by decide +kernel
theorem dX12_plan_14 : decode cX12_plan 14 = .ok (.aload_n 0, 1) := by decide +kernel
theorem dX12_plan_15 : decode cX12_plan 15 = .ok (.getfield 227, 3) := by decide +kernel
theorem dX12_plan_18 : decode cX12_plan 18 = .ok (.bipush 8, 2) := by decide +kernel
theorem dX12_plan_20 : decode cX12_plan 20 = .ok (.if_icmp .ne 6, 3) := by decide +kernel
theorem dX12_plan_23 : decode cX12_plan 23 = .ok (.bipush (-4), 2) := by decide +kernel
theorem dX12_plan_25 : decode cX12_plan 25 = .ok (.ireturn, 1) := by decide +kernel
theorem dX12_plan_26 : decode cX12_plan 26 = .ok (.aload_n 0, 1) := by decide +kernel
theorem dX12_plan_27 : decode cX12_plan 27 = .ok (.getfield 19, 3) := by decide +kernel
theorem dX12_plan_30 : decode cX12_plan 30 = .ok (.iconst 2, 1) := by decide +kernel
theorem dX12_plan_31 : decode cX12_plan 31 = .ok (.aload_n 0, 1) := by decide +kernel
theorem dX12_plan_32 : decode cX12_plan 32 = .ok (.getfield 227, 3) := by decide +kernel
theorem dX12_plan_35 : decode cX12_plan 35 = .ok (.imul, 1) := by decide +kernel
theorem dX12_plan_36 : decode cX12_plan 36 = .ok (.iload_n 1, 1) := by decide +kernel
theorem dX12_plan_37 : decode cX12_plan 37 = .ok (.iastore, 1) := by decide +kernel
theorem dX12_plan_38 : decode cX12_plan 38 = .ok (.aload_n 0, 1) := by decide +kernel
theorem dX12_plan_39 : decode cX12_plan 39 = .ok (.getfield 19, 3) := by decide +kernel
theorem dX12_plan_42 : decode cX12_plan 42 = .ok (.iconst 2, 1) := by decide +kernel
theorem dX12_plan_43 : decode cX12_plan 43 = .ok (.aload_n 0, 1) := by decide +kernel
theorem dX12_plan_44 : decode cX12_plan 44 = .ok (.getfield 227, 3) := by decide +kernel
theorem dX12_plan_47 : decode cX12_plan 47 = .ok (.imul, 1) := by decide +kernel
theorem dX12_plan_48 : decode cX12_plan 48 = .ok (.iconst 1, 1) := by decide +kernel
theorem dX12_plan_49 : decode cX12_plan 49 = .ok (.iadd, 1) := by decide +kernel
theorem dX12_plan_50 : decode cX12_plan 50 = .ok (.iload_n 2, 1) := by decide +kernel
theorem dX12_plan_51 : decode cX12_plan 51 = .ok (.iastore, 1) := by decide +kernel
theorem dX12_plan_52 : decode cX12_plan 52 = .ok (.aload_n 0, 1) := by decide +kernel
theorem dX12_plan_53 : decode cX12_plan 53 = .ok (.dup, 1) := by decide +kernel
theorem dX12_plan_54 : decode cX12_plan 54 = .ok (.getfield 227, 3) := by decide +kernel
theorem dX12_plan_57 : decode cX12_plan 57 = .ok (.iconst 1, 1) := by decide +kernel
theorem dX12_plan_58 : decode cX12_plan 58 = .ok (.iadd, 1) := by decide +kernel
theorem dX12_plan_59 : decode cX12_plan 59 = .ok (.putfield 227, 3) := by decide +kernel
theorem dX12_plan_62 : decode cX12_plan 62 = .ok (.aload_n 0, 1) := by decide +kernel
theorem dX12_plan_63 : decode cX12_plan 63 = .ok (.getfield 227, 3) := by decide +kernel
theorem dX12_plan_66 : decode cX12_plan 66 = .ok (.ireturn, 1) := by decide +kernel
theorem dX12_unplan_0 : decode cX12_unplan 0 = .ok (.aload_n 0, 1) := by decide +kernel
theorem dX12_unplan_1 : decode cX12_unplan 1 = .ok (.getfield 227, 3) := by decide +kernel
theorem dX12_unplan_4 : decode cX12_unplan 4 = .ok (.istore_n 1, 1) := by decide +kernel
theorem dX12_unplan_5 : decode cX12_unplan 5 = .ok (.aload_n 0, 1) := by decide +kernel
theorem dX12_unplan_6 : decode cX12_unplan 6 = .ok (.iconst 0, 1) := by decide +kernel
theorem dX12_unplan_7 : decode cX12_unplan 7 = .ok (.putfield 227, 3) := by decide +kernel
theorem dX12_unplan_10 : decode cX12_unplan 10 = .ok (.iload_n 1, 1) := by decide +kernel
theorem dX12_unplan_11 : decode cX12_unplan 11 = .ok (.ireturn, 1) := by decide +kernel
theorem dX12_where_0 : decode cX12_where 0 = .ok (.aload_n 0, 1) := by decide +kernel
theorem dX12_where_1 : decode cX12_where 1 = .ok (.iload_n 1, 1) := by decide +kernel
theorem dX12_where_2 : decode cX12_where 2 = .ok (.invokevirtual 105, 3) := by decide +kernel
theorem dX12_where_5 : decode cX12_where 5 = .ok (.ifCond .ne 5, 3) := by decide +kernel
theorem dX12_where_8 : decode cX12_where 8 = .ok (.iconst (-1), 1) := by decide +kernel
theorem dX12_where_9 : decode cX12_where 9 = .ok (.ireturn, 1) := by decide +kernel
theorem dX12_where_10 : decode cX12_where 10 = .ok (.iload_n 1, 1) := by decide +kernel
theorem dX12_where_11 : decode cX12_where 11 = .ok (.istore_n 2, 1) := by decide +kernel
theorem dX12_where_12 : decode cX12_where 12 = .ok (.iconst 0, 1) := by decide +kernel
theorem dX12_where_13 : decode cX12_where 13 = .ok (.istore_n 3, 1) := by decide +kernel
theorem dX12_where_14 : decode cX12_where 14 = .ok (.iload_n 3, 1) := by decide +kernel
theorem dX12_where_15 : decode cX12_where 15 = .ok (.aload_n 0, 1) := by decide +kernel
theorem dX12_where_16 : decode cX12_where 16 = .ok (.getfield 227, 3) := by decide +kernel
theorem dX12_where_19 : decode cX12_where 19 = .ok (.if_icmp .ge 62, 3) := by decide +kernel
theorem dX12_where_22 : decode cX12_where 22 = .ok (.aload_n 0, 1) := by decide +kernel
theorem dX12_where_23 : decode cX12_where 23 = .ok (.aload_n 0, 1) := by decide +kernel
theorem dX12_where_24 : decode cX12_where 24 = .ok (.getfield 19, 3) := by decide +kernel
theorem dX12_where_27 : decode cX12_where 27 = .ok (.iconst 2, 1) := by decide +kernel
theorem dX12_where_28 : decode cX12_where 28 = .ok (.iload_n 3, 1) := by decide +kernel
theorem dX12_where_29 : decode cX12_where 29 = .ok (.imul, 1) := by decide +kernel
theorem dX12_where_30 : decode cX12_where 30 = .ok (.iaload, 1) := by decide +kernel
theorem dX12_where_31 : decode cX12_where 31 = .ok (.aload_n 0, 1) := by decide +kernel
theorem dX12_where_32 : decode cX12_where 32 = .ok (.getfield 19, 3) := by decide +kernel
theorem dX12_where_35 : decode cX12_where 35 = .ok (.iconst 2, 1) := by decide +kernel
theorem dX12_where_36 : decode cX12_where 36 = .ok (.iload_n 3, 1) := by decide +kernel
theorem dX12_where_37 : decode cX12_where 37 = .ok (.imul, 1) := by decide +kernel
theorem dX12_where_38 : decode cX12_where 38 = .ok (.iconst 1, 1) := by decide +kernel
theorem dX12_where_39 : decode cX12_where 39 = .ok (.iadd, 1) := by decide +kernel
theorem dX12_where_40 : decode cX12_where 40 = .ok (.iaload, 1) := by decide +kernel
theorem dX12_where_41 : decode cX12_where 41 = .ok (.invokevirtual 181, 3) := by decide +kernel
theorem dX12_where_44 : decode cX12_where 44 = .ok (.ifCond .eq 29, 3) := by decide +kernel
theorem dX12_where_47 : decode cX12_where 47 = .ok (.aload_n 0, 1) := by decide +kernel
theorem dX12_where_48 : decode cX12_where 48 = .ok (.aload_n 0, 1) := by decide +kernel
theorem dX12_where_49 : decode cX12_where 49 = .ok (.getfield 19, 3) := by decide +kernel
theorem dX12_where_52 : decode cX12_where 52 = .ok (.iconst 2, 1) := by decide +kernel
theorem dX12_where_53 : decode cX12_where 53 = .ok (.iload_n 3, 1) := by decide +kernel
theorem dX12_where_54 : decode cX12_where 54 = .ok (.imul, 1) := by decide +kernel
theorem dX12_where_55 : decode cX12_where 55 = .ok (.iaload, 1) := by decide +kernel
theorem dX12_where_56 : decode cX12_where 56 = .ok (.aload_n 0, 1) := by decide +kernel
theorem dX12_where_57 : decode cX12_where 57 = .ok (.getfield 19, 3) := by decide +kernel
theorem dX12_where_60 : decode cX12_where 60 = .ok (.iconst 2, 1) := by decide +kernel
theorem dX12_where_61 : decode cX12_where 61 = .ok (.iload_n 3, 1) := by decide +kernel
theorem dX12_where_62 : decode cX12_where 62 = .ok (.imul, 1) := by decide +kernel
theorem dX12_where_63 : decode cX12_where 63 = .ok (.iconst 1, 1) := by decide +kernel
theorem dX12_where_64 : decode cX12_where 64 = .ok (.iadd, 1) := by decide +kernel
theorem dX12_where_65 : decode cX12_where 65 = .ok (.iaload, 1) := by decide +kernel
theorem dX12_where_66 : decode cX12_where 66 = .ok (.iload_n 2, 1) := by decide +kernel
theorem dX12_where_67 : decode cX12_where 67 = .ok (.invokevirtual 173, 3) := by decide +kernel
theorem dX12_where_70 : decode cX12_where 70 = .ok (.goto 4, 3) := by decide +kernel
theorem dX12_where_73 : decode cX12_where 73 = .ok (.iload_n 2, 1) := by decide +kernel
theorem dX12_where_74 : decode cX12_where 74 = .ok (.istore_n 2, 1) := by decide +kernel
theorem dX12_where_75 : decode cX12_where 75 = .ok (.iinc 3 1, 3) := by decide +kernel
theorem dX12_where_78 : decode cX12_where 78 = .ok (.goto (-64), 3) := by decide +kernel
theorem dX12_where_81 : decode cX12_where 81 = .ok (.iload_n 2, 1) := by decide +kernel
theorem dX12_where_82 : decode cX12_where 82 = .ok (.ireturn, 1) := by decide +kernel
theorem dX12_run_0 : decode cX12_run 0 = .ok (.iconst 0, 1) := by decide +kernel
theorem dX12_run_1 : decode cX12_run 1 = .ok (.istore_n 1, 1) := by decide +kernel
theorem dX12_run_2 : decode cX12_run 2 = .ok (.iconst 0, 1) := by decide +kernel
theorem dX12_run_3 : decode cX12_run 3 = .ok (.istore_n 2, 1) := by decide +kernel
theorem dX12_run_4 : decode cX12_run 4 = .ok (.iload_n 2, 1) := by decide +kernel
theorem dX12_run_5 : decode cX12_run 5 = .ok (.aload_n 0, 1) := by decide +kernel
theorem dX12_run_6 : decode cX12_run 6 = .ok (.getfield 227, 3) := by decide +kernel
theorem dX12_run_9 : decode cX12_run 9 = .ok (.if_icmp .ge 67, 3) := by decide +kernel
theorem dX12_run_12 : decode cX12_run 12 = .ok (.iload_n 1, 1) := by decide +kernel
theorem dX12_run_13 : decode cX12_run 13 = .ok (.aload_n 0, 1) := by decide +kernel
theorem dX12_run_14 : decode cX12_run 14 = .ok (.aload_n 0, 1) := by decide +kernel
theorem dX12_run_15 : decode cX12_run 15 = .ok (.getfield 19, 3) := by decide +kernel
theorem dX12_run_18 : decode cX12_run 18 = .ok (.iconst 2, 1) := by decide +kernel
theorem dX12_run_19 : decode cX12_run 19 = .ok (.iload_n 2, 1) := by decide +kernel
theorem dX12_run_20 : decode cX12_run 20 = .ok (.imul, 1) := by decide +kernel
theorem dX12_run_21 : decode cX12_run 21 = .ok (.iaload, 1) := by decide +kernel
theorem dX12_run_22 : decode cX12_run 22 = .ok (.aload_n 0, 1) := by decide +kernel
theorem dX12_run_23 : decode cX12_run 23 = .ok (.getfield 19, 3) := by decide +kernel
theorem dX12_run_26 : decode cX12_run 26 = .ok (.iconst 2, 1) := by decide +kernel
theorem dX12_run_27 : decode cX12_run 27 = .ok (.iload_n 2, 1) := by decide +kernel
theorem dX12_run_28 : decode cX12_run 28 = .ok (.imul, 1) := by decide +kernel
theorem dX12_run_29 : decode cX12_run 29 = .ok (.iconst 1, 1) := by decide +kernel
theorem dX12_run_30 : decode cX12_run 30 = .ok (.iadd, 1) := by decide +kernel
theorem dX12_run_31 : decode cX12_run 31 = .ok (.iaload, 1) := by decide +kernel
theorem dX12_run_32 : decode cX12_run 32 = .ok (.invokevirtual 181, 3) := by decide +kernel
theorem dX12_run_35 : decode cX12_run 35 = .ok (.ifCond .eq 32, 3) := by decide +kernel
theorem dX12_run_38 : decode cX12_run 38 = .ok (.aload_n 0, 1) := by decide +kernel
theorem dX12_run_39 : decode cX12_run 39 = .ok (.aload_n 0, 1) := by decide +kernel
theorem dX12_run_40 : decode cX12_run 40 = .ok (.getfield 19, 3) := by decide +kernel
theorem dX12_run_43 : decode cX12_run 43 = .ok (.iconst 2, 1) := by decide +kernel
theorem dX12_run_44 : decode cX12_run 44 = .ok (.iload_n 2, 1) := by decide +kernel
theorem dX12_run_45 : decode cX12_run 45 = .ok (.imul, 1) := by decide +kernel
theorem dX12_run_46 : decode cX12_run 46 = .ok (.iaload, 1) := by decide +kernel
theorem dX12_run_47 : decode cX12_run 47 = .ok (.aload_n 0, 1) := by decide +kernel
theorem dX12_run_48 : decode cX12_run 48 = .ok (.getfield 19, 3) := by decide +kernel
theorem dX12_run_51 : decode cX12_run 51 = .ok (.iconst 2, 1) := by decide +kernel
theorem dX12_run_52 : decode cX12_run 52 = .ok (.iload_n 2, 1) := by decide +kernel
theorem dX12_run_53 : decode cX12_run 53 = .ok (.imul, 1) := by decide +kernel
theorem dX12_run_54 : decode cX12_run 54 = .ok (.iconst 1, 1) := by decide +kernel
theorem dX12_run_55 : decode cX12_run 55 = .ok (.iadd, 1) := by decide +kernel
theorem dX12_run_56 : decode cX12_run 56 = .ok (.iaload, 1) := by decide +kernel
theorem dX12_run_57 : decode cX12_run 57 = .ok (.invokevirtual 177, 3) := by decide +kernel
theorem dX12_run_60 : decode cX12_run 60 = .ok (.ifCond .eq 7, 3) := by decide +kernel
theorem dX12_run_63 : decode cX12_run 63 = .ok (.iconst 1, 1) := by decide +kernel
theorem dX12_run_64 : decode cX12_run 64 = .ok (.goto 4, 3) := by decide +kernel
theorem dX12_run_67 : decode cX12_run 67 = .ok (.iconst 0, 1) := by decide +kernel
theorem dX12_run_68 : decode cX12_run 68 = .ok (.iadd, 1) := by decide +kernel
theorem dX12_run_69 : decode cX12_run 69 = .ok (.istore_n 1, 1) := by decide +kernel
theorem dX12_run_70 : decode cX12_run 70 = .ok (.iinc 2 1, 3) := by decide +kernel
theorem dX12_run_73 : decode cX12_run 73 = .ok (.goto (-69), 3) := by decide +kernel
theorem dX12_run_76 : decode cX12_run 76 = .ok (.iload_n 1, 1) := by decide +kernel
theorem dX12_run_77 : decode cX12_run 77 = .ok (.ireturn, 1) := by decide +kernel
theorem dX12_isShelf_0 : decode cX12_isShelf 0 = .ok (.iload_n 0, 1) := by decide +kernel
theorem dX12_isShelf_1 : decode cX12_isShelf 1 = .ok (.i2l, 1) := by decide +kernel
theorem dX12_isShelf_2 : decode cX12_isShelf 2 = .ok (.lconst 0, 1) := by decide +kernel
theorem dX12_isShelf_3 : decode cX12_isShelf 3 = .ok (.lconst 1, 1) := by decide +kernel
theorem dX12_isShelf_4 : decode cX12_isShelf 4 = .ok (.invokestatic 97, 3) := by decide +kernel
theorem dX12_isShelf_7 : decode cX12_isShelf 7 = .ok (.ireturn, 1) := by decide +kernel
theorem dX12_isKept_0 : decode cX12_isKept 0 = .ok (.iload_n 1, 1) := by decide +kernel
theorem dX12_isKept_1 : decode cX12_isKept 1 = .ok (.invokestatic 230, 3) := by decide +kernel
theorem dX12_isKept_4 : decode cX12_isKept 4 = .ok (.ifCond .eq 25, 3) := by decide +kernel
theorem dX12_isKept_7 : decode cX12_isKept 7 = .ok (.iload_n 2, 1) := by decide +kernel
theorem dX12_isKept_8 : decode cX12_isKept 8 = .ok (.i2l, 1) := by decide +kernel
theorem dX12_isKept_9 : decode cX12_isKept 9 = .ok (.lconst 0, 1) := by decide +kernel
theorem dX12_isKept_10 : decode cX12_isKept 10 = .ok (.aload_n 0, 1) := by decide +kernel
theorem dX12_isKept_11 : decode cX12_isKept 11 = .ok (.getfield 22, 3) := by decide +kernel
theorem dX12_isKept_14 : decode cX12_isKept 14 = .ok (.iload_n 1, 1) := by decide +kernel
theorem dX12_isKept_15 : decode cX12_isKept 15 = .ok (.iaload, 1) := by decide +kernel
theorem dX12_isKept_16 : decode cX12_isKept 16 = .ok (.iconst 1, 1) := by decide +kernel
theorem dX12_isKept_17 : decode cX12_isKept 17 = .ok (.isub, 1) := by decide +kernel
theorem dX12_isKept_18 : decode cX12_isKept 18 = .ok (.i2l, 1) := by decide +kernel
theorem dX12_isKept_19 : decode cX12_isKept 19 = .ok (.invokestatic 97, 3) := by decide +kernel
theorem dX12_isKept_22 : decode cX12_isKept 22 = .ok (.ifCond .eq 7, 3) := by decide +kernel
theorem dX12_isKept_25 : decode cX12_isKept 25 = .ok (.iconst 1, 1) := by decide +kernel
theorem dX12_isKept_26 : decode cX12_isKept 26 = .ok (.goto 4, 3) := by decide +kernel
theorem dX12_isKept_29 : decode cX12_isKept 29 = .ok (.iconst 0, 1) := by decide +kernel
theorem dX12_isKept_30 : decode cX12_isKept 30 = .ok (.ireturn, 1) := by decide +kernel
theorem dX12_place_0 : decode cX12_place 0 = .ok (.bipush 31, 2) := by decide +kernel
theorem dX12_place_2 : decode cX12_place 2 = .ok (.bipush 8, 2) := by decide +kernel
theorem dX12_place_4 : decode cX12_place 4 = .ok (.iload_n 0, 1) := by decide +kernel
theorem dX12_place_5 : decode cX12_place 5 = .ok (.imul, 1) := by decide +kernel
theorem dX12_place_6 : decode cX12_place 6 = .ok (.iload_n 1, 1) := by decide +kernel
theorem dX12_place_7 : decode cX12_place 7 = .ok (.iadd, 1) := by decide +kernel
theorem dX12_place_8 : decode cX12_place 8 = .ok (.imul, 1) := by decide +kernel
theorem dX12_place_9 : decode cX12_place 9 = .ok (.ireturn, 1) := by decide +kernel
theorem dX12_keep_0 : decode cX12_keep 0 = .ok (.iload_n 1, 1) := by decide +kernel
theorem dX12_keep_1 : decode cX12_keep 1 = .ok (.invokestatic 230, 3) := by decide +kernel
theorem dX12_keep_4 : decode cX12_keep 4 = .ok (.ifCond .ne 5, 3) := by decide +kernel
theorem dX12_keep_7 : decode cX12_keep 7 = .ok (.iconst (-1), 1) := by decide +kernel
theorem dX12_keep_8 : decode cX12_keep 8 = .ok (.ireturn, 1) := by decide +kernel
theorem dX12_keep_9 : decode cX12_keep 9 = .ok (.aload_n 0, 1) := by decide +kernel
theorem dX12_keep_10 : decode cX12_keep 10 = .ok (.getfield 22, 3) := by decide +kernel
theorem dX12_keep_13 : decode cX12_keep 13 = .ok (.iload_n 1, 1) := by decide +kernel
theorem dX12_keep_14 : decode cX12_keep 14 = .ok (.iaload, 1) := by decide +kernel
theorem dX12_keep_15 : decode cX12_keep 15 = .ok (.bipush 8, 2) := by decide +kernel
theorem dX12_keep_17 : decode cX12_keep 17 = .ok (.if_icmp .ne 6, 3) := by decide +kernel
theorem dX12_keep_20 : decode cX12_keep 20 = .ok (.bipush (-4), 2) := by decide +kernel
theorem dX12_keep_22 : decode cX12_keep 22 = .ok (.ireturn, 1) := by decide +kernel
theorem dX12_keep_23 : decode cX12_keep 23 = .ok (.iload_n 1, 1) := by decide +kernel
theorem dX12_keep_24 : decode cX12_keep 24 = .ok (.aload_n 0, 1) := by decide +kernel
theorem dX12_keep_25 : decode cX12_keep 25 = .ok (.getfield 22, 3) := by decide +kernel
theorem dX12_keep_28 : decode cX12_keep 28 = .ok (.iload_n 1, 1) := by decide +kernel
theorem dX12_keep_29 : decode cX12_keep 29 = .ok (.iaload, 1) := by decide +kernel
theorem dX12_keep_30 : decode cX12_keep 30 = .ok (.invokestatic 233, 3) := by decide +kernel
theorem dX12_keep_33 : decode cX12_keep 33 = .ok (.istore_n 2, 1) := by decide +kernel
theorem dX12_keep_34 : decode cX12_keep 34 = .ok (.aload_n 0, 1) := by decide +kernel
theorem dX12_keep_35 : decode cX12_keep 35 = .ok (.getfield 25, 3) := by decide +kernel
theorem dX12_keep_38 : decode cX12_keep 38 = .ok (.iload_n 2, 1) := by decide +kernel
theorem dX12_keep_39 : decode cX12_keep 39 = .ok (.aload_n 0, 1) := by decide +kernel
theorem dX12_keep_40 : decode cX12_keep 40 = .ok (.getfield 9, 3) := by decide +kernel
theorem dX12_keep_43 : decode cX12_keep 43 = .ok (.iastore, 1) := by decide +kernel
theorem dX12_keep_44 : decode cX12_keep 44 = .ok (.iconst 0, 1) := by decide +kernel
theorem dX12_keep_45 : decode cX12_keep 45 = .ok (.istore_n 3, 1) := by decide +kernel
theorem dX12_keep_46 : decode cX12_keep 46 = .ok (.iload_n 3, 1) := by decide +kernel
theorem dX12_keep_47 : decode cX12_keep 47 = .ok (.bipush 30, 2) := by decide +kernel
theorem dX12_keep_49 : decode cX12_keep 49 = .ok (.if_icmp .ge 37, 3) := by decide +kernel
theorem dX12_keep_52 : decode cX12_keep 52 = .ok (.aload_n 0, 1) := by decide +kernel
theorem dX12_keep_53 : decode cX12_keep 53 = .ok (.getfield 25, 3) := by decide +kernel
theorem dX12_keep_56 : decode cX12_keep 56 = .ok (.iload_n 2, 1) := by decide +kernel
theorem dX12_keep_57 : decode cX12_keep 57 = .ok (.iconst 1, 1) := by decide +kernel
theorem dX12_keep_58 : decode cX12_keep 58 = .ok (.iadd, 1) := by decide +kernel
theorem dX12_keep_59 : decode cX12_keep 59 = .ok (.iload_n 3, 1) := by decide +kernel
theorem dX12_keep_60 : decode cX12_keep 60 = .ok (.iadd, 1) := by decide +kernel
theorem dX12_keep_61 : decode cX12_keep 61 = .ok (.iload_n 3, 1) := by decide +kernel
theorem dX12_keep_62 : decode cX12_keep 62 = .ok (.aload_n 0, 1) := by decide +kernel
theorem dX12_keep_63 : decode cX12_keep 63 = .ok (.getfield 9, 3) := by decide +kernel
theorem dX12_keep_66 : decode cX12_keep 66 = .ok (.if_icmp .ge 12, 3) := by decide +kernel
theorem dX12_keep_69 : decode cX12_keep 69 = .ok (.aload_n 0, 1) := by decide +kernel
theorem dX12_keep_70 : decode cX12_keep 70 = .ok (.getfield 15, 3) := by decide +kernel
theorem dX12_keep_73 : decode cX12_keep 73 = .ok (.iload_n 3, 1) := by decide +kernel
theorem dX12_keep_74 : decode cX12_keep 74 = .ok (.iaload, 1) := by decide +kernel
theorem dX12_keep_75 : decode cX12_keep 75 = .ok (.goto 4, 3) := by decide +kernel
theorem dX12_keep_78 : decode cX12_keep 78 = .ok (.iconst 0, 1) := by decide +kernel
theorem dX12_keep_79 : decode cX12_keep 79 = .ok (.iastore, 1) := by decide +kernel
theorem dX12_keep_80 : decode cX12_keep 80 = .ok (.iinc 3 1, 3) := by decide +kernel
theorem dX12_keep_83 : decode cX12_keep 83 = .ok (.goto (-37), 3) := by decide +kernel
theorem dX12_keep_86 : decode cX12_keep 86 = .ok (.aload_n 0, 1) := by decide +kernel
theorem dX12_keep_87 : decode cX12_keep 87 = .ok (.getfield 22, 3) := by decide +kernel
theorem dX12_keep_90 : decode cX12_keep 90 = .ok (.iload_n 1, 1) := by decide +kernel
theorem dX12_keep_91 : decode cX12_keep 91 = .ok (.dup2, 1) := by decide +kernel
theorem dX12_keep_92 : decode cX12_keep 92 = .ok (.iaload, 1) := by decide +kernel
theorem dX12_keep_93 : decode cX12_keep 93 = .ok (.iconst 1, 1) := by decide +kernel
theorem dX12_keep_94 : decode cX12_keep 94 = .ok (.iadd, 1) := by decide +kernel
theorem dX12_keep_95 : decode cX12_keep 95 = .ok (.iastore, 1) := by decide +kernel
theorem dX12_keep_96 : decode cX12_keep 96 = .ok (.aload_n 0, 1) := by decide +kernel
theorem dX12_keep_97 : decode cX12_keep 97 = .ok (.getfield 22, 3) := by decide +kernel
theorem dX12_keep_100 : decode cX12_keep 100 = .ok (.iload_n 1, 1) := by decide +kernel
theorem dX12_keep_101 : decode cX12_keep 101 = .ok (.iaload, 1) := by decide +kernel
theorem dX12_keep_102 : decode cX12_keep 102 = .ok (.iconst 1, 1) := by decide +kernel
theorem dX12_keep_103 : decode cX12_keep 103 = .ok (.isub, 1) := by decide +kernel
theorem dX12_keep_104 : decode cX12_keep 104 = .ok (.ireturn, 1) := by decide +kernel
theorem dX12_lay_0 : decode cX12_lay 0 = .ok (.aload_n 0, 1) := by decide +kernel
theorem dX12_lay_1 : decode cX12_lay 1 = .ok (.iload_n 1, 1) := by decide +kernel
theorem dX12_lay_2 : decode cX12_lay 2 = .ok (.iload_n 2, 1) := by decide +kernel
theorem dX12_lay_3 : decode cX12_lay 3 = .ok (.invokevirtual 236, 3) := by decide +kernel
theorem dX12_lay_6 : decode cX12_lay 6 = .ok (.ifCond .ne 5, 3) := by decide +kernel
theorem dX12_lay_9 : decode cX12_lay 9 = .ok (.iconst (-1), 1) := by decide +kernel
theorem dX12_lay_10 : decode cX12_lay 10 = .ok (.ireturn, 1) := by decide +kernel
theorem dX12_lay_11 : decode cX12_lay 11 = .ok (.iload_n 1, 1) := by decide +kernel
theorem dX12_lay_12 : decode cX12_lay 12 = .ok (.iload_n 2, 1) := by decide +kernel
theorem dX12_lay_13 : decode cX12_lay 13 = .ok (.invokestatic 233, 3) := by decide +kernel
theorem dX12_lay_16 : decode cX12_lay 16 = .ok (.istore_n 3, 1) := by decide +kernel
theorem dX12_lay_17 : decode cX12_lay 17 = .ok (.aload_n 0, 1) := by decide +kernel
theorem dX12_lay_18 : decode cX12_lay 18 = .ok (.aload_n 0, 1) := by decide +kernel
theorem dX12_lay_19 : decode cX12_lay 19 = .ok (.getfield 25, 3) := by decide +kernel
theorem dX12_lay_22 : decode cX12_lay 22 = .ok (.iload_n 3, 1) := by decide +kernel
theorem dX12_lay_23 : decode cX12_lay 23 = .ok (.iaload, 1) := by decide +kernel
theorem dX12_lay_24 : decode cX12_lay 24 = .ok (.putfield 9, 3) := by decide +kernel
theorem dX12_lay_27 : decode cX12_lay 27 = .ok (.iconst 0, 1) := by decide +kernel
theorem dX12_lay_28 : decode cX12_lay 28 = .ok (.istore 4, 2) := by decide +kernel
theorem dX12_lay_30 : decode cX12_lay 30 = .ok (.iload 4, 2) := by decide +kernel
theorem dX12_lay_32 : decode cX12_lay 32 = .ok (.bipush 30, 2) := by decide +kernel
theorem dX12_lay_34 : decode cX12_lay 34 = .ok (.if_icmp .ge 27, 3) := by decide +kernel
theorem dX12_lay_37 : decode cX12_lay 37 = .ok (.aload_n 0, 1) := by decide +kernel
theorem dX12_lay_38 : decode cX12_lay 38 = .ok (.getfield 15, 3) := by decide +kernel
theorem dX12_lay_41 : decode cX12_lay 41 = .ok (.iload 4, 2) := by decide +kernel
theorem dX12_lay_43 : decode cX12_lay 43 = .ok (.aload_n 0, 1) := by decide +kernel
theorem dX12_lay_44 : decode cX12_lay 44 = .ok (.getfield 25, 3) := by decide +kernel
theorem dX12_lay_47 : decode cX12_lay 47 = .ok (.iload_n 3, 1) := by decide +kernel
theorem dX12_lay_48 : decode cX12_lay 48 = .ok (.iconst 1, 1) := by decide +kernel
theorem dX12_lay_49 : decode cX12_lay 49 = .ok (.iadd, 1) := by decide +kernel
theorem dX12_lay_50 : decode cX12_lay 50 = .ok (.iload 4, 2) := by decide +kernel
theorem dX12_lay_52 : decode cX12_lay 52 = .ok (.iadd, 1) := by decide +kernel
theorem dX12_lay_53 : decode cX12_lay 53 = .ok (.iaload, 1) := by decide +kernel
theorem dX12_lay_54 : decode cX12_lay 54 = .ok (.iastore, 1) := by decide +kernel
theorem dX12_lay_55 : decode cX12_lay 55 = .ok (.iinc 4 1, 3) := by decide +kernel
theorem dX12_lay_58 : decode cX12_lay 58 = .ok (.goto (-28), 3) := by decide +kernel
theorem dX12_lay_61 : decode cX12_lay 61 = .ok (.aload_n 0, 1) := by decide +kernel
theorem dX12_lay_62 : decode cX12_lay 62 = .ok (.invokevirtual 115, 3) := by decide +kernel
theorem dX12_lay_65 : decode cX12_lay 65 = .ok (.ireturn, 1) := by decide +kernel
theorem dX12_copies_0 : decode cX12_copies 0 = .ok (.iconst 0, 1) := by decide +kernel
theorem dX12_copies_1 : decode cX12_copies 1 = .ok (.istore_n 3, 1) := by decide +kernel
theorem dX12_copies_2 : decode cX12_copies 2 = .ok (.iload_n 3, 1) := by decide +kernel
theorem dX12_copies_3 : decode cX12_copies 3 = .ok (.bipush 31, 2) := by decide +kernel
theorem dX12_copies_5 : decode cX12_copies 5 = .ok (.if_icmp .ge 25, 3) := by decide +kernel
theorem dX12_copies_8 : decode cX12_copies 8 = .ok (.aload_n 0, 1) := by decide +kernel
theorem dX12_copies_9 : decode cX12_copies 9 = .ok (.getfield 25, 3) := by decide +kernel
theorem dX12_copies_12 : decode cX12_copies 12 = .ok (.iload_n 2, 1) := by decide +kernel
theorem dX12_copies_13 : decode cX12_copies 13 = .ok (.iload_n 3, 1) := by decide +kernel
theorem dX12_copies_14 : decode cX12_copies 14 = .ok (.iadd, 1) := by decide +kernel
theorem dX12_copies_15 : decode cX12_copies 15 = .ok (.aload_n 0, 1) := by decide +kernel
theorem dX12_copies_16 : decode cX12_copies 16 = .ok (.getfield 25, 3) := by decide +kernel
theorem dX12_copies_19 : decode cX12_copies 19 = .ok (.iload_n 1, 1) := by decide +kernel
theorem dX12_copies_20 : decode cX12_copies 20 = .ok (.iload_n 3, 1) := by decide +kernel
theorem dX12_copies_21 : decode cX12_copies 21 = .ok (.iadd, 1) := by decide +kernel
theorem dX12_copies_22 : decode cX12_copies 22 = .ok (.iaload, 1) := by decide +kernel
theorem dX12_copies_23 : decode cX12_copies 23 = .ok (.iastore, 1) := by decide +kernel
theorem dX12_copies_24 : decode cX12_copies 24 = .ok (.iinc 3 1, 3) := by decide +kernel
theorem dX12_copies_27 : decode cX12_copies 27 = .ok (.goto (-25), 3) := by decide +kernel
theorem dX12_copies_30 : decode cX12_copies 30 = .ok (.return_, 1) := by decide +kernel
theorem dX12_drop_0 : decode cX12_drop 0 = .ok (.aload_n 0, 1) := by decide +kernel
theorem dX12_drop_1 : decode cX12_drop 1 = .ok (.iload_n 1, 1) := by decide +kernel
theorem dX12_drop_2 : decode cX12_drop 2 = .ok (.iload_n 2, 1) := by decide +kernel
theorem dX12_drop_3 : decode cX12_drop 3 = .ok (.invokevirtual 236, 3) := by decide +kernel
theorem dX12_drop_6 : decode cX12_drop 6 = .ok (.ifCond .ne 5, 3) := by decide +kernel
theorem dX12_drop_9 : decode cX12_drop 9 = .ok (.iconst (-1), 1) := by decide +kernel
theorem dX12_drop_10 : decode cX12_drop 10 = .ok (.ireturn, 1) := by decide +kernel
theorem dX12_drop_11 : decode cX12_drop 11 = .ok (.aload_n 0, 1) := by decide +kernel
theorem dX12_drop_12 : decode cX12_drop 12 = .ok (.getfield 22, 3) := by decide +kernel
theorem dX12_drop_15 : decode cX12_drop 15 = .ok (.iload_n 1, 1) := by decide +kernel
theorem dX12_drop_16 : decode cX12_drop 16 = .ok (.dup2, 1) := by decide +kernel
theorem dX12_drop_17 : decode cX12_drop 17 = .ok (.iaload, 1) := by decide +kernel
theorem dX12_drop_18 : decode cX12_drop 18 = .ok (.iconst 1, 1) := by decide +kernel
theorem dX12_drop_19 : decode cX12_drop 19 = .ok (.isub, 1) := by decide +kernel
theorem dX12_drop_20 : decode cX12_drop 20 = .ok (.iastore, 1) := by decide +kernel
theorem dX12_drop_21 : decode cX12_drop 21 = .ok (.iload_n 2, 1) := by decide +kernel
theorem dX12_drop_22 : decode cX12_drop 22 = .ok (.istore_n 3, 1) := by decide +kernel
theorem dX12_drop_23 : decode cX12_drop 23 = .ok (.iload_n 3, 1) := by decide +kernel
theorem dX12_drop_24 : decode cX12_drop 24 = .ok (.aload_n 0, 1) := by decide +kernel
theorem dX12_drop_25 : decode cX12_drop 25 = .ok (.getfield 22, 3) := by decide +kernel
theorem dX12_drop_28 : decode cX12_drop 28 = .ok (.iload_n 1, 1) := by decide +kernel
theorem dX12_drop_29 : decode cX12_drop 29 = .ok (.iaload, 1) := by decide +kernel
theorem dX12_drop_30 : decode cX12_drop 30 = .ok (.if_icmp .ge 25, 3) := by decide +kernel
theorem dX12_drop_33 : decode cX12_drop 33 = .ok (.aload_n 0, 1) := by decide +kernel
theorem dX12_drop_34 : decode cX12_drop 34 = .ok (.iload_n 1, 1) := by decide +kernel
theorem dX12_drop_35 : decode cX12_drop 35 = .ok (.iload_n 3, 1) := by decide +kernel
theorem dX12_drop_36 : decode cX12_drop 36 = .ok (.iconst 1, 1) := by decide +kernel
theorem dX12_drop_37 : decode cX12_drop 37 = .ok (.iadd, 1) := by decide +kernel
theorem dX12_drop_38 : decode cX12_drop 38 = .ok (.invokestatic 233, 3) := by decide +kernel
theorem dX12_drop_41 : decode cX12_drop 41 = .ok (.iload_n 1, 1) := by decide +kernel
theorem dX12_drop_42 : decode cX12_drop 42 = .ok (.iload_n 3, 1) := by decide +kernel
theorem dX12_drop_43 : decode cX12_drop 43 = .ok (.invokestatic 233, 3) := by decide +kernel
theorem dX12_drop_46 : decode cX12_drop 46 = .ok (.invokevirtual 239, 3) := by decide +kernel
theorem dX12_drop_49 : decode cX12_drop 49 = .ok (.iinc 3 1, 3) := by decide +kernel
theorem dX12_drop_52 : decode cX12_drop 52 = .ok (.goto (-29), 3) := by decide +kernel
theorem dX12_drop_55 : decode cX12_drop 55 = .ok (.aload_n 0, 1) := by decide +kernel
theorem dX12_drop_56 : decode cX12_drop 56 = .ok (.getfield 22, 3) := by decide +kernel
theorem dX12_drop_59 : decode cX12_drop 59 = .ok (.iload_n 1, 1) := by decide +kernel
theorem dX12_drop_60 : decode cX12_drop 60 = .ok (.iaload, 1) := by decide +kernel
theorem dX12_drop_61 : decode cX12_drop 61 = .ok (.ireturn, 1) := by decide +kernel
theorem dX12_weightAt_0 : decode cX12_weightAt 0 = .ok (.aload_n 0, 1) := by decide +kernel
theorem dX12_weightAt_1 : decode cX12_weightAt 1 = .ok (.getfield 25, 3) := by decide +kernel
theorem dX12_weightAt_4 : decode cX12_weightAt 4 = .ok (.iload_n 1, 1) := by decide +kernel
theorem dX12_weightAt_5 : decode cX12_weightAt 5 = .ok (.iload_n 2, 1) := by decide +kernel
theorem dX12_weightAt_6 : decode cX12_weightAt 6 = .ok (.invokestatic 233, 3) := by decide +kernel
theorem dX12_weightAt_9 : decode cX12_weightAt 9 = .ok (.iconst 1, 1) := by decide +kernel
theorem dX12_weightAt_10 : decode cX12_weightAt 10 = .ok (.iadd, 1) := by decide +kernel
theorem dX12_weightAt_11 : decode cX12_weightAt 11 = .ok (.bipush 30, 2) := by decide +kernel
theorem dX12_weightAt_13 : decode cX12_weightAt 13 = .ok (.invokestatic 111, 3) := by decide +kernel
theorem dX12_weightAt_16 : decode cX12_weightAt 16 = .ok (.ireturn, 1) := by decide +kernel
theorem dX12_lightest_0 : decode cX12_lightest 0 = .ok (.iload_n 1, 1) := by decide +kernel
theorem dX12_lightest_1 : decode cX12_lightest 1 = .ok (.invokestatic 230, 3) := by decide +kernel
theorem dX12_lightest_4 : decode cX12_lightest 4 = .ok (.ifCond .ne 5, 3) := by decide +kernel
theorem dX12_lightest_7 : decode cX12_lightest 7 = .ok (.iconst (-1), 1) := by decide +kernel
theorem dX12_lightest_8 : decode cX12_lightest 8 = .ok (.ireturn, 1) := by decide +kernel
theorem dX12_lightest_9 : decode cX12_lightest 9 = .ok (.bipush (-5), 2) := by decide +kernel
theorem dX12_lightest_11 : decode cX12_lightest 11 = .ok (.istore_n 2, 1) := by decide +kernel
theorem dX12_lightest_12 : decode cX12_lightest 12 = .ok (.iconst 0, 1) := by decide +kernel
theorem dX12_lightest_13 : decode cX12_lightest 13 = .ok (.istore_n 3, 1) := by decide +kernel
theorem dX12_lightest_14 : decode cX12_lightest 14 = .ok (.iload_n 3, 1) := by decide +kernel
theorem dX12_lightest_15 : decode cX12_lightest 15 = .ok (.aload_n 0, 1) := by decide +kernel
theorem dX12_lightest_16 : decode cX12_lightest 16 = .ok (.getfield 22, 3) := by decide +kernel
theorem dX12_lightest_19 : decode cX12_lightest 19 = .ok (.iload_n 1, 1) := by decide +kernel
theorem dX12_lightest_20 : decode cX12_lightest 20 = .ok (.iaload, 1) := by decide +kernel
theorem dX12_lightest_21 : decode cX12_lightest 21 = .ok (.if_icmp .ge 36, 3) := by decide +kernel
theorem dX12_lightest_24 : decode cX12_lightest 24 = .ok (.iload_n 2, 1) := by decide +kernel
theorem dX12_lightest_25 : decode cX12_lightest 25 = .ok (.bipush (-5), 2) := by decide +kernel
theorem dX12_lightest_27 : decode cX12_lightest 27 = .ok (.if_icmp .eq 18, 3) := by decide +kernel
theorem dX12_lightest_30 : decode cX12_lightest 30 = .ok (.aload_n 0, 1) := by decide +kernel
theorem dX12_lightest_31 : decode cX12_lightest 31 = .ok (.iload_n 1, 1) := by decide +kernel
theorem dX12_lightest_32 : decode cX12_lightest 32 = .ok (.iload_n 3, 1) := by decide +kernel
theorem dX12_lightest_33 : decode cX12_lightest 33 = .ok (.invokevirtual 242, 3) := by decide +kernel
theorem dX12_lightest_36 : decode cX12_lightest 36 = .ok (.aload_n 0, 1) := by decide +kernel
theorem dX12_lightest_37 : decode cX12_lightest 37 = .ok (.iload_n 1, 1) := by decide +kernel
theorem dX12_lightest_38 : decode cX12_lightest 38 = .ok (.iload_n 2, 1) := by decide +kernel
theorem dX12_lightest_39 : decode cX12_lightest 39 = .ok (.invokevirtual 242, 3) := by decide +kernel
theorem dX12_lightest_42 : decode cX12_lightest 42 = .ok (.if_icmp .ge 7, 3) := by decide +kernel
theorem dX12_lightest_45 : decode cX12_lightest 45 = .ok (.iload_n 3, 1) := by decide +kernel
theorem dX12_lightest_46 : decode cX12_lightest 46 = .ok (.goto 4, 3) := by decide +kernel
theorem dX12_lightest_49 : decode cX12_lightest 49 = .ok (.iload_n 2, 1) := by decide +kernel
theorem dX12_lightest_50 : decode cX12_lightest 50 = .ok (.istore_n 2, 1) := by decide +kernel
theorem dX12_lightest_51 : decode cX12_lightest 51 = .ok (.iinc 3 1, 3) := by decide +kernel
theorem dX12_lightest_54 : decode cX12_lightest 54 = .ok (.goto (-40), 3) := by decide +kernel
theorem dX12_lightest_57 : decode cX12_lightest 57 = .ok (.iload_n 2, 1) := by decide +kernel
theorem dX12_lightest_58 : decode cX12_lightest 58 = .ok (.ireturn, 1) := by decide +kernel
theorem dX12_pour_0 : decode cX12_pour 0 = .ok (.iload_n 1, 1) := by decide +kernel
theorem dX12_pour_1 : decode cX12_pour 1 = .ok (.invokestatic 230, 3) := by decide +kernel
theorem dX12_pour_4 : decode cX12_pour 4 = .ok (.ifCond .eq 10, 3) := by decide +kernel
theorem dX12_pour_7 : decode cX12_pour 7 = .ok (.iload_n 2, 1) := by decide +kernel
theorem dX12_pour_8 : decode cX12_pour 8 = .ok (.invokestatic 230, 3) := by decide +kernel
theorem dX12_pour_11 : decode cX12_pour 11 = .ok (.ifCond .ne 5, 3) := by decide +kernel
theorem dX12_pour_14 : decode cX12_pour 14 = .ok (.iconst (-1), 1) := by decide +kernel
theorem dX12_pour_15 : decode cX12_pour 15 = .ok (.ireturn, 1) := by decide +kernel
theorem dX12_pour_16 : decode cX12_pour 16 = .ok (.iload_n 1, 1) := by decide +kernel
theorem dX12_pour_17 : decode cX12_pour 17 = .ok (.iload_n 2, 1) := by decide +kernel
theorem dX12_pour_18 : decode cX12_pour 18 = .ok (.if_icmp .ne 6, 3) := by decide +kernel
theorem dX12_pour_21 : decode cX12_pour 21 = .ok (.bipush (-3), 2) := by decide +kernel
theorem dX12_pour_23 : decode cX12_pour 23 = .ok (.ireturn, 1) := by decide +kernel
theorem dX12_pour_24 : decode cX12_pour 24 = .ok (.aload_n 0, 1) := by decide +kernel
theorem dX12_pour_25 : decode cX12_pour 25 = .ok (.getfield 22, 3) := by decide +kernel
theorem dX12_pour_28 : decode cX12_pour 28 = .ok (.iload_n 1, 1) := by decide +kernel
theorem dX12_pour_29 : decode cX12_pour 29 = .ok (.iaload, 1) := by decide +kernel
theorem dX12_pour_30 : decode cX12_pour 30 = .ok (.aload_n 0, 1) := by decide +kernel
theorem dX12_pour_31 : decode cX12_pour 31 = .ok (.getfield 22, 3) := by decide +kernel
theorem dX12_pour_34 : decode cX12_pour 34 = .ok (.iload_n 2, 1) := by decide +kernel
theorem dX12_pour_35 : decode cX12_pour 35 = .ok (.iaload, 1) := by decide +kernel
theorem dX12_pour_36 : decode cX12_pour 36 = .ok (.iadd, 1) := by decide +kernel
theorem dX12_pour_37 : decode cX12_pour 37 = .ok (.bipush 8, 2) := by decide +kernel
theorem dX12_pour_39 : decode cX12_pour 39 = .ok (.if_icmp .le 6, 3) := by decide +kernel
theorem dX12_pour_42 : decode cX12_pour 42 = .ok (.bipush (-4), 2) := by decide +kernel
theorem dX12_pour_44 : decode cX12_pour 44 = .ok (.ireturn, 1) := by decide +kernel
theorem dX12_pour_45 : decode cX12_pour 45 = .ok (.iconst 0, 1) := by decide +kernel
theorem dX12_pour_46 : decode cX12_pour 46 = .ok (.istore_n 3, 1) := by decide +kernel
theorem dX12_pour_47 : decode cX12_pour 47 = .ok (.iload_n 3, 1) := by decide +kernel
theorem dX12_pour_48 : decode cX12_pour 48 = .ok (.aload_n 0, 1) := by decide +kernel
theorem dX12_pour_49 : decode cX12_pour 49 = .ok (.getfield 22, 3) := by decide +kernel
theorem dX12_pour_52 : decode cX12_pour 52 = .ok (.iload_n 1, 1) := by decide +kernel
theorem dX12_pour_53 : decode cX12_pour 53 = .ok (.iaload, 1) := by decide +kernel
theorem dX12_pour_54 : decode cX12_pour 54 = .ok (.if_icmp .ge 30, 3) := by decide +kernel
theorem dX12_pour_57 : decode cX12_pour 57 = .ok (.aload_n 0, 1) := by decide +kernel
theorem dX12_pour_58 : decode cX12_pour 58 = .ok (.iload_n 1, 1) := by decide +kernel
theorem dX12_pour_59 : decode cX12_pour 59 = .ok (.iload_n 3, 1) := by decide +kernel
theorem dX12_pour_60 : decode cX12_pour 60 = .ok (.invokestatic 233, 3) := by decide +kernel
theorem dX12_pour_63 : decode cX12_pour 63 = .ok (.iload_n 2, 1) := by decide +kernel
theorem dX12_pour_64 : decode cX12_pour 64 = .ok (.aload_n 0, 1) := by decide +kernel
theorem dX12_pour_65 : decode cX12_pour 65 = .ok (.getfield 22, 3) := by decide +kernel
theorem dX12_pour_68 : decode cX12_pour 68 = .ok (.iload_n 2, 1) := by decide +kernel
theorem dX12_pour_69 : decode cX12_pour 69 = .ok (.iaload, 1) := by decide +kernel
theorem dX12_pour_70 : decode cX12_pour 70 = .ok (.iload_n 3, 1) := by decide +kernel
theorem dX12_pour_71 : decode cX12_pour 71 = .ok (.iadd, 1) := by decide +kernel
theorem dX12_pour_72 : decode cX12_pour 72 = .ok (.invokestatic 233, 3) := by decide +kernel
theorem dX12_pour_75 : decode cX12_pour 75 = .ok (.invokevirtual 239, 3) := by decide +kernel
theorem dX12_pour_78 : decode cX12_pour 78 = .ok (.iinc 3 1, 3) := by decide +kernel
theorem dX12_pour_81 : decode cX12_pour 81 = .ok (.goto (-34), 3) := by decide +kernel
theorem dX12_pour_84 : decode cX12_pour 84 = .ok (.aload_n 0, 1) := by decide +kernel
theorem dX12_pour_85 : decode cX12_pour 85 = .ok (.getfield 22, 3) := by decide +kernel
theorem dX12_pour_88 : decode cX12_pour 88 = .ok (.iload_n 2, 1) := by decide +kernel
theorem dX12_pour_89 : decode cX12_pour 89 = .ok (.dup2, 1) := by decide +kernel
theorem dX12_pour_90 : decode cX12_pour 90 = .ok (.iaload, 1) := by decide +kernel
theorem dX12_pour_91 : decode cX12_pour 91 = .ok (.aload_n 0, 1) := by decide +kernel
theorem dX12_pour_92 : decode cX12_pour 92 = .ok (.getfield 22, 3) := by decide +kernel
theorem dX12_pour_95 : decode cX12_pour 95 = .ok (.iload_n 1, 1) := by decide +kernel
theorem dX12_pour_96 : decode cX12_pour 96 = .ok (.iaload, 1) := by decide +kernel
theorem dX12_pour_97 : decode cX12_pour 97 = .ok (.iadd, 1) := by decide +kernel
theorem dX12_pour_98 : decode cX12_pour 98 = .ok (.iastore, 1) := by decide +kernel
theorem dX12_pour_99 : decode cX12_pour 99 = .ok (.aload_n 0, 1) := by decide +kernel
theorem dX12_pour_100 : decode cX12_pour 100 = .ok (.getfield 22, 3) := by decide +kernel
theorem dX12_pour_103 : decode cX12_pour 103 = .ok (.iload_n 1, 1) := by decide +kernel
theorem dX12_pour_104 : decode cX12_pour 104 = .ok (.iconst 0, 1) := by decide +kernel
theorem dX12_pour_105 : decode cX12_pour 105 = .ok (.iastore, 1) := by decide +kernel
theorem dX12_pour_106 : decode cX12_pour 106 = .ok (.aload_n 0, 1) := by decide +kernel
theorem dX12_pour_107 : decode cX12_pour 107 = .ok (.getfield 22, 3) := by decide +kernel
theorem dX12_pour_110 : decode cX12_pour 110 = .ok (.iload_n 2, 1) := by decide +kernel
theorem dX12_pour_111 : decode cX12_pour 111 = .ok (.iaload, 1) := by decide +kernel
theorem dX12_pour_112 : decode cX12_pour 112 = .ok (.ireturn, 1) := by decide +kernel
theorem dX12_held_0 : decode cX12_held 0 = .ok (.iload_n 1, 1) := by decide +kernel
theorem dX12_held_1 : decode cX12_held 1 = .ok (.invokestatic 230, 3) := by decide +kernel
theorem dX12_held_4 : decode cX12_held 4 = .ok (.ifCond .ne 5, 3) := by decide +kernel
theorem dX12_held_7 : decode cX12_held 7 = .ok (.iconst (-1), 1) := by decide +kernel
theorem dX12_held_8 : decode cX12_held 8 = .ok (.ireturn, 1) := by decide +kernel
theorem dX12_held_9 : decode cX12_held 9 = .ok (.iload_n 2, 1) := by decide +kernel
theorem dX12_held_10 : decode cX12_held 10 = .ok (.iconst (-1), 1) := by decide +kernel
theorem dX12_held_11 : decode cX12_held 11 = .ok (.if_icmp .ne 12, 3) := by decide +kernel
theorem dX12_held_14 : decode cX12_held 14 = .ok (.aload_n 0, 1) := by decide +kernel
theorem dX12_held_15 : decode cX12_held 15 = .ok (.getfield 22, 3) := by decide +kernel
theorem dX12_held_18 : decode cX12_held 18 = .ok (.iload_n 1, 1) := by decide +kernel
theorem dX12_held_19 : decode cX12_held 19 = .ok (.iaload, 1) := by decide +kernel
theorem dX12_held_20 : decode cX12_held 20 = .ok (.goto 22, 3) := by decide +kernel
theorem dX12_held_23 : decode cX12_held 23 = .ok (.aload_n 0, 1) := by decide +kernel
theorem dX12_held_24 : decode cX12_held 24 = .ok (.iload_n 1, 1) := by decide +kernel
theorem dX12_held_25 : decode cX12_held 25 = .ok (.iload_n 2, 1) := by decide +kernel
theorem dX12_held_26 : decode cX12_held 26 = .ok (.invokevirtual 236, 3) := by decide +kernel
theorem dX12_held_29 : decode cX12_held 29 = .ok (.ifCond .eq 12, 3) := by decide +kernel
theorem dX12_held_32 : decode cX12_held 32 = .ok (.aload_n 0, 1) := by decide +kernel
theorem dX12_held_33 : decode cX12_held 33 = .ok (.iload_n 1, 1) := by decide +kernel
theorem dX12_held_34 : decode cX12_held 34 = .ok (.iload_n 2, 1) := by decide +kernel
theorem dX12_held_35 : decode cX12_held 35 = .ok (.invokevirtual 242, 3) := by decide +kernel
theorem dX12_held_38 : decode cX12_held 38 = .ok (.goto 4, 3) := by decide +kernel
theorem dX12_held_41 : decode cX12_held 41 = .ok (.iconst (-1), 1) := by decide +kernel
theorem dX12_held_42 : decode cX12_held 42 = .ok (.ireturn, 1) := by decide +kernel
theorem dX12_list_0 : decode cX12_list 0 = .ok (.iload_n 1, 1) := by decide +kernel
theorem dX12_list_1 : decode cX12_list 1 = .ok (.invokestatic 194, 3) := by decide +kernel
theorem dX12_list_4 : decode cX12_list 4 = .ok (.ifCond .ne 5, 3) := by decide +kernel
theorem dX12_list_7 : decode cX12_list 7 = .ok (.iconst (-1), 1) := by decide +kernel
theorem dX12_list_8 : decode cX12_list 8 = .ok (.ireturn, 1) := by decide +kernel
theorem dX12_list_9 : decode cX12_list 9 = .ok (.iload_n 2, 1) := by decide +kernel
theorem dX12_list_10 : decode cX12_list 10 = .ok (.bipush 30, 2) := by decide +kernel
theorem dX12_list_12 : decode cX12_list 12 = .ok (.if_icmp .le 6, 3) := by decide +kernel
theorem dX12_list_15 : decode cX12_list 15 = .ok (.bipush (-2), 2) := by decide +kernel
theorem dX12_list_17 : decode cX12_list 17 = .ok (.ireturn, 1) := by decide +kernel
theorem dX12_list_18 : decode cX12_list 18 = .ok (.iload_n 2, 1) := by decide +kernel
theorem dX12_list_19 : decode cX12_list 19 = .ok (.iconst (-1), 1) := by decide +kernel
theorem dX12_list_20 : decode cX12_list 20 = .ok (.if_icmp .ge 6, 3) := by decide +kernel
theorem dX12_list_23 : decode cX12_list 23 = .ok (.bipush (-14), 2) := by decide +kernel
theorem dX12_list_25 : decode cX12_list 25 = .ok (.ireturn, 1) := by decide +kernel
theorem dX12_list_26 : decode cX12_list 26 = .ok (.aload_n 0, 1) := by decide +kernel
theorem dX12_list_27 : decode cX12_list 27 = .ok (.getfield 58, 3) := by decide +kernel
theorem dX12_list_30 : decode cX12_list 30 = .ok (.iload_n 1, 1) := by decide +kernel
theorem dX12_list_31 : decode cX12_list 31 = .ok (.iload_n 2, 1) := by decide +kernel
theorem dX12_list_32 : decode cX12_list 32 = .ok (.iastore, 1) := by decide +kernel
theorem dX12_list_33 : decode cX12_list 33 = .ok (.iconst 0, 1) := by decide +kernel
theorem dX12_list_34 : decode cX12_list 34 = .ok (.istore_n 3, 1) := by decide +kernel
theorem dX12_list_35 : decode cX12_list 35 = .ok (.iload_n 3, 1) := by decide +kernel
theorem dX12_list_36 : decode cX12_list 36 = .ok (.bipush 30, 2) := by decide +kernel
theorem dX12_list_38 : decode cX12_list 38 = .ok (.if_icmp .ge 21, 3) := by decide +kernel
theorem dX12_list_41 : decode cX12_list 41 = .ok (.aload_n 0, 1) := by decide +kernel
theorem dX12_list_42 : decode cX12_list 42 = .ok (.getfield 61, 3) := by decide +kernel
theorem dX12_list_45 : decode cX12_list 45 = .ok (.bipush 30, 2) := by decide +kernel
theorem dX12_list_47 : decode cX12_list 47 = .ok (.iload_n 1, 1) := by decide +kernel
theorem dX12_list_48 : decode cX12_list 48 = .ok (.imul, 1) := by decide +kernel
theorem dX12_list_49 : decode cX12_list 49 = .ok (.iload_n 3, 1) := by decide +kernel
theorem dX12_list_50 : decode cX12_list 50 = .ok (.iadd, 1) := by decide +kernel
theorem dX12_list_51 : decode cX12_list 51 = .ok (.lconst 0, 1) := by decide +kernel
theorem dX12_list_52 : decode cX12_list 52 = .ok (.lastore, 1) := by decide +kernel
theorem dX12_list_53 : decode cX12_list 53 = .ok (.iinc 3 1, 3) := by decide +kernel
theorem dX12_list_56 : decode cX12_list 56 = .ok (.goto (-21), 3) := by decide +kernel
theorem dX12_list_59 : decode cX12_list 59 = .ok (.iconst 1, 1) := by decide +kernel
theorem dX12_list_60 : decode cX12_list 60 = .ok (.ireturn, 1) := by decide +kernel
theorem dX12_put_0 : decode cX12_put 0 = .ok (.iload_n 1, 1) := by decide +kernel
theorem dX12_put_1 : decode cX12_put 1 = .ok (.invokestatic 194, 3) := by decide +kernel
theorem dX12_put_4 : decode cX12_put 4 = .ok (.ifCond .ne 5, 3) := by decide +kernel
theorem dX12_put_7 : decode cX12_put 7 = .ok (.iconst (-1), 1) := by decide +kernel
theorem dX12_put_8 : decode cX12_put 8 = .ok (.ireturn, 1) := by decide +kernel
theorem dX12_put_9 : decode cX12_put 9 = .ok (.aload_n 0, 1) := by decide +kernel
theorem dX12_put_10 : decode cX12_put 10 = .ok (.getfield 58, 3) := by decide +kernel
theorem dX12_put_13 : decode cX12_put 13 = .ok (.iload_n 1, 1) := by decide +kernel
theorem dX12_put_14 : decode cX12_put 14 = .ok (.iaload, 1) := by decide +kernel
theorem dX12_put_15 : decode cX12_put 15 = .ok (.ifCond .ge 6, 3) := by decide +kernel
theorem dX12_put_18 : decode cX12_put 18 = .ok (.bipush (-11), 2) := by decide +kernel
theorem dX12_put_20 : decode cX12_put 20 = .ok (.ireturn, 1) := by decide +kernel
theorem dX12_put_21 : decode cX12_put 21 = .ok (.iload_n 2, 1) := by decide +kernel
theorem dX12_put_22 : decode cX12_put 22 = .ok (.i2l, 1) := by decide +kernel
theorem dX12_put_23 : decode cX12_put 23 = .ok (.lconst 0, 1) := by decide +kernel
theorem dX12_put_24 : decode cX12_put 24 = .ok (.aload_n 0, 1) := by decide +kernel
theorem dX12_put_25 : decode cX12_put 25 = .ok (.getfield 58, 3) := by decide +kernel
theorem dX12_put_28 : decode cX12_put 28 = .ok (.iload_n 1, 1) := by decide +kernel
theorem dX12_put_29 : decode cX12_put 29 = .ok (.iaload, 1) := by decide +kernel
theorem dX12_put_30 : decode cX12_put 30 = .ok (.iconst 1, 1) := by decide +kernel
theorem dX12_put_31 : decode cX12_put 31 = .ok (.isub, 1) := by decide +kernel
theorem dX12_put_32 : decode cX12_put 32 = .ok (.i2l, 1) := by decide +kernel
theorem dX12_put_33 : decode cX12_put 33 = .ok (.invokestatic 97, 3) := by decide +kernel
theorem dX12_put_36 : decode cX12_put 36 = .ok (.ifCond .ne 6, 3) := by decide +kernel
theorem dX12_put_39 : decode cX12_put 39 = .ok (.bipush (-13), 2) := by decide +kernel
theorem dX12_put_41 : decode cX12_put 41 = .ok (.ireturn, 1) := by decide +kernel
theorem dX12_put_42 : decode cX12_put 42 = .ok (.aload_n 0, 1) := by decide +kernel
theorem dX12_put_43 : decode cX12_put 43 = .ok (.getfield 61, 3) := by decide +kernel
theorem dX12_put_46 : decode cX12_put 46 = .ok (.bipush 30, 2) := by decide +kernel
theorem dX12_put_48 : decode cX12_put 48 = .ok (.iload_n 1, 1) := by decide +kernel
theorem dX12_put_49 : decode cX12_put 49 = .ok (.imul, 1) := by decide +kernel
theorem dX12_put_50 : decode cX12_put 50 = .ok (.iload_n 2, 1) := by decide +kernel
theorem dX12_put_51 : decode cX12_put 51 = .ok (.iadd, 1) := by decide +kernel
theorem dX12_put_52 : decode cX12_put 52 = .ok (.lload_n 3, 1) := by decide +kernel
theorem dX12_put_53 : decode cX12_put 53 = .ok (.lastore, 1) := by decide +kernel
theorem dX12_put_54 : decode cX12_put 54 = .ok (.iconst 1, 1) := by decide +kernel
theorem dX12_put_55 : decode cX12_put 55 = .ok (.ireturn, 1) := by decide +kernel
theorem dX12_get_0 : decode cX12_get 0 = .ok (.iload_n 1, 1) := by decide +kernel
theorem dX12_get_1 : decode cX12_get 1 = .ok (.invokestatic 194, 3) := by decide +kernel
theorem dX12_get_4 : decode cX12_get 4 = .ok (.ifCond .eq 35, 3) := by decide +kernel
theorem dX12_get_7 : decode cX12_get 7 = .ok (.iload_n 2, 1) := by decide +kernel
theorem dX12_get_8 : decode cX12_get 8 = .ok (.i2l, 1) := by decide +kernel
theorem dX12_get_9 : decode cX12_get 9 = .ok (.lconst 0, 1) := by decide +kernel
theorem dX12_get_10 : decode cX12_get 10 = .ok (.aload_n 0, 1) := by decide +kernel
theorem dX12_get_11 : decode cX12_get 11 = .ok (.getfield 58, 3) := by decide +kernel
theorem dX12_get_14 : decode cX12_get 14 = .ok (.iload_n 1, 1) := by decide +kernel
theorem dX12_get_15 : decode cX12_get 15 = .ok (.iaload, 1) := by decide +kernel
theorem dX12_get_16 : decode cX12_get 16 = .ok (.iconst 1, 1) := by decide +kernel
theorem dX12_get_17 : decode cX12_get 17 = .ok (.isub, 1) := by decide +kernel
theorem dX12_get_18 : decode cX12_get 18 = .ok (.i2l, 1) := by decide +kernel
theorem dX12_get_19 : decode cX12_get 19 = .ok (.invokestatic 97, 3) := by decide +kernel
theorem dX12_get_22 : decode cX12_get 22 = .ok (.ifCond .eq 17, 3) := by decide +kernel
theorem dX12_get_25 : decode cX12_get 25 = .ok (.aload_n 0, 1) := by decide +kernel
theorem dX12_get_26 : decode cX12_get 26 = .ok (.getfield 61, 3) := by decide +kernel
theorem dX12_get_29 : decode cX12_get 29 = .ok (.bipush 30, 2) := by decide +kernel
theorem dX12_get_31 : decode cX12_get 31 = .ok (.iload_n 1, 1) := by decide +kernel
theorem dX12_get_32 : decode cX12_get 32 = .ok (.imul, 1) := by decide +kernel
theorem dX12_get_33 : decode cX12_get 33 = .ok (.iload_n 2, 1) := by decide +kernel
theorem dX12_get_34 : decode cX12_get 34 = .ok (.iadd, 1) := by decide +kernel
theorem dX12_get_35 : decode cX12_get 35 = .ok (.laload, 1) := by decide +kernel
theorem dX12_get_36 : decode cX12_get 36 = .ok (.goto 6, 3) := by decide +kernel
theorem dX12_get_39 : decode cX12_get 39 = .ok (.ldc2_w 119, 3) := by decide +kernel
theorem dX12_get_42 : decode cX12_get 42 = .ok (.lreturn, 1) := by decide +kernel
theorem dX12_film_0 : decode cX12_film 0 = .ok (.iload_n 1, 1) := by decide +kernel
theorem dX12_film_1 : decode cX12_film 1 = .ok (.invokestatic 194, 3) := by decide +kernel
theorem dX12_film_4 : decode cX12_film 4 = .ok (.ifCond .ne 5, 3) := by decide +kernel
theorem dX12_film_7 : decode cX12_film 7 = .ok (.iconst (-1), 1) := by decide +kernel
theorem dX12_film_8 : decode cX12_film 8 = .ok (.ireturn, 1) := by decide +kernel
theorem dX12_film_9 : decode cX12_film 9 = .ok (.aload_n 0, 1) := by decide +kernel
theorem dX12_film_10 : decode cX12_film 10 = .ok (.getfield 58, 3) := by decide +kernel
theorem dX12_film_13 : decode cX12_film 13 = .ok (.iload_n 1, 1) := by decide +kernel
theorem dX12_film_14 : decode cX12_film 14 = .ok (.aload_n 0, 1) := by decide +kernel
theorem dX12_film_15 : decode cX12_film 15 = .ok (.getfield 9, 3) := by decide +kernel
theorem dX12_film_18 : decode cX12_film 18 = .ok (.iastore, 1) := by decide +kernel
theorem dX12_film_19 : decode cX12_film 19 = .ok (.iconst 0, 1) := by decide +kernel
theorem dX12_film_20 : decode cX12_film 20 = .ok (.istore_n 2, 1) := by decide +kernel
theorem dX12_film_21 : decode cX12_film 21 = .ok (.iload_n 2, 1) := by decide +kernel
theorem dX12_film_22 : decode cX12_film 22 = .ok (.bipush 30, 2) := by decide +kernel
theorem dX12_film_24 : decode cX12_film 24 = .ok (.if_icmp .ge 39, 3) := by decide +kernel
theorem dX12_film_27 : decode cX12_film 27 = .ok (.aload_n 0, 1) := by decide +kernel
theorem dX12_film_28 : decode cX12_film 28 = .ok (.getfield 61, 3) := by decide +kernel
theorem dX12_film_31 : decode cX12_film 31 = .ok (.bipush 30, 2) := by decide +kernel
theorem dX12_film_33 : decode cX12_film 33 = .ok (.iload_n 1, 1) := by decide +kernel
theorem dX12_film_34 : decode cX12_film 34 = .ok (.imul, 1) := by decide +kernel
theorem dX12_film_35 : decode cX12_film 35 = .ok (.iload_n 2, 1) := by decide +kernel
theorem dX12_film_36 : decode cX12_film 36 = .ok (.iadd, 1) := by decide +kernel
theorem dX12_film_37 : decode cX12_film 37 = .ok (.iload_n 2, 1) := by decide +kernel
theorem dX12_film_38 : decode cX12_film 38 = .ok (.aload_n 0, 1) := by decide +kernel
theorem dX12_film_39 : decode cX12_film 39 = .ok (.getfield 9, 3) := by decide +kernel
theorem dX12_film_42 : decode cX12_film 42 = .ok (.if_icmp .ge 13, 3) := by decide +kernel
theorem dX12_film_45 : decode cX12_film 45 = .ok (.aload_n 0, 1) := by decide +kernel
theorem dX12_film_46 : decode cX12_film 46 = .ok (.getfield 15, 3) := by decide +kernel
theorem dX12_film_49 : decode cX12_film 49 = .ok (.iload_n 2, 1) := by decide +kernel
theorem dX12_film_50 : decode cX12_film 50 = .ok (.iaload, 1) := by decide +kernel
theorem dX12_film_51 : decode cX12_film 51 = .ok (.i2l, 1) := by decide +kernel
theorem dX12_film_52 : decode cX12_film 52 = .ok (.goto 4, 3) := by decide +kernel
theorem dX12_film_55 : decode cX12_film 55 = .ok (.lconst 0, 1) := by decide +kernel
theorem dX12_film_56 : decode cX12_film 56 = .ok (.lastore, 1) := by decide +kernel
theorem dX12_film_57 : decode cX12_film 57 = .ok (.iinc 2 1, 3) := by decide +kernel
theorem dX12_film_60 : decode cX12_film 60 = .ok (.goto (-39), 3) := by decide +kernel
theorem dX12_film_63 : decode cX12_film 63 = .ok (.aload_n 0, 1) := by decide +kernel
theorem dX12_film_64 : decode cX12_film 64 = .ok (.getfield 9, 3) := by decide +kernel
theorem dX12_film_67 : decode cX12_film 67 = .ok (.ireturn, 1) := by decide +kernel
theorem dX12_feed_0 : decode cX12_feed 0 = .ok (.iload_n 1, 1) := by decide +kernel
theorem dX12_feed_1 : decode cX12_feed 1 = .ok (.i2l, 1) := by decide +kernel
theorem dX12_feed_2 : decode cX12_feed 2 = .ok (.ldc2_w 245, 3) := by decide +kernel
theorem dX12_feed_5 : decode cX12_feed 5 = .ok (.ldc2_w 247, 3) := by decide +kernel
theorem dX12_feed_8 : decode cX12_feed 8 = .ok (.invokestatic 97, 3) := by decide +kernel
theorem dX12_feed_11 : decode cX12_feed 11 = .ok (.ifCond .ne 6, 3) := by decide +kernel
theorem dX12_feed_14 : decode cX12_feed 14 = .ok (.bipush (-2), 2) := by decide +kernel
theorem dX12_feed_16 : decode cX12_feed 16 = .ok (.ireturn, 1) := by decide +kernel
theorem dX12_feed_17 : decode cX12_feed 17 = .ok (.aload_n 0, 1) := by decide +kernel
theorem dX12_feed_18 : decode cX12_feed 18 = .ok (.getfield 249, 3) := by decide +kernel
theorem dX12_feed_21 : decode cX12_feed 21 = .ok (.bipush 100, 2) := by decide +kernel
theorem dX12_feed_23 : decode cX12_feed 23 = .ok (.if_icmp .ne 6, 3) := by decide +kernel
theorem dX12_feed_26 : decode cX12_feed 26 = .ok (.bipush (-4), 2) := by decide +kernel
theorem dX12_feed_28 : decode cX12_feed 28 = .ok (.ireturn, 1) := by decide +kernel
theorem dX12_feed_29 : decode cX12_feed 29 = .ok (.aload_n 0, 1) := by decide +kernel
theorem dX12_feed_30 : decode cX12_feed 30 = .ok (.getfield 75, 3) := by decide +kernel
theorem dX12_feed_33 : decode cX12_feed 33 = .ok (.aload_n 0, 1) := by decide +kernel
theorem dX12_feed_34 : decode cX12_feed 34 = .ok (.getfield 249, 3) := by decide +kernel
theorem dX12_feed_37 : decode cX12_feed 37 = .ok (.iload_n 1, 1) := by decide +kernel
theorem dX12_feed_38 : decode cX12_feed 38 = .ok (.iastore, 1) := by decide +kernel
theorem dX12_feed_39 : decode cX12_feed 39 = .ok (.aload_n 0, 1) := by decide +kernel
theorem dX12_feed_40 : decode cX12_feed 40 = .ok (.dup, 1) := by decide +kernel
theorem dX12_feed_41 : decode cX12_feed 41 = .ok (.getfield 249, 3) := by decide +kernel
theorem dX12_feed_44 : decode cX12_feed 44 = .ok (.iconst 1, 1) := by decide +kernel
theorem dX12_feed_45 : decode cX12_feed 45 = .ok (.iadd, 1) := by decide +kernel
theorem dX12_feed_46 : decode cX12_feed 46 = .ok (.putfield 249, 3) := by decide +kernel
theorem dX12_feed_49 : decode cX12_feed 49 = .ok (.aload_n 0, 1) := by decide +kernel
theorem dX12_feed_50 : decode cX12_feed 50 = .ok (.getfield 249, 3) := by decide +kernel
theorem dX12_feed_53 : decode cX12_feed 53 = .ok (.ireturn, 1) := by decide +kernel
theorem dX12_wipe_0 : decode cX12_wipe 0 = .ok (.aload_n 0, 1) := by decide +kernel
theorem dX12_wipe_1 : decode cX12_wipe 1 = .ok (.getfield 249, 3) := by decide +kernel
theorem dX12_wipe_4 : decode cX12_wipe 4 = .ok (.istore_n 1, 1) := by decide +kernel
theorem dX12_wipe_5 : decode cX12_wipe 5 = .ok (.aload_n 0, 1) := by decide +kernel
theorem dX12_wipe_6 : decode cX12_wipe 6 = .ok (.iconst 0, 1) := by decide +kernel
theorem dX12_wipe_7 : decode cX12_wipe 7 = .ok (.putfield 249, 3) := by decide +kernel
theorem dX12_wipe_10 : decode cX12_wipe 10 = .ok (.iload_n 1, 1) := by decide +kernel
theorem dX12_wipe_11 : decode cX12_wipe 11 = .ok (.ireturn, 1) := by decide +kernel
theorem dX12_here_0 : decode cX12_here 0 = .ok (.aload_n 0, 1) := by decide +kernel
theorem dX12_here_1 : decode cX12_here 1 = .ok (.getfield 252, 3) := by decide +kernel
theorem dX12_here_4 : decode cX12_here 4 = .ok (.aload_n 0, 1) := by decide +kernel
theorem dX12_here_5 : decode cX12_here 5 = .ok (.getfield 249, 3) := by decide +kernel
theorem dX12_here_8 : decode cX12_here 8 = .ok (.if_icmp .ge 15, 3) := by decide +kernel
theorem dX12_here_11 : decode cX12_here 11 = .ok (.aload_n 0, 1) := by decide +kernel
theorem dX12_here_12 : decode cX12_here 12 = .ok (.getfield 75, 3) := by decide +kernel
theorem dX12_here_15 : decode cX12_here 15 = .ok (.aload_n 0, 1) := by decide +kernel
theorem dX12_here_16 : decode cX12_here 16 = .ok (.getfield 252, 3) := by decide +kernel
theorem dX12_here_19 : decode cX12_here 19 = .ok (.iaload, 1) := by decide +kernel
theorem dX12_here_20 : decode cX12_here 20 = .ok (.goto 4, 3) := by decide +kernel
theorem dX12_here_23 : decode cX12_here 23 = .ok (.iconst 0, 1) := by decide +kernel
theorem dX12_here_24 : decode cX12_here 24 = .ok (.ireturn, 1) := by decide +kernel
theorem dX12_readsNumber_0 : decode cX12_readsNumber 0 = .ok (.aload_n 0, 1) := by decide +kernel
theorem dX12_readsNumber_1 : decode cX12_readsNumber 1 = .ok (.invokevirtual 255, 3) := by decide +kernel
theorem dX12_readsNumber_4 : decode cX12_readsNumber 4 = .ok (.i2l, 1) := by decide +kernel
theorem dX12_readsNumber_5 : decode cX12_readsNumber 5 = .ok (.ldc2_w 258, 3) := by decide +kernel
theorem dX12_readsNumber_8 : decode cX12_readsNumber 8 = .ok (.ldc2_w 260, 3) := by decide +kernel
theorem dX12_readsNumber_11 : decode cX12_readsNumber 11 = .ok (.invokestatic 97, 3) := by decide +kernel
theorem dX12_readsNumber_14 : decode cX12_readsNumber 14 = .ok (.ifCond .ne 5, 3) := by decide +kernel
theorem dX12_readsNumber_17 : decode cX12_readsNumber 17 = .ok (.iconst (-1), 1) := by decide +kernel
theorem dX12_readsNumber_18 : decode cX12_readsNumber 18 = .ok (.ireturn, 1) := by decide +kernel
theorem dX12_readsNumber_19 : decode cX12_readsNumber 19 = .ok (.aload_n 0, 1) := by decide +kernel
theorem dX12_readsNumber_20 : decode cX12_readsNumber 20 = .ok (.invokevirtual 255, 3) := by decide +kernel
theorem dX12_readsNumber_23 : decode cX12_readsNumber 23 = .ok (.bipush 48, 2) := by decide +kernel
theorem dX12_readsNumber_25 : decode cX12_readsNumber 25 = .ok (.isub, 1) := by decide +kernel
theorem dX12_readsNumber_26 : decode cX12_readsNumber 26 = .ok (.istore_n 1, 1) := by decide +kernel
theorem dX12_readsNumber_27 : decode cX12_readsNumber 27 = .ok (.aload_n 0, 1) := by decide +kernel
theorem dX12_readsNumber_28 : decode cX12_readsNumber 28 = .ok (.dup, 1) := by decide +kernel
theorem dX12_readsNumber_29 : decode cX12_readsNumber 29 = .ok (.getfield 252, 3) := by decide +kernel
theorem dX12_readsNumber_32 : decode cX12_readsNumber 32 = .ok (.iconst 1, 1) := by decide +kernel
theorem dX12_readsNumber_33 : decode cX12_readsNumber 33 = .ok (.iadd, 1) := by decide +kernel
theorem dX12_readsNumber_34 : decode cX12_readsNumber 34 = .ok (.putfield 252, 3) := by decide +kernel
theorem dX12_readsNumber_37 : decode cX12_readsNumber 37 = .ok (.aload_n 0, 1) := by decide +kernel
theorem dX12_readsNumber_38 : decode cX12_readsNumber 38 = .ok (.invokevirtual 255, 3) := by decide +kernel
theorem dX12_readsNumber_41 : decode cX12_readsNumber 41 = .ok (.i2l, 1) := by decide +kernel
theorem dX12_readsNumber_42 : decode cX12_readsNumber 42 = .ok (.ldc2_w 258, 3) := by decide +kernel
theorem dX12_readsNumber_45 : decode cX12_readsNumber 45 = .ok (.ldc2_w 260, 3) := by decide +kernel
theorem dX12_readsNumber_48 : decode cX12_readsNumber 48 = .ok (.invokestatic 97, 3) := by decide +kernel
theorem dX12_readsNumber_51 : decode cX12_readsNumber 51 = .ok (.ifCond .eq 26, 3) := by decide +kernel
theorem dX12_readsNumber_54 : decode cX12_readsNumber 54 = .ok (.bipush 10, 2) := by decide +kernel
theorem dX12_readsNumber_56 : decode cX12_readsNumber 56 = .ok (.iload_n 1, 1) := by decide +kernel
theorem dX12_readsNumber_57 : decode cX12_readsNumber 57 = .ok (.imul, 1) := by decide +kernel
theorem dX12_readsNumber_58 : decode cX12_readsNumber 58 = .ok (.aload_n 0, 1) := by decide +kernel
theorem dX12_readsNumber_59 : decode cX12_readsNumber 59 = .ok (.invokevirtual 255, 3) := by decide +kernel
theorem dX12_readsNumber_62 : decode cX12_readsNumber 62 = .ok (.iadd, 1) := by decide +kernel
theorem dX12_readsNumber_63 : decode cX12_readsNumber 63 = .ok (.bipush 48, 2) := by decide +kernel
theorem dX12_readsNumber_65 : decode cX12_readsNumber 65 = .ok (.isub, 1) := by decide +kernel
theorem dX12_readsNumber_66 : decode cX12_readsNumber 66 = .ok (.istore_n 1, 1) := by decide +kernel
theorem dX12_readsNumber_67 : decode cX12_readsNumber 67 = .ok (.aload_n 0, 1) := by decide +kernel
theorem dX12_readsNumber_68 : decode cX12_readsNumber 68 = .ok (.dup, 1) := by decide +kernel
theorem dX12_readsNumber_69 : decode cX12_readsNumber 69 = .ok (.getfield 252, 3) := by decide +kernel
theorem dX12_readsNumber_72 : decode cX12_readsNumber 72 = .ok (.iconst 1, 1) := by decide +kernel
theorem dX12_readsNumber_73 : decode cX12_readsNumber 73 = .ok (.iadd, 1) := by decide +kernel
theorem dX12_readsNumber_74 : decode cX12_readsNumber 74 = .ok (.putfield 252, 3) := by decide +kernel
theorem dX12_readsNumber_77 : decode cX12_readsNumber 77 = .ok (.iload_n 1, 1) := by decide +kernel
theorem dX12_readsNumber_78 : decode cX12_readsNumber 78 = .ok (.ireturn, 1) := by decide +kernel
theorem dX12_readsItem_0 : decode cX12_readsItem 0 = .ok (.aload_n 0, 1) := by decide +kernel
theorem dX12_readsItem_1 : decode cX12_readsItem 1 = .ok (.invokevirtual 262, 3) := by decide +kernel
theorem dX12_readsItem_4 : decode cX12_readsItem 4 = .ok (.istore_n 2, 1) := by decide +kernel
theorem dX12_readsItem_5 : decode cX12_readsItem 5 = .ok (.iconst 1, 1) := by decide +kernel
theorem dX12_readsItem_6 : decode cX12_readsItem 6 = .ok (.istore_n 3, 1) := by decide +kernel
theorem dX12_readsItem_7 : decode cX12_readsItem 7 = .ok (.iload_n 2, 1) := by decide +kernel
theorem dX12_readsItem_8 : decode cX12_readsItem 8 = .ok (.ifCond .ge 5, 3) := by decide +kernel
theorem dX12_readsItem_11 : decode cX12_readsItem 11 = .ok (.iconst 0, 1) := by decide +kernel
theorem dX12_readsItem_12 : decode cX12_readsItem 12 = .ok (.ireturn, 1) := by decide +kernel
theorem dX12_readsItem_13 : decode cX12_readsItem 13 = .ok (.aload_n 0, 1) := by decide +kernel
theorem dX12_readsItem_14 : decode cX12_readsItem 14 = .ok (.invokevirtual 255, 3) := by decide +kernel
theorem dX12_readsItem_17 : decode cX12_readsItem 17 = .ok (.bipush 120, 2) := by decide +kernel
theorem dX12_readsItem_19 : decode cX12_readsItem 19 = .ok (.if_icmp .ne 50, 3) := by decide +kernel
theorem dX12_readsItem_22 : decode cX12_readsItem 22 = .ok (.aload_n 0, 1) := by decide +kernel
theorem dX12_readsItem_23 : decode cX12_readsItem 23 = .ok (.dup, 1) := by decide +kernel
theorem dX12_readsItem_24 : decode cX12_readsItem 24 = .ok (.getfield 252, 3) := by decide +kernel
theorem dX12_readsItem_27 : decode cX12_readsItem 27 = .ok (.iconst 1, 1) := by decide +kernel
theorem dX12_readsItem_28 : decode cX12_readsItem 28 = .ok (.iadd, 1) := by decide +kernel
theorem dX12_readsItem_29 : decode cX12_readsItem 29 = .ok (.putfield 252, 3) := by decide +kernel
theorem dX12_readsItem_32 : decode cX12_readsItem 32 = .ok (.aload_n 0, 1) := by decide +kernel
theorem dX12_readsItem_33 : decode cX12_readsItem 33 = .ok (.invokevirtual 255, 3) := by decide +kernel
theorem dX12_readsItem_36 : decode cX12_readsItem 36 = .ok (.i2l, 1) := by decide +kernel
theorem dX12_readsItem_37 : decode cX12_readsItem 37 = .ok (.ldc2_w 265, 3) := by decide +kernel
theorem dX12_readsItem_40 : decode cX12_readsItem 40 = .ok (.ldc2_w 260, 3) := by decide +kernel
theorem dX12_readsItem_43 : decode cX12_readsItem 43 = .ok (.invokestatic 97, 3) := by decide +kernel
theorem dX12_readsItem_46 : decode cX12_readsItem 46 = .ok (.ifCond .ne 5, 3) := by decide +kernel
theorem dX12_readsItem_49 : decode cX12_readsItem 49 = .ok (.iconst 0, 1) := by decide +kernel
theorem dX12_readsItem_50 : decode cX12_readsItem 50 = .ok (.ireturn, 1) := by decide +kernel
theorem dX12_readsItem_51 : decode cX12_readsItem 51 = .ok (.aload_n 0, 1) := by decide +kernel
theorem dX12_readsItem_52 : decode cX12_readsItem 52 = .ok (.invokevirtual 255, 3) := by decide +kernel
theorem dX12_readsItem_55 : decode cX12_readsItem 55 = .ok (.bipush 48, 2) := by decide +kernel
theorem dX12_readsItem_57 : decode cX12_readsItem 57 = .ok (.isub, 1) := by decide +kernel
theorem dX12_readsItem_58 : decode cX12_readsItem 58 = .ok (.istore_n 3, 1) := by decide +kernel
theorem dX12_readsItem_59 : decode cX12_readsItem 59 = .ok (.aload_n 0, 1) := by decide +kernel
theorem dX12_readsItem_60 : decode cX12_readsItem 60 = .ok (.dup, 1) := by decide +kernel
theorem dX12_readsItem_61 : decode cX12_readsItem 61 = .ok (.getfield 252, 3) := by decide +kernel
theorem dX12_readsItem_64 : decode cX12_readsItem 64 = .ok (.iconst 1, 1) := by decide +kernel
theorem dX12_readsItem_65 : decode cX12_readsItem 65 = .ok (.iadd, 1) := by decide +kernel
theorem dX12_readsItem_66 : decode cX12_readsItem 66 = .ok (.putfield 252, 3) := by decide +kernel
theorem dX12_readsItem_69 : decode cX12_readsItem 69 = .ok (.aload_n 0, 1) := by decide +kernel
theorem dX12_readsItem_70 : decode cX12_readsItem 70 = .ok (.dup, 1) := by decide +kernel
theorem dX12_readsItem_71 : decode cX12_readsItem 71 = .ok (.getfield 267, 3) := by decide +kernel
theorem dX12_readsItem_74 : decode cX12_readsItem 74 = .ok (.iload_n 2, 1) := by decide +kernel
theorem dX12_readsItem_75 : decode cX12_readsItem 75 = .ok (.iload_n 1, 1) := by decide +kernel
theorem dX12_readsItem_76 : decode cX12_readsItem 76 = .ok (.if_icmp .lt 7, 3) := by decide +kernel
theorem dX12_readsItem_79 : decode cX12_readsItem 79 = .ok (.iconst 1, 1) := by decide +kernel
theorem dX12_readsItem_80 : decode cX12_readsItem 80 = .ok (.goto 4, 3) := by decide +kernel
theorem dX12_readsItem_83 : decode cX12_readsItem 83 = .ok (.iconst 0, 1) := by decide +kernel
theorem dX12_readsItem_84 : decode cX12_readsItem 84 = .ok (.ior, 1) := by decide +kernel
theorem dX12_readsItem_85 : decode cX12_readsItem 85 = .ok (.putfield 267, 3) := by decide +kernel
theorem dX12_readsItem_88 : decode cX12_readsItem 88 = .ok (.iload_n 2, 1) := by decide +kernel
theorem dX12_readsItem_89 : decode cX12_readsItem 89 = .ok (.bipush 30, 2) := by decide +kernel
theorem dX12_readsItem_91 : decode cX12_readsItem 91 = .ok (.if_icmp .ge 38, 3) := by decide +kernel
theorem dX12_readsItem_94 : decode cX12_readsItem 94 = .ok (.aload_n 0, 1) := by decide +kernel
theorem dX12_readsItem_95 : decode cX12_readsItem 95 = .ok (.getfield 46, 3) := by decide +kernel
theorem dX12_readsItem_98 : decode cX12_readsItem 98 = .ok (.iload_n 2, 1) := by decide +kernel
theorem dX12_readsItem_99 : decode cX12_readsItem 99 = .ok (.dup2, 1) := by decide +kernel
theorem dX12_readsItem_100 : decode cX12_readsItem 100 = .ok (.iaload, 1) := by decide +kernel
theorem dX12_readsItem_101 : decode cX12_readsItem 101 = .ok (.iload_n 3, 1) := by decide +kernel
theorem dX12_readsItem_102 : decode cX12_readsItem 102 = .ok (.iadd, 1) := by decide +kernel
theorem dX12_readsItem_103 : decode cX12_readsItem 103 = .ok (.iastore, 1) := by decide +kernel
theorem dX12_readsItem_104 : decode cX12_readsItem 104 = .ok (.aload_n 0, 1) := by decide +kernel
theorem dX12_readsItem_105 : decode cX12_readsItem 105 = .ok (.dup, 1) := by decide +kernel
theorem dX12_readsItem_106 : decode cX12_readsItem 106 = .ok (.getfield 267, 3) := by decide +kernel
theorem dX12_readsItem_109 : decode cX12_readsItem 109 = .ok (.aload_n 0, 1) := by decide +kernel
theorem dX12_readsItem_110 : decode cX12_readsItem 110 = .ok (.getfield 46, 3) := by decide +kernel
theorem dX12_readsItem_113 : decode cX12_readsItem 113 = .ok (.iload_n 2, 1) := by decide +kernel
theorem dX12_readsItem_114 : decode cX12_readsItem 114 = .ok (.iaload, 1) := by decide +kernel
theorem dX12_readsItem_115 : decode cX12_readsItem 115 = .ok (.bipush 9, 2) := by decide +kernel
theorem dX12_readsItem_117 : decode cX12_readsItem 117 = .ok (.if_icmp .le 7, 3) := by decide +kernel
theorem dX12_readsItem_120 : decode cX12_readsItem 120 = .ok (.iconst 1, 1) := by decide +kernel
theorem dX12_readsItem_121 : decode cX12_readsItem 121 = .ok (.goto 4, 3) := by decide +kernel
theorem dX12_readsItem_124 : decode cX12_readsItem 124 = .ok (.iconst 0, 1) := by decide +kernel
theorem dX12_readsItem_125 : decode cX12_readsItem 125 = .ok (.ior, 1) := by decide +kernel
theorem dX12_readsItem_126 : decode cX12_readsItem 126 = .ok (.putfield 267, 3) := by decide +kernel
theorem dX12_readsItem_129 : decode cX12_readsItem 129 = .ok (.iconst 1, 1) := by decide +kernel
theorem dX12_readsItem_130 : decode cX12_readsItem 130 = .ok (.ireturn, 1) := by decide +kernel
theorem dX12_read_0 : decode cX12_read 0 = .ok (.aload_n 0, 1) := by decide +kernel
theorem dX12_read_1 : decode cX12_read 1 = .ok (.iconst 0, 1) := by decide +kernel
theorem dX12_read_2 : decode cX12_read 2 = .ok (.putfield 252, 3) := by decide +kernel
theorem dX12_read_5 : decode cX12_read 5 = .ok (.aload_n 0, 1) := by decide +kernel
theorem dX12_read_6 : decode cX12_read 6 = .ok (.iconst 0, 1) := by decide +kernel
theorem dX12_read_7 : decode cX12_read 7 = .ok (.putfield 267, 3) := by decide +kernel
theorem dX12_read_10 : decode cX12_read 10 = .ok (.iconst 0, 1) := by decide +kernel
theorem dX12_read_11 : decode cX12_read 11 = .ok (.istore_n 1, 1) := by decide +kernel
theorem dX12_read_12 : decode cX12_read 12 = .ok (.iload_n 1, 1) := by decide +kernel
theorem dX12_read_13 : decode cX12_read 13 = .ok (.bipush 30, 2) := by decide +kernel
theorem dX12_read_15 : decode cX12_read 15 = .ok (.if_icmp .ge 16, 3) := by decide +kernel
theorem dX12_read_18 : decode cX12_read 18 = .ok (.aload_n 0, 1) := by decide +kernel
theorem dX12_read_19 : decode cX12_read 19 = .ok (.getfield 46, 3) := by decide +kernel
theorem dX12_read_22 : decode cX12_read 22 = .ok (.iload_n 1, 1) := by decide +kernel
theorem dX12_read_23 : decode cX12_read 23 = .ok (.iconst 0, 1) := by decide +kernel
theorem dX12_read_24 : decode cX12_read 24 = .ok (.iastore, 1) := by decide +kernel
theorem dX12_read_25 : decode cX12_read 25 = .ok (.iinc 1 1, 3) := by decide +kernel
theorem dX12_read_28 : decode cX12_read 28 = .ok (.goto (-16), 3) := by decide +kernel
theorem dX12_read_31 : decode cX12_read 31 = .ok (.aload_n 0, 1) := by decide +kernel
theorem dX12_read_32 : decode cX12_read 32 = .ok (.invokevirtual 262, 3) := by decide +kernel
theorem dX12_read_35 : decode cX12_read 35 = .ok (.istore_n 1, 1) := by decide +kernel
theorem dX12_read_36 : decode cX12_read 36 = .ok (.iload_n 1, 1) := by decide +kernel
theorem dX12_read_37 : decode cX12_read 37 = .ok (.ifCond .lt 16, 3) := by decide +kernel
theorem dX12_read_40 : decode cX12_read 40 = .ok (.aload_n 0, 1) := by decide +kernel
theorem dX12_read_41 : decode cX12_read 41 = .ok (.invokevirtual 255, 3) := by decide +kernel
theorem dX12_read_44 : decode cX12_read 44 = .ok (.bipush 58, 2) := by decide +kernel
theorem dX12_read_46 : decode cX12_read 46 = .ok (.if_icmp .ne 7, 3) := by decide +kernel
theorem dX12_read_49 : decode cX12_read 49 = .ok (.iconst 1, 1) := by decide +kernel
theorem dX12_read_50 : decode cX12_read 50 = .ok (.goto 4, 3) := by decide +kernel
theorem dX12_read_53 : decode cX12_read 53 = .ok (.iconst 0, 1) := by decide +kernel
theorem dX12_read_54 : decode cX12_read 54 = .ok (.istore_n 2, 1) := by decide +kernel
theorem dX12_read_55 : decode cX12_read 55 = .ok (.aload_n 0, 1) := by decide +kernel
theorem dX12_read_56 : decode cX12_read 56 = .ok (.dup, 1) := by decide +kernel
theorem dX12_read_57 : decode cX12_read 57 = .ok (.getfield 252, 3) := by decide +kernel
theorem dX12_read_60 : decode cX12_read 60 = .ok (.iload_n 2, 1) := by decide +kernel
theorem dX12_read_61 : decode cX12_read 61 = .ok (.ifCond .eq 7, 3) := by decide +kernel
theorem dX12_read_64 : decode cX12_read 64 = .ok (.iconst 1, 1) := by decide +kernel
theorem dX12_read_65 : decode cX12_read 65 = .ok (.goto 4, 3) := by decide +kernel
theorem dX12_read_68 : decode cX12_read 68 = .ok (.iconst 0, 1) := by decide +kernel
theorem dX12_read_69 : decode cX12_read 69 = .ok (.iadd, 1) := by decide +kernel
theorem dX12_read_70 : decode cX12_read 70 = .ok (.putfield 252, 3) := by decide +kernel
theorem dX12_read_73 : decode cX12_read 73 = .ok (.iload_n 2, 1) := by decide +kernel
theorem dX12_read_74 : decode cX12_read 74 = .ok (.ifCond .eq 18, 3) := by decide +kernel
theorem dX12_read_77 : decode cX12_read 77 = .ok (.aload_n 0, 1) := by decide +kernel
theorem dX12_read_78 : decode cX12_read 78 = .ok (.getfield 252, 3) := by decide +kernel
theorem dX12_read_81 : decode cX12_read 81 = .ok (.aload_n 0, 1) := by decide +kernel
theorem dX12_read_82 : decode cX12_read 82 = .ok (.getfield 249, 3) := by decide +kernel
theorem dX12_read_85 : decode cX12_read 85 = .ok (.if_icmp .ge 7, 3) := by decide +kernel
theorem dX12_read_88 : decode cX12_read 88 = .ok (.iconst 1, 1) := by decide +kernel
theorem dX12_read_89 : decode cX12_read 89 = .ok (.goto 4, 3) := by decide +kernel
theorem dX12_read_92 : decode cX12_read 92 = .ok (.iconst 0, 1) := by decide +kernel
theorem dX12_read_93 : decode cX12_read 93 = .ok (.istore_n 3, 1) := by decide +kernel
theorem dX12_read_94 : decode cX12_read 94 = .ok (.iload_n 3, 1) := by decide +kernel
theorem dX12_read_95 : decode cX12_read 95 = .ok (.ifCond .eq 49, 3) := by decide +kernel
theorem dX12_read_98 : decode cX12_read 98 = .ok (.aload_n 0, 1) := by decide +kernel
theorem dX12_read_99 : decode cX12_read 99 = .ok (.iload_n 1, 1) := by decide +kernel
theorem dX12_read_100 : decode cX12_read 100 = .ok (.invokevirtual 271, 3) := by decide +kernel
theorem dX12_read_103 : decode cX12_read 103 = .ok (.istore_n 2, 1) := by decide +kernel
theorem dX12_read_104 : decode cX12_read 104 = .ok (.iload_n 2, 1) := by decide +kernel
theorem dX12_read_105 : decode cX12_read 105 = .ok (.ifCond .eq 16, 3) := by decide +kernel
theorem dX12_read_108 : decode cX12_read 108 = .ok (.aload_n 0, 1) := by decide +kernel
theorem dX12_read_109 : decode cX12_read 109 = .ok (.invokevirtual 255, 3) := by decide +kernel
theorem dX12_read_112 : decode cX12_read 112 = .ok (.bipush 44, 2) := by decide +kernel
theorem dX12_read_114 : decode cX12_read 114 = .ok (.if_icmp .ne 7, 3) := by decide +kernel
theorem dX12_read_117 : decode cX12_read 117 = .ok (.iconst 1, 1) := by decide +kernel
theorem dX12_read_118 : decode cX12_read 118 = .ok (.goto 4, 3) := by decide +kernel
theorem dX12_read_121 : decode cX12_read 121 = .ok (.iconst 0, 1) := by decide +kernel
theorem dX12_read_122 : decode cX12_read 122 = .ok (.istore_n 3, 1) := by decide +kernel
theorem dX12_read_123 : decode cX12_read 123 = .ok (.aload_n 0, 1) := by decide +kernel
theorem dX12_read_124 : decode cX12_read 124 = .ok (.dup, 1) := by decide +kernel
theorem dX12_read_125 : decode cX12_read 125 = .ok (.getfield 252, 3) := by decide +kernel
theorem dX12_read_128 : decode cX12_read 128 = .ok (.iload_n 3, 1) := by decide +kernel
theorem dX12_read_129 : decode cX12_read 129 = .ok (.ifCond .eq 7, 3) := by decide +kernel
theorem dX12_read_132 : decode cX12_read 132 = .ok (.iconst 1, 1) := by decide +kernel
theorem dX12_read_133 : decode cX12_read 133 = .ok (.goto 4, 3) := by decide +kernel
theorem dX12_read_136 : decode cX12_read 136 = .ok (.iconst 0, 1) := by decide +kernel
theorem dX12_read_137 : decode cX12_read 137 = .ok (.iadd, 1) := by decide +kernel
theorem dX12_read_138 : decode cX12_read 138 = .ok (.putfield 252, 3) := by decide +kernel
theorem dX12_read_141 : decode cX12_read 141 = .ok (.goto (-47), 3) := by decide +kernel
theorem dX12_read_144 : decode cX12_read 144 = .ok (.iload_n 2, 1) := by decide +kernel
theorem dX12_read_145 : decode cX12_read 145 = .ok (.aload_n 0, 1) := by decide +kernel
theorem dX12_read_146 : decode cX12_read 146 = .ok (.getfield 252, 3) := by decide +kernel
theorem dX12_read_149 : decode cX12_read 149 = .ok (.aload_n 0, 1) := by decide +kernel
theorem dX12_read_150 : decode cX12_read 150 = .ok (.getfield 249, 3) := by decide +kernel
theorem dX12_read_153 : decode cX12_read 153 = .ok (.if_icmp .ne 7, 3) := by decide +kernel
theorem dX12_read_156 : decode cX12_read 156 = .ok (.iconst 1, 1) := by decide +kernel
theorem dX12_read_157 : decode cX12_read 157 = .ok (.goto 4, 3) := by decide +kernel
theorem dX12_read_160 : decode cX12_read 160 = .ok (.iconst 0, 1) := by decide +kernel
theorem dX12_read_161 : decode cX12_read 161 = .ok (.iand, 1) := by decide +kernel
theorem dX12_read_162 : decode cX12_read 162 = .ok (.istore_n 2, 1) := by decide +kernel
theorem dX12_read_163 : decode cX12_read 163 = .ok (.aload_n 0, 1) := by decide +kernel
theorem dX12_read_164 : decode cX12_read 164 = .ok (.iconst 0, 1) := by decide +kernel
theorem dX12_read_165 : decode cX12_read 165 = .ok (.putfield 249, 3) := by decide +kernel
theorem dX12_read_168 : decode cX12_read 168 = .ok (.iload_n 2, 1) := by decide +kernel
theorem dX12_read_169 : decode cX12_read 169 = .ok (.ifCond .ne 11, 3) := by decide +kernel
theorem dX12_read_172 : decode cX12_read 172 = .ok (.bipush (-100), 2) := by decide +kernel
theorem dX12_read_174 : decode cX12_read 174 = .ok (.aload_n 0, 1) := by decide +kernel
theorem dX12_read_175 : decode cX12_read 175 = .ok (.getfield 252, 3) := by decide +kernel
theorem dX12_read_178 : decode cX12_read 178 = .ok (.isub, 1) := by decide +kernel
theorem dX12_read_179 : decode cX12_read 179 = .ok (.ireturn, 1) := by decide +kernel
theorem dX12_read_180 : decode cX12_read 180 = .ok (.aload_n 0, 1) := by decide +kernel
theorem dX12_read_181 : decode cX12_read 181 = .ok (.getfield 267, 3) := by decide +kernel
theorem dX12_read_184 : decode cX12_read 184 = .ok (.ifCond .ne 17, 3) := by decide +kernel
theorem dX12_read_187 : decode cX12_read 187 = .ok (.iload_n 1, 1) := by decide +kernel
theorem dX12_read_188 : decode cX12_read 188 = .ok (.i2l, 1) := by decide +kernel
theorem dX12_read_189 : decode cX12_read 189 = .ok (.ldc2_w 101, 3) := by decide +kernel
theorem dX12_read_192 : decode cX12_read 192 = .ok (.ldc2_w 103, 3) := by decide +kernel
theorem dX12_read_195 : decode cX12_read 195 = .ok (.invokestatic 97, 3) := by decide +kernel
theorem dX12_read_198 : decode cX12_read 198 = .ok (.ifCond .ne 6, 3) := by decide +kernel
theorem dX12_read_201 : decode cX12_read 201 = .ok (.bipush (-9), 2) := by decide +kernel
theorem dX12_read_203 : decode cX12_read 203 = .ok (.ireturn, 1) := by decide +kernel
theorem dX12_read_204 : decode cX12_read 204 = .ok (.aload_n 0, 1) := by decide +kernel
theorem dX12_read_205 : decode cX12_read 205 = .ok (.iload_n 1, 1) := by decide +kernel
theorem dX12_read_206 : decode cX12_read 206 = .ok (.putfield 9, 3) := by decide +kernel
theorem dX12_read_209 : decode cX12_read 209 = .ok (.iconst 0, 1) := by decide +kernel
theorem dX12_read_210 : decode cX12_read 210 = .ok (.istore 4, 2) := by decide +kernel
theorem dX12_read_212 : decode cX12_read 212 = .ok (.iload 4, 2) := by decide +kernel
theorem dX12_read_214 : decode cX12_read 214 = .ok (.bipush 30, 2) := by decide +kernel
theorem dX12_read_216 : decode cX12_read 216 = .ok (.if_icmp .ge 23, 3) := by decide +kernel
theorem dX12_read_219 : decode cX12_read 219 = .ok (.aload_n 0, 1) := by decide +kernel
theorem dX12_read_220 : decode cX12_read 220 = .ok (.getfield 15, 3) := by decide +kernel
theorem dX12_read_223 : decode cX12_read 223 = .ok (.iload 4, 2) := by decide +kernel
theorem dX12_read_225 : decode cX12_read 225 = .ok (.aload_n 0, 1) := by decide +kernel
theorem dX12_read_226 : decode cX12_read 226 = .ok (.getfield 46, 3) := by decide +kernel
theorem dX12_read_229 : decode cX12_read 229 = .ok (.iload 4, 2) := by decide +kernel
theorem dX12_read_231 : decode cX12_read 231 = .ok (.iaload, 1) := by decide +kernel
theorem dX12_read_232 : decode cX12_read 232 = .ok (.iastore, 1) := by decide +kernel
theorem dX12_read_233 : decode cX12_read 233 = .ok (.iinc 4 1, 3) := by decide +kernel
theorem dX12_read_236 : decode cX12_read 236 = .ok (.goto (-24), 3) := by decide +kernel
theorem dX12_read_239 : decode cX12_read 239 = .ok (.aload_n 0, 1) := by decide +kernel
theorem dX12_read_240 : decode cX12_read 240 = .ok (.invokevirtual 115, 3) := by decide +kernel
theorem dX12_read_243 : decode cX12_read 243 = .ok (.ireturn, 1) := by decide +kernel
theorem dX12_spells_0 : decode cX12_spells 0 = .ok (.aload_n 0, 1) := by decide +kernel
theorem dX12_spells_1 : decode cX12_spells 1 = .ok (.getfield 78, 3) := by decide +kernel
theorem dX12_spells_4 : decode cX12_spells 4 = .ok (.aload_n 0, 1) := by decide +kernel
theorem dX12_spells_5 : decode cX12_spells 5 = .ok (.getfield 274, 3) := by decide +kernel
theorem dX12_spells_8 : decode cX12_spells 8 = .ok (.iload_n 1, 1) := by decide +kernel
theorem dX12_spells_9 : decode cX12_spells 9 = .ok (.iastore, 1) := by decide +kernel
theorem dX12_spells_10 : decode cX12_spells 10 = .ok (.aload_n 0, 1) := by decide +kernel
theorem dX12_spells_11 : decode cX12_spells 11 = .ok (.dup, 1) := by decide +kernel
theorem dX12_spells_12 : decode cX12_spells 12 = .ok (.getfield 274, 3) := by decide +kernel
theorem dX12_spells_15 : decode cX12_spells 15 = .ok (.iconst 1, 1) := by decide +kernel
theorem dX12_spells_16 : decode cX12_spells 16 = .ok (.iadd, 1) := by decide +kernel
theorem dX12_spells_17 : decode cX12_spells 17 = .ok (.putfield 274, 3) := by decide +kernel
theorem dX12_spells_20 : decode cX12_spells 20 = .ok (.return_, 1) := by decide +kernel
theorem dX12_spellsNumber_0 : decode cX12_spellsNumber 0 = .ok (.iload_n 1, 1) := by decide +kernel
theorem dX12_spellsNumber_1 : decode cX12_spellsNumber 1 = .ok (.bipush 9, 2) := by decide +kernel
theorem dX12_spellsNumber_3 : decode cX12_spellsNumber 3 = .ok (.if_icmp .le 14, 3) := by decide +kernel
theorem dX12_spellsNumber_6 : decode cX12_spellsNumber 6 = .ok (.aload_n 0, 1) := by decide +kernel
theorem dX12_spellsNumber_7 : decode cX12_spellsNumber 7 = .ok (.bipush 48, 2) := by decide +kernel
theorem dX12_spellsNumber_9 : decode cX12_spellsNumber 9 = .ok (.iload_n 1, 1) := by decide +kernel
theorem dX12_spellsNumber_10 : decode cX12_spellsNumber 10 = .ok (.bipush 10, 2) := by decide +kernel
theorem dX12_spellsNumber_12 : decode cX12_spellsNumber 12 = .ok (.idiv, 1) := by decide +kernel
theorem dX12_spellsNumber_13 : decode cX12_spellsNumber 13 = .ok (.iadd, 1) := by decide +kernel
theorem dX12_spellsNumber_14 : decode cX12_spellsNumber 14 = .ok (.invokevirtual 277, 3) := by decide +kernel
theorem dX12_spellsNumber_17 : decode cX12_spellsNumber 17 = .ok (.aload_n 0, 1) := by decide +kernel
theorem dX12_spellsNumber_18 : decode cX12_spellsNumber 18 = .ok (.bipush 48, 2) := by decide +kernel
theorem dX12_spellsNumber_20 : decode cX12_spellsNumber 20 = .ok (.iload_n 1, 1) := by decide +kernel
theorem dX12_spellsNumber_21 : decode cX12_spellsNumber 21 = .ok (.bipush 10, 2) := by decide +kernel
theorem dX12_spellsNumber_23 : decode cX12_spellsNumber 23 = .ok (.irem, 1) := by decide +kernel
theorem dX12_spellsNumber_24 : decode cX12_spellsNumber 24 = .ok (.iadd, 1) := by decide +kernel
theorem dX12_spellsNumber_25 : decode cX12_spellsNumber 25 = .ok (.invokevirtual 277, 3) := by decide +kernel
theorem dX12_spellsNumber_28 : decode cX12_spellsNumber 28 = .ok (.return_, 1) := by decide +kernel
theorem dX12_spelled_0 : decode cX12_spelled 0 = .ok (.aload_n 0, 1) := by decide +kernel
theorem dX12_spelled_1 : decode cX12_spelled 1 = .ok (.iconst 0, 1) := by decide +kernel
theorem dX12_spelled_2 : decode cX12_spelled 2 = .ok (.putfield 274, 3) := by decide +kernel
theorem dX12_spelled_5 : decode cX12_spelled 5 = .ok (.aload_n 0, 1) := by decide +kernel
theorem dX12_spelled_6 : decode cX12_spelled 6 = .ok (.aload_n 0, 1) := by decide +kernel
theorem dX12_spelled_7 : decode cX12_spelled 7 = .ok (.getfield 9, 3) := by decide +kernel
theorem dX12_spelled_10 : decode cX12_spelled 10 = .ok (.invokevirtual 281, 3) := by decide +kernel
theorem dX12_spelled_13 : decode cX12_spelled 13 = .ok (.aload_n 0, 1) := by decide +kernel
theorem dX12_spelled_14 : decode cX12_spelled 14 = .ok (.bipush 58, 2) := by decide +kernel
theorem dX12_spelled_16 : decode cX12_spelled 16 = .ok (.invokevirtual 277, 3) := by decide +kernel
theorem dX12_spelled_19 : decode cX12_spelled 19 = .ok (.iconst 0, 1) := by decide +kernel
theorem dX12_spelled_20 : decode cX12_spelled 20 = .ok (.istore_n 2, 1) := by decide +kernel
theorem dX12_spelled_21 : decode cX12_spelled 21 = .ok (.iconst 0, 1) := by decide +kernel
theorem dX12_spelled_22 : decode cX12_spelled 22 = .ok (.istore_n 3, 1) := by decide +kernel
theorem dX12_spelled_23 : decode cX12_spelled 23 = .ok (.iload_n 3, 1) := by decide +kernel
theorem dX12_spelled_24 : decode cX12_spelled 24 = .ok (.aload_n 0, 1) := by decide +kernel
theorem dX12_spelled_25 : decode cX12_spelled 25 = .ok (.getfield 9, 3) := by decide +kernel
theorem dX12_spelled_28 : decode cX12_spelled 28 = .ok (.if_icmp .ge 64, 3) := by decide +kernel
theorem dX12_spelled_31 : decode cX12_spelled 31 = .ok (.aload_n 0, 1) := by decide +kernel
theorem dX12_spelled_32 : decode cX12_spelled 32 = .ok (.getfield 15, 3) := by decide +kernel
theorem dX12_spelled_35 : decode cX12_spelled 35 = .ok (.iload_n 3, 1) := by decide +kernel
theorem dX12_spelled_36 : decode cX12_spelled 36 = .ok (.iaload, 1) := by decide +kernel
theorem dX12_spelled_37 : decode cX12_spelled 37 = .ok (.ifCond .le 49, 3) := by decide +kernel
theorem dX12_spelled_40 : decode cX12_spelled 40 = .ok (.iload_n 2, 1) := by decide +kernel
theorem dX12_spelled_41 : decode cX12_spelled 41 = .ok (.ifCond .eq 9, 3) := by decide +kernel
theorem dX12_spelled_44 : decode cX12_spelled 44 = .ok (.aload_n 0, 1) := by decide +kernel
theorem dX12_spelled_45 : decode cX12_spelled 45 = .ok (.bipush 44, 2) := by decide +kernel
theorem dX12_spelled_47 : decode cX12_spelled 47 = .ok (.invokevirtual 277, 3) := by decide +kernel
theorem dX12_spelled_50 : decode cX12_spelled 50 = .ok (.iconst 1, 1) := by decide +kernel
theorem dX12_spelled_51 : decode cX12_spelled 51 = .ok (.istore_n 2, 1) := by decide +kernel
theorem dX12_spelled_52 : decode cX12_spelled 52 = .ok (.aload_n 0, 1) := by decide +kernel
theorem dX12_spelled_53 : decode cX12_spelled 53 = .ok (.iload_n 3, 1) := by decide +kernel
theorem dX12_spelled_54 : decode cX12_spelled 54 = .ok (.invokevirtual 281, 3) := by decide +kernel
theorem dX12_spelled_57 : decode cX12_spelled 57 = .ok (.aload_n 0, 1) := by decide +kernel
theorem dX12_spelled_58 : decode cX12_spelled 58 = .ok (.getfield 15, 3) := by decide +kernel
theorem dX12_spelled_61 : decode cX12_spelled 61 = .ok (.iload_n 3, 1) := by decide +kernel
theorem dX12_spelled_62 : decode cX12_spelled 62 = .ok (.iaload, 1) := by decide +kernel
theorem dX12_spelled_63 : decode cX12_spelled 63 = .ok (.iconst 1, 1) := by decide +kernel
theorem dX12_spelled_64 : decode cX12_spelled 64 = .ok (.if_icmp .le 22, 3) := by decide +kernel
theorem dX12_spelled_67 : decode cX12_spelled 67 = .ok (.aload_n 0, 1) := by decide +kernel
theorem dX12_spelled_68 : decode cX12_spelled 68 = .ok (.bipush 120, 2) := by decide +kernel
theorem dX12_spelled_70 : decode cX12_spelled 70 = .ok (.invokevirtual 277, 3) := by decide +kernel
theorem dX12_spelled_73 : decode cX12_spelled 73 = .ok (.aload_n 0, 1) := by decide +kernel
theorem dX12_spelled_74 : decode cX12_spelled 74 = .ok (.bipush 48, 2) := by decide +kernel
theorem dX12_spelled_76 : decode cX12_spelled 76 = .ok (.aload_n 0, 1) := by decide +kernel
theorem dX12_spelled_77 : decode cX12_spelled 77 = .ok (.getfield 15, 3) := by decide +kernel
theorem dX12_spelled_80 : decode cX12_spelled 80 = .ok (.iload_n 3, 1) := by decide +kernel
theorem dX12_spelled_81 : decode cX12_spelled 81 = .ok (.iaload, 1) := by decide +kernel
theorem dX12_spelled_82 : decode cX12_spelled 82 = .ok (.iadd, 1) := by decide +kernel
theorem dX12_spelled_83 : decode cX12_spelled 83 = .ok (.invokevirtual 277, 3) := by decide +kernel
theorem dX12_spelled_86 : decode cX12_spelled 86 = .ok (.iinc 3 1, 3) := by decide +kernel
theorem dX12_spelled_89 : decode cX12_spelled 89 = .ok (.goto (-66), 3) := by decide +kernel
theorem dX12_spelled_92 : decode cX12_spelled 92 = .ok (.iload_n 1, 1) := by decide +kernel
theorem dX12_spelled_93 : decode cX12_spelled 93 = .ok (.iconst (-1), 1) := by decide +kernel
theorem dX12_spelled_94 : decode cX12_spelled 94 = .ok (.if_icmp .ne 10, 3) := by decide +kernel
theorem dX12_spelled_97 : decode cX12_spelled 97 = .ok (.aload_n 0, 1) := by decide +kernel
theorem dX12_spelled_98 : decode cX12_spelled 98 = .ok (.getfield 274, 3) := by decide +kernel
theorem dX12_spelled_101 : decode cX12_spelled 101 = .ok (.goto 29, 3) := by decide +kernel
theorem dX12_spelled_104 : decode cX12_spelled 104 = .ok (.iload_n 1, 1) := by decide +kernel
theorem dX12_spelled_105 : decode cX12_spelled 105 = .ok (.i2l, 1) := by decide +kernel
theorem dX12_spelled_106 : decode cX12_spelled 106 = .ok (.lconst 0, 1) := by decide +kernel
theorem dX12_spelled_107 : decode cX12_spelled 107 = .ok (.aload_n 0, 1) := by decide +kernel
theorem dX12_spelled_108 : decode cX12_spelled 108 = .ok (.getfield 274, 3) := by decide +kernel
theorem dX12_spelled_111 : decode cX12_spelled 111 = .ok (.iconst 1, 1) := by decide +kernel
theorem dX12_spelled_112 : decode cX12_spelled 112 = .ok (.isub, 1) := by decide +kernel
theorem dX12_spelled_113 : decode cX12_spelled 113 = .ok (.i2l, 1) := by decide +kernel
theorem dX12_spelled_114 : decode cX12_spelled 114 = .ok (.invokestatic 97, 3) := by decide +kernel
theorem dX12_spelled_117 : decode cX12_spelled 117 = .ok (.ifCond .eq 12, 3) := by decide +kernel
theorem dX12_spelled_120 : decode cX12_spelled 120 = .ok (.aload_n 0, 1) := by decide +kernel
theorem dX12_spelled_121 : decode cX12_spelled 121 = .ok (.getfield 78, 3) := by decide +kernel
theorem dX12_spelled_124 : decode cX12_spelled 124 = .ok (.iload_n 1, 1) := by decide +kernel
theorem dX12_spelled_125 : decode cX12_spelled 125 = .ok (.iaload, 1) := by decide +kernel
theorem dX12_spelled_126 : decode cX12_spelled 126 = .ok (.goto 4, 3) := by decide +kernel
theorem dX12_spelled_129 : decode cX12_spelled 129 = .ok (.iconst (-1), 1) := by decide +kernel
theorem dX12_spelled_130 : decode cX12_spelled 130 = .ok (.ireturn, 1) := by decide +kernel
theorem dX12_lays_0 : decode cX12_lays 0 = .ok (.iconst 0, 1) := by decide +kernel
theorem dX12_lays_1 : decode cX12_lays 1 = .ok (.istore_n 2, 1) := by decide +kernel
theorem dX12_lays_2 : decode cX12_lays 2 = .ok (.iload_n 2, 1) := by decide +kernel
theorem dX12_lays_3 : decode cX12_lays 3 = .ok (.aload_n 0, 1) := by decide +kernel
theorem dX12_lays_4 : decode cX12_lays 4 = .ok (.arraylength, 1) := by decide +kernel
theorem dX12_lays_5 : decode cX12_lays 5 = .ok (.if_icmp .ge 15, 3) := by decide +kernel
theorem dX12_lays_8 : decode cX12_lays 8 = .ok (.aload_n 1, 1) := by decide +kernel
theorem dX12_lays_9 : decode cX12_lays 9 = .ok (.iload_n 2, 1) := by decide +kernel
theorem dX12_lays_10 : decode cX12_lays 10 = .ok (.aload_n 0, 1) := by decide +kernel
theorem dX12_lays_11 : decode cX12_lays 11 = .ok (.iload_n 2, 1) := by decide +kernel
theorem dX12_lays_12 : decode cX12_lays 12 = .ok (.iaload, 1) := by decide +kernel
theorem dX12_lays_13 : decode cX12_lays 13 = .ok (.iastore, 1) := by decide +kernel
theorem dX12_lays_14 : decode cX12_lays 14 = .ok (.iinc 2 1, 3) := by decide +kernel
theorem dX12_lays_17 : decode cX12_lays 17 = .ok (.goto (-15), 3) := by decide +kernel
theorem dX12_lays_20 : decode cX12_lays 20 = .ok (.return_, 1) := by decide +kernel
theorem dX12_image_0 : decode cX12_image 0 = .ok (.aload_n 0, 1) := by decide +kernel
theorem dX12_image_1 : decode cX12_image 1 = .ok (.iconst 1, 1) := by decide +kernel
theorem dX12_image_2 : decode cX12_image 2 = .ok (.putfield 284, 3) := by decide +kernel
theorem dX12_image_5 : decode cX12_image 5 = .ok (.aload_n 0, 1) := by decide +kernel
theorem dX12_image_6 : decode cX12_image 6 = .ok (.aload_n 0, 1) := by decide +kernel
theorem dX12_image_7 : decode cX12_image 7 = .ok (.getfield 9, 3) := by decide +kernel
theorem dX12_image_10 : decode cX12_image 10 = .ok (.putfield 287, 3) := by decide +kernel
theorem dX12_image_13 : decode cX12_image 13 = .ok (.aload_n 0, 1) := by decide +kernel
theorem dX12_image_14 : decode cX12_image 14 = .ok (.aload_n 0, 1) := by decide +kernel
theorem dX12_image_15 : decode cX12_image 15 = .ok (.getfield 227, 3) := by decide +kernel
theorem dX12_image_18 : decode cX12_image 18 = .ok (.putfield 290, 3) := by decide +kernel
theorem dX12_image_21 : decode cX12_image 21 = .ok (.aload_n 0, 1) := by decide +kernel
theorem dX12_image_22 : decode cX12_image 22 = .ok (.getfield 15, 3) := by decide +kernel
theorem dX12_image_25 : decode cX12_image 25 = .ok (.aload_n 0, 1) := by decide +kernel
theorem dX12_image_26 : decode cX12_image 26 = .ok (.getfield 81, 3) := by decide +kernel
theorem dX12_image_29 : decode cX12_image 29 = .ok (.invokestatic 293, 3) := by decide +kernel
theorem dX12_image_32 : decode cX12_image 32 = .ok (.aload_n 0, 1) := by decide +kernel
theorem dX12_image_33 : decode cX12_image 33 = .ok (.getfield 19, 3) := by decide +kernel
theorem dX12_image_36 : decode cX12_image 36 = .ok (.aload_n 0, 1) := by decide +kernel
theorem dX12_image_37 : decode cX12_image 37 = .ok (.getfield 84, 3) := by decide +kernel
theorem dX12_image_40 : decode cX12_image 40 = .ok (.invokestatic 293, 3) := by decide +kernel
theorem dX12_image_43 : decode cX12_image 43 = .ok (.aload_n 0, 1) := by decide +kernel
theorem dX12_image_44 : decode cX12_image 44 = .ok (.getfield 22, 3) := by decide +kernel
theorem dX12_image_47 : decode cX12_image 47 = .ok (.aload_n 0, 1) := by decide +kernel
theorem dX12_image_48 : decode cX12_image 48 = .ok (.getfield 87, 3) := by decide +kernel
theorem dX12_image_51 : decode cX12_image 51 = .ok (.invokestatic 293, 3) := by decide +kernel
theorem dX12_image_54 : decode cX12_image 54 = .ok (.aload_n 0, 1) := by decide +kernel
theorem dX12_image_55 : decode cX12_image 55 = .ok (.getfield 25, 3) := by decide +kernel
theorem dX12_image_58 : decode cX12_image 58 = .ok (.aload_n 0, 1) := by decide +kernel
theorem dX12_image_59 : decode cX12_image 59 = .ok (.getfield 90, 3) := by decide +kernel
theorem dX12_image_62 : decode cX12_image 62 = .ok (.invokestatic 293, 3) := by decide +kernel
theorem dX12_image_65 : decode cX12_image 65 = .ok (.aload_n 0, 1) := by decide +kernel
theorem dX12_image_66 : decode cX12_image 66 = .ok (.invokevirtual 115, 3) := by decide +kernel
theorem dX12_image_69 : decode cX12_image 69 = .ok (.ireturn, 1) := by decide +kernel
theorem dX12_undo_0 : decode cX12_undo 0 = .ok (.aload_n 0, 1) := by decide +kernel
theorem dX12_undo_1 : decode cX12_undo 1 = .ok (.getfield 284, 3) := by decide +kernel
theorem dX12_undo_4 : decode cX12_undo 4 = .ok (.ifCond .ne 6, 3) := by decide +kernel
theorem dX12_undo_7 : decode cX12_undo 7 = .ok (.bipush (-3), 2) := by decide +kernel
theorem dX12_undo_9 : decode cX12_undo 9 = .ok (.ireturn, 1) := by decide +kernel
theorem dX12_undo_10 : decode cX12_undo 10 = .ok (.aload_n 0, 1) := by decide +kernel
theorem dX12_undo_11 : decode cX12_undo 11 = .ok (.aload_n 0, 1) := by decide +kernel
theorem dX12_undo_12 : decode cX12_undo 12 = .ok (.getfield 287, 3) := by decide +kernel
theorem dX12_undo_15 : decode cX12_undo 15 = .ok (.putfield 9, 3) := by decide +kernel
theorem dX12_undo_18 : decode cX12_undo 18 = .ok (.aload_n 0, 1) := by decide +kernel
theorem dX12_undo_19 : decode cX12_undo 19 = .ok (.aload_n 0, 1) := by decide +kernel
theorem dX12_undo_20 : decode cX12_undo 20 = .ok (.getfield 290, 3) := by decide +kernel
theorem dX12_undo_23 : decode cX12_undo 23 = .ok (.putfield 227, 3) := by decide +kernel
theorem dX12_undo_26 : decode cX12_undo 26 = .ok (.aload_n 0, 1) := by decide +kernel
theorem dX12_undo_27 : decode cX12_undo 27 = .ok (.getfield 81, 3) := by decide +kernel
theorem dX12_undo_30 : decode cX12_undo 30 = .ok (.aload_n 0, 1) := by decide +kernel
theorem dX12_undo_31 : decode cX12_undo 31 = .ok (.getfield 15, 3) := by decide +kernel
theorem dX12_undo_34 : decode cX12_undo 34 = .ok (.invokestatic 293, 3) := by decide +kernel
theorem dX12_undo_37 : decode cX12_undo 37 = .ok (.aload_n 0, 1) := by decide +kernel
theorem dX12_undo_38 : decode cX12_undo 38 = .ok (.getfield 84, 3) := by decide +kernel
theorem dX12_undo_41 : decode cX12_undo 41 = .ok (.aload_n 0, 1) := by decide +kernel
theorem dX12_undo_42 : decode cX12_undo 42 = .ok (.getfield 19, 3) := by decide +kernel
theorem dX12_undo_45 : decode cX12_undo 45 = .ok (.invokestatic 293, 3) := by decide +kernel
theorem dX12_undo_48 : decode cX12_undo 48 = .ok (.aload_n 0, 1) := by decide +kernel
theorem dX12_undo_49 : decode cX12_undo 49 = .ok (.getfield 87, 3) := by decide +kernel
theorem dX12_undo_52 : decode cX12_undo 52 = .ok (.aload_n 0, 1) := by decide +kernel
theorem dX12_undo_53 : decode cX12_undo 53 = .ok (.getfield 22, 3) := by decide +kernel
theorem dX12_undo_56 : decode cX12_undo 56 = .ok (.invokestatic 293, 3) := by decide +kernel
theorem dX12_undo_59 : decode cX12_undo 59 = .ok (.aload_n 0, 1) := by decide +kernel
theorem dX12_undo_60 : decode cX12_undo 60 = .ok (.getfield 90, 3) := by decide +kernel
theorem dX12_undo_63 : decode cX12_undo 63 = .ok (.aload_n 0, 1) := by decide +kernel
theorem dX12_undo_64 : decode cX12_undo 64 = .ok (.getfield 25, 3) := by decide +kernel
theorem dX12_undo_67 : decode cX12_undo 67 = .ok (.invokestatic 293, 3) := by decide +kernel
theorem dX12_undo_70 : decode cX12_undo 70 = .ok (.aload_n 0, 1) := by decide +kernel
theorem dX12_undo_71 : decode cX12_undo 71 = .ok (.invokevirtual 115, 3) := by decide +kernel
theorem dX12_undo_74 : decode cX12_undo 74 = .ok (.ireturn, 1) := by decide +kernel
theorem dX12_taken_0 : decode cX12_taken 0 = .ok (.iconst 0, 1) := by decide +kernel
theorem dX12_taken_1 : decode cX12_taken 1 = .ok (.istore_n 1, 1) := by decide +kernel
theorem dX12_taken_2 : decode cX12_taken 2 = .ok (.iconst 0, 1) := by decide +kernel
theorem dX12_taken_3 : decode cX12_taken 3 = .ok (.istore_n 2, 1) := by decide +kernel
theorem dX12_taken_4 : decode cX12_taken 4 = .ok (.iload_n 2, 1) := by decide +kernel
theorem dX12_taken_5 : decode cX12_taken 5 = .ok (.aload_n 0, 1) := by decide +kernel
theorem dX12_taken_6 : decode cX12_taken 6 = .ok (.getfield 9, 3) := by decide +kernel
theorem dX12_taken_9 : decode cX12_taken 9 = .ok (.if_icmp .ge 26, 3) := by decide +kernel
theorem dX12_taken_12 : decode cX12_taken 12 = .ok (.iload_n 1, 1) := by decide +kernel
theorem dX12_taken_13 : decode cX12_taken 13 = .ok (.aload_n 0, 1) := by decide +kernel
theorem dX12_taken_14 : decode cX12_taken 14 = .ok (.getfield 15, 3) := by decide +kernel
theorem dX12_taken_17 : decode cX12_taken 17 = .ok (.iload_n 2, 1) := by decide +kernel
theorem dX12_taken_18 : decode cX12_taken 18 = .ok (.iaload, 1) := by decide +kernel
theorem dX12_taken_19 : decode cX12_taken 19 = .ok (.ifCond .le 7, 3) := by decide +kernel
theorem dX12_taken_22 : decode cX12_taken 22 = .ok (.iconst 1, 1) := by decide +kernel
theorem dX12_taken_23 : decode cX12_taken 23 = .ok (.goto 4, 3) := by decide +kernel
theorem dX12_taken_26 : decode cX12_taken 26 = .ok (.iconst 0, 1) := by decide +kernel
theorem dX12_taken_27 : decode cX12_taken 27 = .ok (.iadd, 1) := by decide +kernel
theorem dX12_taken_28 : decode cX12_taken 28 = .ok (.istore_n 1, 1) := by decide +kernel
theorem dX12_taken_29 : decode cX12_taken 29 = .ok (.iinc 2 1, 3) := by decide +kernel
theorem dX12_taken_32 : decode cX12_taken 32 = .ok (.goto (-28), 3) := by decide +kernel
theorem dX12_taken_35 : decode cX12_taken 35 = .ok (.iload_n 1, 1) := by decide +kernel
theorem dX12_taken_36 : decode cX12_taken 36 = .ok (.ireturn, 1) := by decide +kernel
theorem dX12_count_0 : decode cX12_count 0 = .ok (.iload_n 1, 1) := by decide +kernel
theorem dX12_count_1 : decode cX12_count 1 = .ok (.tableswitch 118 0 5 #[39, 44, 49, 54, 59, 73], 39) := by decide +kernel
theorem dX12_count_40 : decode cX12_count 40 = .ok (.aload_n 0, 1) := by decide +kernel
theorem dX12_count_41 : decode cX12_count 41 = .ok (.getfield 9, 3) := by decide +kernel
theorem dX12_count_44 : decode cX12_count 44 = .ok (.ireturn, 1) := by decide +kernel
theorem dX12_count_45 : decode cX12_count 45 = .ok (.aload_n 0, 1) := by decide +kernel
theorem dX12_count_46 : decode cX12_count 46 = .ok (.invokevirtual 297, 3) := by decide +kernel
theorem dX12_count_49 : decode cX12_count 49 = .ok (.ireturn, 1) := by decide +kernel
theorem dX12_count_50 : decode cX12_count 50 = .ok (.aload_n 0, 1) := by decide +kernel
theorem dX12_count_51 : decode cX12_count 51 = .ok (.getfield 227, 3) := by decide +kernel
theorem dX12_count_54 : decode cX12_count 54 = .ok (.ireturn, 1) := by decide +kernel
theorem dX12_count_55 : decode cX12_count 55 = .ok (.aload_n 0, 1) := by decide +kernel
theorem dX12_count_56 : decode cX12_count 56 = .ok (.getfield 249, 3) := by decide +kernel
theorem dX12_count_59 : decode cX12_count 59 = .ok (.ireturn, 1) := by decide +kernel
theorem dX12_count_60 : decode cX12_count 60 = .ok (.aload_n 0, 1) := by decide +kernel
theorem dX12_count_61 : decode cX12_count 61 = .ok (.getfield 22, 3) := by decide +kernel
theorem dX12_count_64 : decode cX12_count 64 = .ok (.iconst 0, 1) := by decide +kernel
theorem dX12_count_65 : decode cX12_count 65 = .ok (.iaload, 1) := by decide +kernel
theorem dX12_count_66 : decode cX12_count 66 = .ok (.aload_n 0, 1) := by decide +kernel
theorem dX12_count_67 : decode cX12_count 67 = .ok (.getfield 22, 3) := by decide +kernel
theorem dX12_count_70 : decode cX12_count 70 = .ok (.iconst 1, 1) := by decide +kernel
theorem dX12_count_71 : decode cX12_count 71 = .ok (.iaload, 1) := by decide +kernel
theorem dX12_count_72 : decode cX12_count 72 = .ok (.iadd, 1) := by decide +kernel
theorem dX12_count_73 : decode cX12_count 73 = .ok (.ireturn, 1) := by decide +kernel
theorem dX12_count_74 : decode cX12_count 74 = .ok (.aload_n 0, 1) := by decide +kernel
theorem dX12_count_75 : decode cX12_count 75 = .ok (.getfield 58, 3) := by decide +kernel
theorem dX12_count_78 : decode cX12_count 78 = .ok (.iconst 0, 1) := by decide +kernel
theorem dX12_count_79 : decode cX12_count 79 = .ok (.iaload, 1) := by decide +kernel
theorem dX12_count_80 : decode cX12_count 80 = .ok (.ifCond .ge 7, 3) := by decide +kernel
theorem dX12_count_83 : decode cX12_count 83 = .ok (.iconst 0, 1) := by decide +kernel
theorem dX12_count_84 : decode cX12_count 84 = .ok (.goto 4, 3) := by decide +kernel
theorem dX12_count_87 : decode cX12_count 87 = .ok (.iconst 1, 1) := by decide +kernel
theorem dX12_count_88 : decode cX12_count 88 = .ok (.aload_n 0, 1) := by decide +kernel
theorem dX12_count_89 : decode cX12_count 89 = .ok (.getfield 58, 3) := by decide +kernel
theorem dX12_count_92 : decode cX12_count 92 = .ok (.iconst 1, 1) := by decide +kernel
theorem dX12_count_93 : decode cX12_count 93 = .ok (.iaload, 1) := by decide +kernel
theorem dX12_count_94 : decode cX12_count 94 = .ok (.ifCond .ge 7, 3) := by decide +kernel
theorem dX12_count_97 : decode cX12_count 97 = .ok (.iconst 0, 1) := by decide +kernel
theorem dX12_count_98 : decode cX12_count 98 = .ok (.goto 4, 3) := by decide +kernel
theorem dX12_count_101 : decode cX12_count 101 = .ok (.iconst 1, 1) := by decide +kernel
theorem dX12_count_102 : decode cX12_count 102 = .ok (.iadd, 1) := by decide +kernel
theorem dX12_count_103 : decode cX12_count 103 = .ok (.aload_n 0, 1) := by decide +kernel
theorem dX12_count_104 : decode cX12_count 104 = .ok (.getfield 58, 3) := by decide +kernel
theorem dX12_count_107 : decode cX12_count 107 = .ok (.iconst 2, 1) := by decide +kernel
theorem dX12_count_108 : decode cX12_count 108 = .ok (.iaload, 1) := by decide +kernel
theorem dX12_count_109 : decode cX12_count 109 = .ok (.ifCond .ge 7, 3) := by decide +kernel
theorem dX12_count_112 : decode cX12_count 112 = .ok (.iconst 0, 1) := by decide +kernel
theorem dX12_count_113 : decode cX12_count 113 = .ok (.goto 4, 3) := by decide +kernel
theorem dX12_count_116 : decode cX12_count 116 = .ok (.iconst 1, 1) := by decide +kernel
theorem dX12_count_117 : decode cX12_count 117 = .ok (.iadd, 1) := by decide +kernel
theorem dX12_count_118 : decode cX12_count 118 = .ok (.ireturn, 1) := by decide +kernel
theorem dX12_count_119 : decode cX12_count 119 = .ok (.iconst (-1), 1) := by decide +kernel
theorem dX12_count_120 : decode cX12_count 120 = .ok (.ireturn, 1) := by decide +kernel
theorem dJ6_bitCount_0f7a4_0 : decode cJ6_bitCount_0f7a4 0 = .ok (.iload_n 0, 1) := by decide +kernel
theorem dJ6_bitCount_0f7a4_1 : decode cJ6_bitCount_0f7a4 1 = .ok (.iload_n 0, 1) := by decide +kernel
theorem dJ6_bitCount_0f7a4_2 : decode cJ6_bitCount_0f7a4 2 = .ok (.iconst 1, 1) := by decide +kernel
theorem dJ6_bitCount_0f7a4_3 : decode cJ6_bitCount_0f7a4 3 = .ok (.iushr, 1) := by decide +kernel
theorem dJ6_bitCount_0f7a4_4 : decode cJ6_bitCount_0f7a4 4 = .ok (.ldc_w 265, 3) := by decide +kernel
theorem dJ6_bitCount_0f7a4_7 : decode cJ6_bitCount_0f7a4 7 = .ok (.iand, 1) := by decide +kernel
theorem dJ6_bitCount_0f7a4_8 : decode cJ6_bitCount_0f7a4 8 = .ok (.isub, 1) := by decide +kernel
theorem dJ6_bitCount_0f7a4_9 : decode cJ6_bitCount_0f7a4 9 = .ok (.istore_n 0, 1) := by decide +kernel
theorem dJ6_bitCount_0f7a4_10 : decode cJ6_bitCount_0f7a4 10 = .ok (.iload_n 0, 1) := by decide +kernel
theorem dJ6_bitCount_0f7a4_11 : decode cJ6_bitCount_0f7a4 11 = .ok (.ldc_w 266, 3) := by decide +kernel
theorem dJ6_bitCount_0f7a4_14 : decode cJ6_bitCount_0f7a4 14 = .ok (.iand, 1) := by decide +kernel
theorem dJ6_bitCount_0f7a4_15 : decode cJ6_bitCount_0f7a4 15 = .ok (.iload_n 0, 1) := by decide +kernel
theorem dJ6_bitCount_0f7a4_16 : decode cJ6_bitCount_0f7a4 16 = .ok (.iconst 2, 1) := by decide +kernel
theorem dJ6_bitCount_0f7a4_17 : decode cJ6_bitCount_0f7a4 17 = .ok (.iushr, 1) := by decide +kernel
theorem dJ6_bitCount_0f7a4_18 : decode cJ6_bitCount_0f7a4 18 = .ok (.ldc_w 266, 3) := by decide +kernel
theorem dJ6_bitCount_0f7a4_21 : decode cJ6_bitCount_0f7a4 21 = .ok (.iand, 1) := by decide +kernel
theorem dJ6_bitCount_0f7a4_22 : decode cJ6_bitCount_0f7a4 22 = .ok (.iadd, 1) := by decide +kernel
theorem dJ6_bitCount_0f7a4_23 : decode cJ6_bitCount_0f7a4 23 = .ok (.istore_n 0, 1) := by decide +kernel
theorem dJ6_bitCount_0f7a4_24 : decode cJ6_bitCount_0f7a4 24 = .ok (.iload_n 0, 1) := by decide +kernel
theorem dJ6_bitCount_0f7a4_25 : decode cJ6_bitCount_0f7a4 25 = .ok (.iload_n 0, 1) := by decide +kernel
theorem dJ6_bitCount_0f7a4_26 : decode cJ6_bitCount_0f7a4 26 = .ok (.iconst 4, 1) := by decide +kernel
theorem dJ6_bitCount_0f7a4_27 : decode cJ6_bitCount_0f7a4 27 = .ok (.iushr, 1) := by decide +kernel
theorem dJ6_bitCount_0f7a4_28 : decode cJ6_bitCount_0f7a4 28 = .ok (.iadd, 1) := by decide +kernel
theorem dJ6_bitCount_0f7a4_29 : decode cJ6_bitCount_0f7a4 29 = .ok (.ldc_w 267, 3) := by decide +kernel
theorem dJ6_bitCount_0f7a4_32 : decode cJ6_bitCount_0f7a4 32 = .ok (.iand, 1) := by decide +kernel
theorem dJ6_bitCount_0f7a4_33 : decode cJ6_bitCount_0f7a4 33 = .ok (.istore_n 0, 1) := by decide +kernel
theorem dJ6_bitCount_0f7a4_34 : decode cJ6_bitCount_0f7a4 34 = .ok (.iload_n 0, 1) := by decide +kernel
theorem dJ6_bitCount_0f7a4_35 : decode cJ6_bitCount_0f7a4 35 = .ok (.iload_n 0, 1) := by decide +kernel
theorem dJ6_bitCount_0f7a4_36 : decode cJ6_bitCount_0f7a4 36 = .ok (.bipush 8, 2) := by decide +kernel
theorem dJ6_bitCount_0f7a4_38 : decode cJ6_bitCount_0f7a4 38 = .ok (.iushr, 1) := by decide +kernel
theorem dJ6_bitCount_0f7a4_39 : decode cJ6_bitCount_0f7a4 39 = .ok (.iadd, 1) := by decide +kernel
theorem dJ6_bitCount_0f7a4_40 : decode cJ6_bitCount_0f7a4 40 = .ok (.istore_n 0, 1) := by decide +kernel
theorem dJ6_bitCount_0f7a4_41 : decode cJ6_bitCount_0f7a4 41 = .ok (.iload_n 0, 1) := by decide +kernel
theorem dJ6_bitCount_0f7a4_42 : decode cJ6_bitCount_0f7a4 42 = .ok (.iload_n 0, 1) := by decide +kernel
theorem dJ6_bitCount_0f7a4_43 : decode cJ6_bitCount_0f7a4 43 = .ok (.bipush 16, 2) := by decide +kernel
theorem dJ6_bitCount_0f7a4_45 : decode cJ6_bitCount_0f7a4 45 = .ok (.iushr, 1) := by decide +kernel
theorem dJ6_bitCount_0f7a4_46 : decode cJ6_bitCount_0f7a4 46 = .ok (.iadd, 1) := by decide +kernel
theorem dJ6_bitCount_0f7a4_47 : decode cJ6_bitCount_0f7a4 47 = .ok (.istore_n 0, 1) := by decide +kernel
theorem dJ6_bitCount_0f7a4_48 : decode cJ6_bitCount_0f7a4 48 = .ok (.iload_n 0, 1) := by decide +kernel
theorem dJ6_bitCount_0f7a4_49 : decode cJ6_bitCount_0f7a4 49 = .ok (.bipush 63, 2) := by decide +kernel
theorem dJ6_bitCount_0f7a4_51 : decode cJ6_bitCount_0f7a4 51 = .ok (.iand, 1) := by decide +kernel
theorem dJ6_bitCount_0f7a4_52 : decode cJ6_bitCount_0f7a4 52 = .ok (.ireturn, 1) := by decide +kernel
theorem dJ9_floorMod_7cf53_0 : decode cJ9_floorMod_7cf53 0 = .ok (.iload_n 0, 1) := by decide +kernel
theorem dJ9_floorMod_7cf53_1 : decode cJ9_floorMod_7cf53 1 = .ok (.iload_n 1, 1) := by decide +kernel
theorem dJ9_floorMod_7cf53_2 : decode cJ9_floorMod_7cf53 2 = .ok (.irem, 1) := by decide +kernel
theorem dJ9_floorMod_7cf53_3 : decode cJ9_floorMod_7cf53 3 = .ok (.istore_n 2, 1) := by decide +kernel
theorem dJ9_floorMod_7cf53_4 : decode cJ9_floorMod_7cf53 4 = .ok (.iload_n 0, 1) := by decide +kernel
theorem dJ9_floorMod_7cf53_5 : decode cJ9_floorMod_7cf53 5 = .ok (.iload_n 1, 1) := by decide +kernel
theorem dJ9_floorMod_7cf53_6 : decode cJ9_floorMod_7cf53 6 = .ok (.ixor, 1) := by decide +kernel
theorem dJ9_floorMod_7cf53_7 : decode cJ9_floorMod_7cf53 7 = .ok (.ifCond .ge 11, 3) := by decide +kernel
theorem dJ9_floorMod_7cf53_10 : decode cJ9_floorMod_7cf53 10 = .ok (.iload_n 2, 1) := by decide +kernel
theorem dJ9_floorMod_7cf53_11 : decode cJ9_floorMod_7cf53 11 = .ok (.ifCond .eq 7, 3) := by decide +kernel
theorem dJ9_floorMod_7cf53_14 : decode cJ9_floorMod_7cf53 14 = .ok (.iload_n 2, 1) := by decide +kernel
theorem dJ9_floorMod_7cf53_15 : decode cJ9_floorMod_7cf53 15 = .ok (.iload_n 1, 1) := by decide +kernel
theorem dJ9_floorMod_7cf53_16 : decode cJ9_floorMod_7cf53 16 = .ok (.iadd, 1) := by decide +kernel
theorem dJ9_floorMod_7cf53_17 : decode cJ9_floorMod_7cf53 17 = .ok (.ireturn, 1) := by decide +kernel
theorem dJ9_floorMod_7cf53_18 : decode cJ9_floorMod_7cf53 18 = .ok (.iload_n 2, 1) := by decide +kernel
theorem dJ9_floorMod_7cf53_19 : decode cJ9_floorMod_7cf53 19 = .ok (.ireturn, 1) := by decide +kernel
theorem dJ7_fill_d0a16_0 : decode cJ7_fill_d0a16 0 = .ok (.iconst 0, 1) := by decide +kernel
theorem dJ7_fill_d0a16_1 : decode cJ7_fill_d0a16 1 = .ok (.istore_n 3, 1) := by decide +kernel
theorem dJ7_fill_d0a16_2 : decode cJ7_fill_d0a16 2 = .ok (.aload_n 0, 1) := by decide +kernel
theorem dJ7_fill_d0a16_3 : decode cJ7_fill_d0a16 3 = .ok (.arraylength, 1) := by decide +kernel
theorem dJ7_fill_d0a16_4 : decode cJ7_fill_d0a16 4 = .ok (.istore 4, 2) := by decide +kernel
theorem dJ7_fill_d0a16_6 : decode cJ7_fill_d0a16 6 = .ok (.iload_n 3, 1) := by decide +kernel
theorem dJ7_fill_d0a16_7 : decode cJ7_fill_d0a16 7 = .ok (.iload 4, 2) := by decide +kernel
theorem dJ7_fill_d0a16_9 : decode cJ7_fill_d0a16 9 = .ok (.if_icmp .ge 13, 3) := by decide +kernel
theorem dJ7_fill_d0a16_12 : decode cJ7_fill_d0a16 12 = .ok (.aload_n 0, 1) := by decide +kernel
theorem dJ7_fill_d0a16_13 : decode cJ7_fill_d0a16 13 = .ok (.iload_n 3, 1) := by decide +kernel
theorem dJ7_fill_d0a16_14 : decode cJ7_fill_d0a16 14 = .ok (.lload_n 1, 1) := by decide +kernel
theorem dJ7_fill_d0a16_15 : decode cJ7_fill_d0a16 15 = .ok (.lastore, 1) := by decide +kernel
theorem dJ7_fill_d0a16_16 : decode cJ7_fill_d0a16 16 = .ok (.iinc 3 1, 3) := by decide +kernel
theorem dJ7_fill_d0a16_19 : decode cJ7_fill_d0a16 19 = .ok (.goto (-13), 3) := by decide +kernel
theorem dJ7_fill_d0a16_22 : decode cJ7_fill_d0a16 22 = .ok (.return_, 1) := by decide +kernel
theorem dJ7_fill_53178_0 : decode cJ7_fill_53178 0 = .ok (.iconst 0, 1) := by decide +kernel
theorem dJ7_fill_53178_1 : decode cJ7_fill_53178 1 = .ok (.istore_n 2, 1) := by decide +kernel
theorem dJ7_fill_53178_2 : decode cJ7_fill_53178 2 = .ok (.aload_n 0, 1) := by decide +kernel
theorem dJ7_fill_53178_3 : decode cJ7_fill_53178 3 = .ok (.arraylength, 1) := by decide +kernel
theorem dJ7_fill_53178_4 : decode cJ7_fill_53178 4 = .ok (.istore_n 3, 1) := by decide +kernel
theorem dJ7_fill_53178_5 : decode cJ7_fill_53178 5 = .ok (.iload_n 2, 1) := by decide +kernel
theorem dJ7_fill_53178_6 : decode cJ7_fill_53178 6 = .ok (.iload_n 3, 1) := by decide +kernel
theorem dJ7_fill_53178_7 : decode cJ7_fill_53178 7 = .ok (.if_icmp .ge 13, 3) := by decide +kernel
theorem dJ7_fill_53178_10 : decode cJ7_fill_53178 10 = .ok (.aload_n 0, 1) := by decide +kernel
theorem dJ7_fill_53178_11 : decode cJ7_fill_53178 11 = .ok (.iload_n 2, 1) := by decide +kernel
theorem dJ7_fill_53178_12 : decode cJ7_fill_53178 12 = .ok (.iload_n 1, 1) := by decide +kernel
theorem dJ7_fill_53178_13 : decode cJ7_fill_53178 13 = .ok (.iastore, 1) := by decide +kernel
theorem dJ7_fill_53178_14 : decode cJ7_fill_53178 14 = .ok (.iinc 2 1, 3) := by decide +kernel
theorem dJ7_fill_53178_17 : decode cJ7_fill_53178 17 = .ok (.goto (-12), 3) := by decide +kernel
theorem dJ7_fill_53178_20 : decode cJ7_fill_53178 20 = .ok (.return_, 1) := by decide +kernel
theorem dL_law_0 : decode cL_law 0 = .ok (.new 7, 3) := by decide +kernel
theorem dL_law_3 : decode cL_law 3 = .ok (.dup, 1) := by decide +kernel
theorem dL_law_4 : decode cL_law 4 = .ok (.invokespecial 9, 3) := by decide +kernel
theorem dL_law_7 : decode cL_law 7 = .ok (.astore_n 1, 1) := by decide +kernel
theorem dL_law_8 : decode cL_law 8 = .ok (.new 10, 3) := by decide +kernel
theorem dL_law_11 : decode cL_law 11 = .ok (.dup, 1) := by decide +kernel
theorem dL_law_12 : decode cL_law 12 = .ok (.invokespecial 12, 3) := by decide +kernel
theorem dL_law_15 : decode cL_law 15 = .ok (.astore_n 2, 1) := by decide +kernel
theorem dL_law_16 : decode cL_law 16 = .ok (.iconst 0, 1) := by decide +kernel
theorem dL_law_17 : decode cL_law 17 = .ok (.istore_n 3, 1) := by decide +kernel
theorem dL_law_18 : decode cL_law 18 = .ok (.iload_n 3, 1) := by decide +kernel
theorem dL_law_19 : decode cL_law 19 = .ok (.aload_n 0, 1) := by decide +kernel
theorem dL_law_20 : decode cL_law 20 = .ok (.arraylength, 1) := by decide +kernel
theorem dL_law_21 : decode cL_law 21 = .ok (.iconst 5, 1) := by decide +kernel
theorem dL_law_22 : decode cL_law 22 = .ok (.isub, 1) := by decide +kernel
theorem dL_law_23 : decode cL_law 23 = .ok (.if_icmp .gt 1424, 3) := by decide +kernel
theorem dL_law_26 : decode cL_law 26 = .ok (.aload_n 0, 1) := by decide +kernel
theorem dL_law_27 : decode cL_law 27 = .ok (.iload_n 3, 1) := by decide +kernel
theorem dL_law_28 : decode cL_law 28 = .ok (.iaload, 1) := by decide +kernel
theorem dL_law_29 : decode cL_law 29 = .ok (.bipush 63, 2) := by decide +kernel
theorem dL_law_31 : decode cL_law 31 = .ok (.iand, 1) := by decide +kernel
theorem dL_law_32 : decode cL_law 32 = .ok (.tableswitch 1409 0 49 #[216, 239, 272, 295, 318, 331, 344, 368, 392, 405, 418, 441, 464, 477, 490, 513, 536, 549, 572, 595, 608, 631, 654, 697, 730, 753, 776, 799, 832, 865, 898, 911, 934, 947, 970, 1003, 1036, 1059, 1092, 1125, 1158, 1231, 1265, 1288, 1311, 1324, 1337, 1360, 1373, 1386], 216) := by decide +kernel
theorem dL_law_248 : decode cL_law 248 = .ok (.aload_n 1, 1) := by decide +kernel
theorem dL_law_249 : decode cL_law 249 = .ok (.aload_n 0, 1) := by decide +kernel
theorem dL_law_250 : decode cL_law 250 = .ok (.iload_n 3, 1) := by decide +kernel
theorem dL_law_251 : decode cL_law 251 = .ok (.iconst 1, 1) := by decide +kernel
theorem dL_law_252 : decode cL_law 252 = .ok (.iadd, 1) := by decide +kernel
theorem dL_law_253 : decode cL_law 253 = .ok (.iaload, 1) := by decide +kernel
theorem dL_law_254 : decode cL_law 254 = .ok (.invokevirtual 13, 3) := by decide +kernel
theorem dL_law_257 : decode cL_law 257 = .ok (.aload_n 2, 1) := by decide +kernel
theorem dL_law_258 : decode cL_law 258 = .ok (.aload_n 0, 1) := by decide +kernel
theorem dL_law_259 : decode cL_law 259 = .ok (.iload_n 3, 1) := by decide +kernel
theorem dL_law_260 : decode cL_law 260 = .ok (.iconst 1, 1) := by decide +kernel
theorem dL_law_261 : decode cL_law 261 = .ok (.iadd, 1) := by decide +kernel
theorem dL_law_262 : decode cL_law 262 = .ok (.iaload, 1) := by decide +kernel
theorem dL_law_263 : decode cL_law 263 = .ok (.invokevirtual 17, 3) := by decide +kernel
theorem dL_law_266 : decode cL_law 266 = .ok (.if_icmp .eq 1175, 3) := by decide +kernel
theorem dL_law_269 : decode cL_law 269 = .ok (.iconst 0, 1) := by decide +kernel
theorem dL_law_270 : decode cL_law 270 = .ok (.ireturn, 1) := by decide +kernel
theorem dL_law_271 : decode cL_law 271 = .ok (.aload_n 1, 1) := by decide +kernel
theorem dL_law_272 : decode cL_law 272 = .ok (.aload_n 0, 1) := by decide +kernel
theorem dL_law_273 : decode cL_law 273 = .ok (.iload_n 3, 1) := by decide +kernel
theorem dL_law_274 : decode cL_law 274 = .ok (.iconst 1, 1) := by decide +kernel
theorem dL_law_275 : decode cL_law 275 = .ok (.iadd, 1) := by decide +kernel
theorem dL_law_276 : decode cL_law 276 = .ok (.iaload, 1) := by decide +kernel
theorem dL_law_277 : decode cL_law 277 = .ok (.aload_n 0, 1) := by decide +kernel
theorem dL_law_278 : decode cL_law 278 = .ok (.iload_n 3, 1) := by decide +kernel
theorem dL_law_279 : decode cL_law 279 = .ok (.iconst 2, 1) := by decide +kernel
theorem dL_law_280 : decode cL_law 280 = .ok (.iadd, 1) := by decide +kernel
theorem dL_law_281 : decode cL_law 281 = .ok (.iaload, 1) := by decide +kernel
theorem dL_law_282 : decode cL_law 282 = .ok (.invokevirtual 18, 3) := by decide +kernel
theorem dL_law_285 : decode cL_law 285 = .ok (.aload_n 2, 1) := by decide +kernel
theorem dL_law_286 : decode cL_law 286 = .ok (.aload_n 0, 1) := by decide +kernel
theorem dL_law_287 : decode cL_law 287 = .ok (.iload_n 3, 1) := by decide +kernel
theorem dL_law_288 : decode cL_law 288 = .ok (.iconst 1, 1) := by decide +kernel
theorem dL_law_289 : decode cL_law 289 = .ok (.iadd, 1) := by decide +kernel
theorem dL_law_290 : decode cL_law 290 = .ok (.iaload, 1) := by decide +kernel
theorem dL_law_291 : decode cL_law 291 = .ok (.aload_n 0, 1) := by decide +kernel
theorem dL_law_292 : decode cL_law 292 = .ok (.iload_n 3, 1) := by decide +kernel
theorem dL_law_293 : decode cL_law 293 = .ok (.iconst 2, 1) := by decide +kernel
theorem dL_law_294 : decode cL_law 294 = .ok (.iadd, 1) := by decide +kernel
theorem dL_law_295 : decode cL_law 295 = .ok (.iaload, 1) := by decide +kernel
theorem dL_law_296 : decode cL_law 296 = .ok (.invokevirtual 22, 3) := by decide +kernel
theorem dL_law_299 : decode cL_law 299 = .ok (.if_icmp .eq 1142, 3) := by decide +kernel
theorem dL_law_302 : decode cL_law 302 = .ok (.iconst 0, 1) := by decide +kernel
theorem dL_law_303 : decode cL_law 303 = .ok (.ireturn, 1) := by decide +kernel
theorem dL_law_304 : decode cL_law 304 = .ok (.aload_n 1, 1) := by decide +kernel
theorem dL_law_305 : decode cL_law 305 = .ok (.aload_n 0, 1) := by decide +kernel
theorem dL_law_306 : decode cL_law 306 = .ok (.iload_n 3, 1) := by decide +kernel
theorem dL_law_307 : decode cL_law 307 = .ok (.iconst 1, 1) := by decide +kernel
theorem dL_law_308 : decode cL_law 308 = .ok (.iadd, 1) := by decide +kernel
theorem dL_law_309 : decode cL_law 309 = .ok (.iaload, 1) := by decide +kernel
theorem dL_law_310 : decode cL_law 310 = .ok (.invokevirtual 23, 3) := by decide +kernel
theorem dL_law_313 : decode cL_law 313 = .ok (.aload_n 2, 1) := by decide +kernel
theorem dL_law_314 : decode cL_law 314 = .ok (.aload_n 0, 1) := by decide +kernel
theorem dL_law_315 : decode cL_law 315 = .ok (.iload_n 3, 1) := by decide +kernel
theorem dL_law_316 : decode cL_law 316 = .ok (.iconst 1, 1) := by decide +kernel
theorem dL_law_317 : decode cL_law 317 = .ok (.iadd, 1) := by decide +kernel
theorem dL_law_318 : decode cL_law 318 = .ok (.iaload, 1) := by decide +kernel
theorem dL_law_319 : decode cL_law 319 = .ok (.invokevirtual 26, 3) := by decide +kernel
theorem dL_law_322 : decode cL_law 322 = .ok (.if_icmp .eq 1119, 3) := by decide +kernel
theorem dL_law_325 : decode cL_law 325 = .ok (.iconst 0, 1) := by decide +kernel
theorem dL_law_326 : decode cL_law 326 = .ok (.ireturn, 1) := by decide +kernel
theorem dL_law_327 : decode cL_law 327 = .ok (.aload_n 1, 1) := by decide +kernel
theorem dL_law_328 : decode cL_law 328 = .ok (.aload_n 0, 1) := by decide +kernel
theorem dL_law_329 : decode cL_law 329 = .ok (.iload_n 3, 1) := by decide +kernel
theorem dL_law_330 : decode cL_law 330 = .ok (.iconst 1, 1) := by decide +kernel
theorem dL_law_331 : decode cL_law 331 = .ok (.iadd, 1) := by decide +kernel
theorem dL_law_332 : decode cL_law 332 = .ok (.iaload, 1) := by decide +kernel
theorem dL_law_333 : decode cL_law 333 = .ok (.invokevirtual 27, 3) := by decide +kernel
theorem dL_law_336 : decode cL_law 336 = .ok (.aload_n 2, 1) := by decide +kernel
theorem dL_law_337 : decode cL_law 337 = .ok (.aload_n 0, 1) := by decide +kernel
theorem dL_law_338 : decode cL_law 338 = .ok (.iload_n 3, 1) := by decide +kernel
theorem dL_law_339 : decode cL_law 339 = .ok (.iconst 1, 1) := by decide +kernel
theorem dL_law_340 : decode cL_law 340 = .ok (.iadd, 1) := by decide +kernel
theorem dL_law_341 : decode cL_law 341 = .ok (.iaload, 1) := by decide +kernel
theorem dL_law_342 : decode cL_law 342 = .ok (.invokevirtual 30, 3) := by decide +kernel
theorem dL_law_345 : decode cL_law 345 = .ok (.if_icmp .eq 1096, 3) := by decide +kernel
theorem dL_law_348 : decode cL_law 348 = .ok (.iconst 0, 1) := by decide +kernel
theorem dL_law_349 : decode cL_law 349 = .ok (.ireturn, 1) := by decide +kernel
theorem dL_law_350 : decode cL_law 350 = .ok (.aload_n 1, 1) := by decide +kernel
theorem dL_law_351 : decode cL_law 351 = .ok (.invokevirtual 31, 3) := by decide +kernel
theorem dL_law_354 : decode cL_law 354 = .ok (.aload_n 2, 1) := by decide +kernel
theorem dL_law_355 : decode cL_law 355 = .ok (.invokevirtual 35, 3) := by decide +kernel
theorem dL_law_358 : decode cL_law 358 = .ok (.if_icmp .eq 1083, 3) := by decide +kernel
theorem dL_law_361 : decode cL_law 361 = .ok (.iconst 0, 1) := by decide +kernel
theorem dL_law_362 : decode cL_law 362 = .ok (.ireturn, 1) := by decide +kernel
theorem dL_law_363 : decode cL_law 363 = .ok (.aload_n 1, 1) := by decide +kernel
theorem dL_law_364 : decode cL_law 364 = .ok (.invokevirtual 36, 3) := by decide +kernel
theorem dL_law_367 : decode cL_law 367 = .ok (.aload_n 2, 1) := by decide +kernel
theorem dL_law_368 : decode cL_law 368 = .ok (.invokevirtual 39, 3) := by decide +kernel
theorem dL_law_371 : decode cL_law 371 = .ok (.if_icmp .eq 1070, 3) := by decide +kernel
theorem dL_law_374 : decode cL_law 374 = .ok (.iconst 0, 1) := by decide +kernel
theorem dL_law_375 : decode cL_law 375 = .ok (.ireturn, 1) := by decide +kernel
theorem dL_law_376 : decode cL_law 376 = .ok (.aload_n 1, 1) := by decide +kernel
theorem dL_law_377 : decode cL_law 377 = .ok (.aload_n 0, 1) := by decide +kernel
theorem dL_law_378 : decode cL_law 378 = .ok (.iload_n 3, 1) := by decide +kernel
theorem dL_law_379 : decode cL_law 379 = .ok (.iconst 1, 1) := by decide +kernel
theorem dL_law_380 : decode cL_law 380 = .ok (.iadd, 1) := by decide +kernel
theorem dL_law_381 : decode cL_law 381 = .ok (.iaload, 1) := by decide +kernel
theorem dL_law_382 : decode cL_law 382 = .ok (.invokevirtual 40, 3) := by decide +kernel
theorem dL_law_385 : decode cL_law 385 = .ok (.aload_n 2, 1) := by decide +kernel
theorem dL_law_386 : decode cL_law 386 = .ok (.aload_n 0, 1) := by decide +kernel
theorem dL_law_387 : decode cL_law 387 = .ok (.iload_n 3, 1) := by decide +kernel
theorem dL_law_388 : decode cL_law 388 = .ok (.iconst 1, 1) := by decide +kernel
theorem dL_law_389 : decode cL_law 389 = .ok (.iadd, 1) := by decide +kernel
theorem dL_law_390 : decode cL_law 390 = .ok (.iaload, 1) := by decide +kernel
theorem dL_law_391 : decode cL_law 391 = .ok (.invokevirtual 44, 3) := by decide +kernel
theorem dL_law_394 : decode cL_law 394 = .ok (.lcmp, 1) := by decide +kernel
theorem dL_law_395 : decode cL_law 395 = .ok (.ifCond .eq 1046, 3) := by decide +kernel
theorem dL_law_398 : decode cL_law 398 = .ok (.iconst 0, 1) := by decide +kernel
theorem dL_law_399 : decode cL_law 399 = .ok (.ireturn, 1) := by decide +kernel
theorem dL_law_400 : decode cL_law 400 = .ok (.aload_n 1, 1) := by decide +kernel
theorem dL_law_401 : decode cL_law 401 = .ok (.aload_n 0, 1) := by decide +kernel
theorem dL_law_402 : decode cL_law 402 = .ok (.iload_n 3, 1) := by decide +kernel
theorem dL_law_403 : decode cL_law 403 = .ok (.iconst 1, 1) := by decide +kernel
theorem dL_law_404 : decode cL_law 404 = .ok (.iadd, 1) := by decide +kernel
theorem dL_law_405 : decode cL_law 405 = .ok (.iaload, 1) := by decide +kernel
theorem dL_law_406 : decode cL_law 406 = .ok (.invokevirtual 45, 3) := by decide +kernel
theorem dL_law_409 : decode cL_law 409 = .ok (.aload_n 2, 1) := by decide +kernel
theorem dL_law_410 : decode cL_law 410 = .ok (.aload_n 0, 1) := by decide +kernel
theorem dL_law_411 : decode cL_law 411 = .ok (.iload_n 3, 1) := by decide +kernel
theorem dL_law_412 : decode cL_law 412 = .ok (.iconst 1, 1) := by decide +kernel
theorem dL_law_413 : decode cL_law 413 = .ok (.iadd, 1) := by decide +kernel
theorem dL_law_414 : decode cL_law 414 = .ok (.iaload, 1) := by decide +kernel
theorem dL_law_415 : decode cL_law 415 = .ok (.invokevirtual 48, 3) := by decide +kernel
theorem dL_law_418 : decode cL_law 418 = .ok (.lcmp, 1) := by decide +kernel
theorem dL_law_419 : decode cL_law 419 = .ok (.ifCond .eq 1022, 3) := by decide +kernel
theorem dL_law_422 : decode cL_law 422 = .ok (.iconst 0, 1) := by decide +kernel
theorem dL_law_423 : decode cL_law 423 = .ok (.ireturn, 1) := by decide +kernel
theorem dL_law_424 : decode cL_law 424 = .ok (.aload_n 1, 1) := by decide +kernel
theorem dL_law_425 : decode cL_law 425 = .ok (.invokevirtual 49, 3) := by decide +kernel
theorem dL_law_428 : decode cL_law 428 = .ok (.aload_n 2, 1) := by decide +kernel
theorem dL_law_429 : decode cL_law 429 = .ok (.invokevirtual 52, 3) := by decide +kernel
theorem dL_law_432 : decode cL_law 432 = .ok (.if_icmp .eq 1009, 3) := by decide +kernel
theorem dL_law_435 : decode cL_law 435 = .ok (.iconst 0, 1) := by decide +kernel
theorem dL_law_436 : decode cL_law 436 = .ok (.ireturn, 1) := by decide +kernel
theorem dL_law_437 : decode cL_law 437 = .ok (.aload_n 1, 1) := by decide +kernel
theorem dL_law_438 : decode cL_law 438 = .ok (.invokevirtual 53, 3) := by decide +kernel
theorem dL_law_441 : decode cL_law 441 = .ok (.aload_n 2, 1) := by decide +kernel
theorem dL_law_442 : decode cL_law 442 = .ok (.invokevirtual 56, 3) := by decide +kernel
theorem dL_law_445 : decode cL_law 445 = .ok (.if_icmp .eq 996, 3) := by decide +kernel
theorem dL_law_448 : decode cL_law 448 = .ok (.iconst 0, 1) := by decide +kernel
theorem dL_law_449 : decode cL_law 449 = .ok (.ireturn, 1) := by decide +kernel
theorem dL_law_450 : decode cL_law 450 = .ok (.aload_n 1, 1) := by decide +kernel
theorem dL_law_451 : decode cL_law 451 = .ok (.aload_n 0, 1) := by decide +kernel
theorem dL_law_452 : decode cL_law 452 = .ok (.iload_n 3, 1) := by decide +kernel
theorem dL_law_453 : decode cL_law 453 = .ok (.iconst 1, 1) := by decide +kernel
theorem dL_law_454 : decode cL_law 454 = .ok (.iadd, 1) := by decide +kernel
theorem dL_law_455 : decode cL_law 455 = .ok (.iaload, 1) := by decide +kernel
theorem dL_law_456 : decode cL_law 456 = .ok (.invokevirtual 57, 3) := by decide +kernel
theorem dL_law_459 : decode cL_law 459 = .ok (.aload_n 2, 1) := by decide +kernel
theorem dL_law_460 : decode cL_law 460 = .ok (.aload_n 0, 1) := by decide +kernel
theorem dL_law_461 : decode cL_law 461 = .ok (.iload_n 3, 1) := by decide +kernel
theorem dL_law_462 : decode cL_law 462 = .ok (.iconst 1, 1) := by decide +kernel
theorem dL_law_463 : decode cL_law 463 = .ok (.iadd, 1) := by decide +kernel
theorem dL_law_464 : decode cL_law 464 = .ok (.iaload, 1) := by decide +kernel
theorem dL_law_465 : decode cL_law 465 = .ok (.invokevirtual 60, 3) := by decide +kernel
theorem dL_law_468 : decode cL_law 468 = .ok (.if_icmp .eq 973, 3) := by decide +kernel
theorem dL_law_471 : decode cL_law 471 = .ok (.iconst 0, 1) := by decide +kernel
theorem dL_law_472 : decode cL_law 472 = .ok (.ireturn, 1) := by decide +kernel
theorem dL_law_473 : decode cL_law 473 = .ok (.aload_n 1, 1) := by decide +kernel
theorem dL_law_474 : decode cL_law 474 = .ok (.aload_n 0, 1) := by decide +kernel
theorem dL_law_475 : decode cL_law 475 = .ok (.iload_n 3, 1) := by decide +kernel
theorem dL_law_476 : decode cL_law 476 = .ok (.iconst 1, 1) := by decide +kernel
theorem dL_law_477 : decode cL_law 477 = .ok (.iadd, 1) := by decide +kernel
theorem dL_law_478 : decode cL_law 478 = .ok (.iaload, 1) := by decide +kernel
theorem dL_law_479 : decode cL_law 479 = .ok (.invokevirtual 61, 3) := by decide +kernel
theorem dL_law_482 : decode cL_law 482 = .ok (.aload_n 2, 1) := by decide +kernel
theorem dL_law_483 : decode cL_law 483 = .ok (.aload_n 0, 1) := by decide +kernel
theorem dL_law_484 : decode cL_law 484 = .ok (.iload_n 3, 1) := by decide +kernel
theorem dL_law_485 : decode cL_law 485 = .ok (.iconst 1, 1) := by decide +kernel
theorem dL_law_486 : decode cL_law 486 = .ok (.iadd, 1) := by decide +kernel
theorem dL_law_487 : decode cL_law 487 = .ok (.iaload, 1) := by decide +kernel
theorem dL_law_488 : decode cL_law 488 = .ok (.invokevirtual 64, 3) := by decide +kernel
theorem dL_law_491 : decode cL_law 491 = .ok (.if_icmp .eq 950, 3) := by decide +kernel
theorem dL_law_494 : decode cL_law 494 = .ok (.iconst 0, 1) := by decide +kernel
theorem dL_law_495 : decode cL_law 495 = .ok (.ireturn, 1) := by decide +kernel
theorem dL_law_496 : decode cL_law 496 = .ok (.aload_n 1, 1) := by decide +kernel
theorem dL_law_497 : decode cL_law 497 = .ok (.invokevirtual 65, 3) := by decide +kernel
theorem dL_law_500 : decode cL_law 500 = .ok (.aload_n 2, 1) := by decide +kernel
theorem dL_law_501 : decode cL_law 501 = .ok (.invokevirtual 68, 3) := by decide +kernel
theorem dL_law_504 : decode cL_law 504 = .ok (.if_icmp .eq 937, 3) := by decide +kernel
theorem dL_law_507 : decode cL_law 507 = .ok (.iconst 0, 1) := by decide +kernel
theorem dL_law_508 : decode cL_law 508 = .ok (.ireturn, 1) := by decide +kernel
theorem dL_law_509 : decode cL_law 509 = .ok (.aload_n 1, 1) := by decide +kernel
theorem dL_law_510 : decode cL_law 510 = .ok (.invokevirtual 69, 3) := by decide +kernel
theorem dL_law_513 : decode cL_law 513 = .ok (.aload_n 2, 1) := by decide +kernel
theorem dL_law_514 : decode cL_law 514 = .ok (.invokevirtual 72, 3) := by decide +kernel
theorem dL_law_517 : decode cL_law 517 = .ok (.if_icmp .eq 924, 3) := by decide +kernel
theorem dL_law_520 : decode cL_law 520 = .ok (.iconst 0, 1) := by decide +kernel
theorem dL_law_521 : decode cL_law 521 = .ok (.ireturn, 1) := by decide +kernel
theorem dL_law_522 : decode cL_law 522 = .ok (.aload_n 1, 1) := by decide +kernel
theorem dL_law_523 : decode cL_law 523 = .ok (.aload_n 0, 1) := by decide +kernel
theorem dL_law_524 : decode cL_law 524 = .ok (.iload_n 3, 1) := by decide +kernel
theorem dL_law_525 : decode cL_law 525 = .ok (.iconst 1, 1) := by decide +kernel
theorem dL_law_526 : decode cL_law 526 = .ok (.iadd, 1) := by decide +kernel
theorem dL_law_527 : decode cL_law 527 = .ok (.iaload, 1) := by decide +kernel
theorem dL_law_528 : decode cL_law 528 = .ok (.invokevirtual 73, 3) := by decide +kernel
theorem dL_law_531 : decode cL_law 531 = .ok (.aload_n 2, 1) := by decide +kernel
theorem dL_law_532 : decode cL_law 532 = .ok (.aload_n 0, 1) := by decide +kernel
theorem dL_law_533 : decode cL_law 533 = .ok (.iload_n 3, 1) := by decide +kernel
theorem dL_law_534 : decode cL_law 534 = .ok (.iconst 1, 1) := by decide +kernel
theorem dL_law_535 : decode cL_law 535 = .ok (.iadd, 1) := by decide +kernel
theorem dL_law_536 : decode cL_law 536 = .ok (.iaload, 1) := by decide +kernel
theorem dL_law_537 : decode cL_law 537 = .ok (.invokevirtual 76, 3) := by decide +kernel
theorem dL_law_540 : decode cL_law 540 = .ok (.if_icmp .eq 901, 3) := by decide +kernel
theorem dL_law_543 : decode cL_law 543 = .ok (.iconst 0, 1) := by decide +kernel
theorem dL_law_544 : decode cL_law 544 = .ok (.ireturn, 1) := by decide +kernel
theorem dL_law_545 : decode cL_law 545 = .ok (.aload_n 1, 1) := by decide +kernel
theorem dL_law_546 : decode cL_law 546 = .ok (.aload_n 0, 1) := by decide +kernel
theorem dL_law_547 : decode cL_law 547 = .ok (.iload_n 3, 1) := by decide +kernel
theorem dL_law_548 : decode cL_law 548 = .ok (.iconst 1, 1) := by decide +kernel
theorem dL_law_549 : decode cL_law 549 = .ok (.iadd, 1) := by decide +kernel
theorem dL_law_550 : decode cL_law 550 = .ok (.iaload, 1) := by decide +kernel
theorem dL_law_551 : decode cL_law 551 = .ok (.invokevirtual 77, 3) := by decide +kernel
theorem dL_law_554 : decode cL_law 554 = .ok (.aload_n 2, 1) := by decide +kernel
theorem dL_law_555 : decode cL_law 555 = .ok (.aload_n 0, 1) := by decide +kernel
theorem dL_law_556 : decode cL_law 556 = .ok (.iload_n 3, 1) := by decide +kernel
theorem dL_law_557 : decode cL_law 557 = .ok (.iconst 1, 1) := by decide +kernel
theorem dL_law_558 : decode cL_law 558 = .ok (.iadd, 1) := by decide +kernel
theorem dL_law_559 : decode cL_law 559 = .ok (.iaload, 1) := by decide +kernel
theorem dL_law_560 : decode cL_law 560 = .ok (.invokevirtual 80, 3) := by decide +kernel
theorem dL_law_563 : decode cL_law 563 = .ok (.if_icmp .eq 878, 3) := by decide +kernel
theorem dL_law_566 : decode cL_law 566 = .ok (.iconst 0, 1) := by decide +kernel
theorem dL_law_567 : decode cL_law 567 = .ok (.ireturn, 1) := by decide +kernel
theorem dL_law_568 : decode cL_law 568 = .ok (.aload_n 1, 1) := by decide +kernel
theorem dL_law_569 : decode cL_law 569 = .ok (.invokevirtual 81, 3) := by decide +kernel
theorem dL_law_572 : decode cL_law 572 = .ok (.aload_n 2, 1) := by decide +kernel
theorem dL_law_573 : decode cL_law 573 = .ok (.invokevirtual 84, 3) := by decide +kernel
theorem dL_law_576 : decode cL_law 576 = .ok (.if_icmp .eq 865, 3) := by decide +kernel
theorem dL_law_579 : decode cL_law 579 = .ok (.iconst 0, 1) := by decide +kernel
theorem dL_law_580 : decode cL_law 580 = .ok (.ireturn, 1) := by decide +kernel
theorem dL_law_581 : decode cL_law 581 = .ok (.aload_n 1, 1) := by decide +kernel
theorem dL_law_582 : decode cL_law 582 = .ok (.aload_n 0, 1) := by decide +kernel
theorem dL_law_583 : decode cL_law 583 = .ok (.iload_n 3, 1) := by decide +kernel
theorem dL_law_584 : decode cL_law 584 = .ok (.iconst 1, 1) := by decide +kernel
theorem dL_law_585 : decode cL_law 585 = .ok (.iadd, 1) := by decide +kernel
theorem dL_law_586 : decode cL_law 586 = .ok (.iaload, 1) := by decide +kernel
theorem dL_law_587 : decode cL_law 587 = .ok (.invokevirtual 85, 3) := by decide +kernel
theorem dL_law_590 : decode cL_law 590 = .ok (.aload_n 2, 1) := by decide +kernel
theorem dL_law_591 : decode cL_law 591 = .ok (.aload_n 0, 1) := by decide +kernel
theorem dL_law_592 : decode cL_law 592 = .ok (.iload_n 3, 1) := by decide +kernel
theorem dL_law_593 : decode cL_law 593 = .ok (.iconst 1, 1) := by decide +kernel
theorem dL_law_594 : decode cL_law 594 = .ok (.iadd, 1) := by decide +kernel
theorem dL_law_595 : decode cL_law 595 = .ok (.iaload, 1) := by decide +kernel
theorem dL_law_596 : decode cL_law 596 = .ok (.invokevirtual 88, 3) := by decide +kernel
theorem dL_law_599 : decode cL_law 599 = .ok (.if_icmp .eq 842, 3) := by decide +kernel
theorem dL_law_602 : decode cL_law 602 = .ok (.iconst 0, 1) := by decide +kernel
theorem dL_law_603 : decode cL_law 603 = .ok (.ireturn, 1) := by decide +kernel
theorem dL_law_604 : decode cL_law 604 = .ok (.aload_n 1, 1) := by decide +kernel
theorem dL_law_605 : decode cL_law 605 = .ok (.aload_n 0, 1) := by decide +kernel
theorem dL_law_606 : decode cL_law 606 = .ok (.iload_n 3, 1) := by decide +kernel
theorem dL_law_607 : decode cL_law 607 = .ok (.iconst 1, 1) := by decide +kernel
theorem dL_law_608 : decode cL_law 608 = .ok (.iadd, 1) := by decide +kernel
theorem dL_law_609 : decode cL_law 609 = .ok (.iaload, 1) := by decide +kernel
theorem dL_law_610 : decode cL_law 610 = .ok (.invokevirtual 89, 3) := by decide +kernel
theorem dL_law_613 : decode cL_law 613 = .ok (.aload_n 2, 1) := by decide +kernel
theorem dL_law_614 : decode cL_law 614 = .ok (.aload_n 0, 1) := by decide +kernel
theorem dL_law_615 : decode cL_law 615 = .ok (.iload_n 3, 1) := by decide +kernel
theorem dL_law_616 : decode cL_law 616 = .ok (.iconst 1, 1) := by decide +kernel
theorem dL_law_617 : decode cL_law 617 = .ok (.iadd, 1) := by decide +kernel
theorem dL_law_618 : decode cL_law 618 = .ok (.iaload, 1) := by decide +kernel
theorem dL_law_619 : decode cL_law 619 = .ok (.invokevirtual 92, 3) := by decide +kernel
theorem dL_law_622 : decode cL_law 622 = .ok (.if_icmp .eq 819, 3) := by decide +kernel
theorem dL_law_625 : decode cL_law 625 = .ok (.iconst 0, 1) := by decide +kernel
theorem dL_law_626 : decode cL_law 626 = .ok (.ireturn, 1) := by decide +kernel
theorem dL_law_627 : decode cL_law 627 = .ok (.aload_n 1, 1) := by decide +kernel
theorem dL_law_628 : decode cL_law 628 = .ok (.invokevirtual 93, 3) := by decide +kernel
theorem dL_law_631 : decode cL_law 631 = .ok (.aload_n 2, 1) := by decide +kernel
theorem dL_law_632 : decode cL_law 632 = .ok (.invokevirtual 96, 3) := by decide +kernel
theorem dL_law_635 : decode cL_law 635 = .ok (.if_icmp .eq 806, 3) := by decide +kernel
theorem dL_law_638 : decode cL_law 638 = .ok (.iconst 0, 1) := by decide +kernel
theorem dL_law_639 : decode cL_law 639 = .ok (.ireturn, 1) := by decide +kernel
theorem dL_law_640 : decode cL_law 640 = .ok (.aload_n 1, 1) := by decide +kernel
theorem dL_law_641 : decode cL_law 641 = .ok (.aload_n 0, 1) := by decide +kernel
theorem dL_law_642 : decode cL_law 642 = .ok (.iload_n 3, 1) := by decide +kernel
theorem dL_law_643 : decode cL_law 643 = .ok (.iconst 1, 1) := by decide +kernel
theorem dL_law_644 : decode cL_law 644 = .ok (.iadd, 1) := by decide +kernel
theorem dL_law_645 : decode cL_law 645 = .ok (.iaload, 1) := by decide +kernel
theorem dL_law_646 : decode cL_law 646 = .ok (.invokevirtual 97, 3) := by decide +kernel
theorem dL_law_649 : decode cL_law 649 = .ok (.aload_n 2, 1) := by decide +kernel
theorem dL_law_650 : decode cL_law 650 = .ok (.aload_n 0, 1) := by decide +kernel
theorem dL_law_651 : decode cL_law 651 = .ok (.iload_n 3, 1) := by decide +kernel
theorem dL_law_652 : decode cL_law 652 = .ok (.iconst 1, 1) := by decide +kernel
theorem dL_law_653 : decode cL_law 653 = .ok (.iadd, 1) := by decide +kernel
theorem dL_law_654 : decode cL_law 654 = .ok (.iaload, 1) := by decide +kernel
theorem dL_law_655 : decode cL_law 655 = .ok (.invokevirtual 100, 3) := by decide +kernel
theorem dL_law_658 : decode cL_law 658 = .ok (.if_icmp .eq 783, 3) := by decide +kernel
theorem dL_law_661 : decode cL_law 661 = .ok (.iconst 0, 1) := by decide +kernel
theorem dL_law_662 : decode cL_law 662 = .ok (.ireturn, 1) := by decide +kernel
theorem dL_law_663 : decode cL_law 663 = .ok (.aload_n 1, 1) := by decide +kernel
theorem dL_law_664 : decode cL_law 664 = .ok (.aload_n 0, 1) := by decide +kernel
theorem dL_law_665 : decode cL_law 665 = .ok (.iload_n 3, 1) := by decide +kernel
theorem dL_law_666 : decode cL_law 666 = .ok (.iconst 1, 1) := by decide +kernel
theorem dL_law_667 : decode cL_law 667 = .ok (.iadd, 1) := by decide +kernel
theorem dL_law_668 : decode cL_law 668 = .ok (.iaload, 1) := by decide +kernel
theorem dL_law_669 : decode cL_law 669 = .ok (.invokevirtual 101, 3) := by decide +kernel
theorem dL_law_672 : decode cL_law 672 = .ok (.aload_n 2, 1) := by decide +kernel
theorem dL_law_673 : decode cL_law 673 = .ok (.aload_n 0, 1) := by decide +kernel
theorem dL_law_674 : decode cL_law 674 = .ok (.iload_n 3, 1) := by decide +kernel
theorem dL_law_675 : decode cL_law 675 = .ok (.iconst 1, 1) := by decide +kernel
theorem dL_law_676 : decode cL_law 676 = .ok (.iadd, 1) := by decide +kernel
theorem dL_law_677 : decode cL_law 677 = .ok (.iaload, 1) := by decide +kernel
theorem dL_law_678 : decode cL_law 678 = .ok (.invokevirtual 104, 3) := by decide +kernel
theorem dL_law_681 : decode cL_law 681 = .ok (.if_icmp .eq 760, 3) := by decide +kernel
theorem dL_law_684 : decode cL_law 684 = .ok (.iconst 0, 1) := by decide +kernel
theorem dL_law_685 : decode cL_law 685 = .ok (.ireturn, 1) := by decide +kernel
theorem dL_law_686 : decode cL_law 686 = .ok (.aload_n 1, 1) := by decide +kernel
theorem dL_law_687 : decode cL_law 687 = .ok (.aload_n 0, 1) := by decide +kernel
theorem dL_law_688 : decode cL_law 688 = .ok (.iload_n 3, 1) := by decide +kernel
theorem dL_law_689 : decode cL_law 689 = .ok (.iconst 1, 1) := by decide +kernel
theorem dL_law_690 : decode cL_law 690 = .ok (.iadd, 1) := by decide +kernel
theorem dL_law_691 : decode cL_law 691 = .ok (.iaload, 1) := by decide +kernel
theorem dL_law_692 : decode cL_law 692 = .ok (.aload_n 0, 1) := by decide +kernel
theorem dL_law_693 : decode cL_law 693 = .ok (.iload_n 3, 1) := by decide +kernel
theorem dL_law_694 : decode cL_law 694 = .ok (.iconst 2, 1) := by decide +kernel
theorem dL_law_695 : decode cL_law 695 = .ok (.iadd, 1) := by decide +kernel
theorem dL_law_696 : decode cL_law 696 = .ok (.iaload, 1) := by decide +kernel
theorem dL_law_697 : decode cL_law 697 = .ok (.aload_n 0, 1) := by decide +kernel
theorem dL_law_698 : decode cL_law 698 = .ok (.iload_n 3, 1) := by decide +kernel
theorem dL_law_699 : decode cL_law 699 = .ok (.iconst 3, 1) := by decide +kernel
theorem dL_law_700 : decode cL_law 700 = .ok (.iadd, 1) := by decide +kernel
theorem dL_law_701 : decode cL_law 701 = .ok (.iaload, 1) := by decide +kernel
theorem dL_law_702 : decode cL_law 702 = .ok (.invokevirtual 105, 3) := by decide +kernel
theorem dL_law_705 : decode cL_law 705 = .ok (.aload_n 2, 1) := by decide +kernel
theorem dL_law_706 : decode cL_law 706 = .ok (.aload_n 0, 1) := by decide +kernel
theorem dL_law_707 : decode cL_law 707 = .ok (.iload_n 3, 1) := by decide +kernel
theorem dL_law_708 : decode cL_law 708 = .ok (.iconst 1, 1) := by decide +kernel
theorem dL_law_709 : decode cL_law 709 = .ok (.iadd, 1) := by decide +kernel
theorem dL_law_710 : decode cL_law 710 = .ok (.iaload, 1) := by decide +kernel
theorem dL_law_711 : decode cL_law 711 = .ok (.aload_n 0, 1) := by decide +kernel
theorem dL_law_712 : decode cL_law 712 = .ok (.iload_n 3, 1) := by decide +kernel
theorem dL_law_713 : decode cL_law 713 = .ok (.iconst 2, 1) := by decide +kernel
theorem dL_law_714 : decode cL_law 714 = .ok (.iadd, 1) := by decide +kernel
theorem dL_law_715 : decode cL_law 715 = .ok (.iaload, 1) := by decide +kernel
theorem dL_law_716 : decode cL_law 716 = .ok (.aload_n 0, 1) := by decide +kernel
theorem dL_law_717 : decode cL_law 717 = .ok (.iload_n 3, 1) := by decide +kernel
theorem dL_law_718 : decode cL_law 718 = .ok (.iconst 3, 1) := by decide +kernel
theorem dL_law_719 : decode cL_law 719 = .ok (.iadd, 1) := by decide +kernel
theorem dL_law_720 : decode cL_law 720 = .ok (.iaload, 1) := by decide +kernel
theorem dL_law_721 : decode cL_law 721 = .ok (.invokevirtual 109, 3) := by decide +kernel
theorem dL_law_724 : decode cL_law 724 = .ok (.if_icmp .eq 717, 3) := by decide +kernel
theorem dL_law_727 : decode cL_law 727 = .ok (.iconst 0, 1) := by decide +kernel
theorem dL_law_728 : decode cL_law 728 = .ok (.ireturn, 1) := by decide +kernel
theorem dL_law_729 : decode cL_law 729 = .ok (.aload_n 1, 1) := by decide +kernel
theorem dL_law_730 : decode cL_law 730 = .ok (.aload_n 0, 1) := by decide +kernel
theorem dL_law_731 : decode cL_law 731 = .ok (.iload_n 3, 1) := by decide +kernel
theorem dL_law_732 : decode cL_law 732 = .ok (.iconst 1, 1) := by decide +kernel
theorem dL_law_733 : decode cL_law 733 = .ok (.iadd, 1) := by decide +kernel
theorem dL_law_734 : decode cL_law 734 = .ok (.iaload, 1) := by decide +kernel
theorem dL_law_735 : decode cL_law 735 = .ok (.aload_n 0, 1) := by decide +kernel
theorem dL_law_736 : decode cL_law 736 = .ok (.iload_n 3, 1) := by decide +kernel
theorem dL_law_737 : decode cL_law 737 = .ok (.iconst 2, 1) := by decide +kernel
theorem dL_law_738 : decode cL_law 738 = .ok (.iadd, 1) := by decide +kernel
theorem dL_law_739 : decode cL_law 739 = .ok (.iaload, 1) := by decide +kernel
theorem dL_law_740 : decode cL_law 740 = .ok (.invokevirtual 110, 3) := by decide +kernel
theorem dL_law_743 : decode cL_law 743 = .ok (.aload_n 2, 1) := by decide +kernel
theorem dL_law_744 : decode cL_law 744 = .ok (.aload_n 0, 1) := by decide +kernel
theorem dL_law_745 : decode cL_law 745 = .ok (.iload_n 3, 1) := by decide +kernel
theorem dL_law_746 : decode cL_law 746 = .ok (.iconst 1, 1) := by decide +kernel
theorem dL_law_747 : decode cL_law 747 = .ok (.iadd, 1) := by decide +kernel
theorem dL_law_748 : decode cL_law 748 = .ok (.iaload, 1) := by decide +kernel
theorem dL_law_749 : decode cL_law 749 = .ok (.aload_n 0, 1) := by decide +kernel
theorem dL_law_750 : decode cL_law 750 = .ok (.iload_n 3, 1) := by decide +kernel
theorem dL_law_751 : decode cL_law 751 = .ok (.iconst 2, 1) := by decide +kernel
theorem dL_law_752 : decode cL_law 752 = .ok (.iadd, 1) := by decide +kernel
theorem dL_law_753 : decode cL_law 753 = .ok (.iaload, 1) := by decide +kernel
theorem dL_law_754 : decode cL_law 754 = .ok (.invokevirtual 113, 3) := by decide +kernel
theorem dL_law_757 : decode cL_law 757 = .ok (.if_icmp .eq 684, 3) := by decide +kernel
theorem dL_law_760 : decode cL_law 760 = .ok (.iconst 0, 1) := by decide +kernel
theorem dL_law_761 : decode cL_law 761 = .ok (.ireturn, 1) := by decide +kernel
theorem dL_law_762 : decode cL_law 762 = .ok (.aload_n 1, 1) := by decide +kernel
theorem dL_law_763 : decode cL_law 763 = .ok (.aload_n 0, 1) := by decide +kernel
theorem dL_law_764 : decode cL_law 764 = .ok (.iload_n 3, 1) := by decide +kernel
theorem dL_law_765 : decode cL_law 765 = .ok (.iconst 1, 1) := by decide +kernel
theorem dL_law_766 : decode cL_law 766 = .ok (.iadd, 1) := by decide +kernel
theorem dL_law_767 : decode cL_law 767 = .ok (.iaload, 1) := by decide +kernel
theorem dL_law_768 : decode cL_law 768 = .ok (.invokevirtual 114, 3) := by decide +kernel
theorem dL_law_771 : decode cL_law 771 = .ok (.aload_n 2, 1) := by decide +kernel
theorem dL_law_772 : decode cL_law 772 = .ok (.aload_n 0, 1) := by decide +kernel
theorem dL_law_773 : decode cL_law 773 = .ok (.iload_n 3, 1) := by decide +kernel
theorem dL_law_774 : decode cL_law 774 = .ok (.iconst 1, 1) := by decide +kernel
theorem dL_law_775 : decode cL_law 775 = .ok (.iadd, 1) := by decide +kernel
theorem dL_law_776 : decode cL_law 776 = .ok (.iaload, 1) := by decide +kernel
theorem dL_law_777 : decode cL_law 777 = .ok (.invokevirtual 117, 3) := by decide +kernel
theorem dL_law_780 : decode cL_law 780 = .ok (.if_icmp .eq 661, 3) := by decide +kernel
theorem dL_law_783 : decode cL_law 783 = .ok (.iconst 0, 1) := by decide +kernel
theorem dL_law_784 : decode cL_law 784 = .ok (.ireturn, 1) := by decide +kernel
theorem dL_law_785 : decode cL_law 785 = .ok (.aload_n 1, 1) := by decide +kernel
theorem dL_law_786 : decode cL_law 786 = .ok (.aload_n 0, 1) := by decide +kernel
theorem dL_law_787 : decode cL_law 787 = .ok (.iload_n 3, 1) := by decide +kernel
theorem dL_law_788 : decode cL_law 788 = .ok (.iconst 1, 1) := by decide +kernel
theorem dL_law_789 : decode cL_law 789 = .ok (.iadd, 1) := by decide +kernel
theorem dL_law_790 : decode cL_law 790 = .ok (.iaload, 1) := by decide +kernel
theorem dL_law_791 : decode cL_law 791 = .ok (.invokevirtual 118, 3) := by decide +kernel
theorem dL_law_794 : decode cL_law 794 = .ok (.aload_n 2, 1) := by decide +kernel
theorem dL_law_795 : decode cL_law 795 = .ok (.aload_n 0, 1) := by decide +kernel
theorem dL_law_796 : decode cL_law 796 = .ok (.iload_n 3, 1) := by decide +kernel
theorem dL_law_797 : decode cL_law 797 = .ok (.iconst 1, 1) := by decide +kernel
theorem dL_law_798 : decode cL_law 798 = .ok (.iadd, 1) := by decide +kernel
theorem dL_law_799 : decode cL_law 799 = .ok (.iaload, 1) := by decide +kernel
theorem dL_law_800 : decode cL_law 800 = .ok (.invokevirtual 121, 3) := by decide +kernel
theorem dL_law_803 : decode cL_law 803 = .ok (.if_icmp .eq 638, 3) := by decide +kernel
theorem dL_law_806 : decode cL_law 806 = .ok (.iconst 0, 1) := by decide +kernel
theorem dL_law_807 : decode cL_law 807 = .ok (.ireturn, 1) := by decide +kernel
theorem dL_law_808 : decode cL_law 808 = .ok (.aload_n 1, 1) := by decide +kernel
theorem dL_law_809 : decode cL_law 809 = .ok (.aload_n 0, 1) := by decide +kernel
theorem dL_law_810 : decode cL_law 810 = .ok (.iload_n 3, 1) := by decide +kernel
theorem dL_law_811 : decode cL_law 811 = .ok (.iconst 1, 1) := by decide +kernel
theorem dL_law_812 : decode cL_law 812 = .ok (.iadd, 1) := by decide +kernel
theorem dL_law_813 : decode cL_law 813 = .ok (.iaload, 1) := by decide +kernel
theorem dL_law_814 : decode cL_law 814 = .ok (.invokevirtual 122, 3) := by decide +kernel
theorem dL_law_817 : decode cL_law 817 = .ok (.aload_n 2, 1) := by decide +kernel
theorem dL_law_818 : decode cL_law 818 = .ok (.aload_n 0, 1) := by decide +kernel
theorem dL_law_819 : decode cL_law 819 = .ok (.iload_n 3, 1) := by decide +kernel
theorem dL_law_820 : decode cL_law 820 = .ok (.iconst 1, 1) := by decide +kernel
theorem dL_law_821 : decode cL_law 821 = .ok (.iadd, 1) := by decide +kernel
theorem dL_law_822 : decode cL_law 822 = .ok (.iaload, 1) := by decide +kernel
theorem dL_law_823 : decode cL_law 823 = .ok (.invokevirtual 125, 3) := by decide +kernel
theorem dL_law_826 : decode cL_law 826 = .ok (.if_icmp .eq 615, 3) := by decide +kernel
theorem dL_law_829 : decode cL_law 829 = .ok (.iconst 0, 1) := by decide +kernel
theorem dL_law_830 : decode cL_law 830 = .ok (.ireturn, 1) := by decide +kernel
theorem dL_law_831 : decode cL_law 831 = .ok (.aload_n 1, 1) := by decide +kernel
theorem dL_law_832 : decode cL_law 832 = .ok (.aload_n 0, 1) := by decide +kernel
theorem dL_law_833 : decode cL_law 833 = .ok (.iload_n 3, 1) := by decide +kernel
theorem dL_law_834 : decode cL_law 834 = .ok (.iconst 1, 1) := by decide +kernel
theorem dL_law_835 : decode cL_law 835 = .ok (.iadd, 1) := by decide +kernel
theorem dL_law_836 : decode cL_law 836 = .ok (.iaload, 1) := by decide +kernel
theorem dL_law_837 : decode cL_law 837 = .ok (.aload_n 0, 1) := by decide +kernel
theorem dL_law_838 : decode cL_law 838 = .ok (.iload_n 3, 1) := by decide +kernel
theorem dL_law_839 : decode cL_law 839 = .ok (.iconst 2, 1) := by decide +kernel
theorem dL_law_840 : decode cL_law 840 = .ok (.iadd, 1) := by decide +kernel
theorem dL_law_841 : decode cL_law 841 = .ok (.iaload, 1) := by decide +kernel
theorem dL_law_842 : decode cL_law 842 = .ok (.invokevirtual 126, 3) := by decide +kernel
theorem dL_law_845 : decode cL_law 845 = .ok (.aload_n 2, 1) := by decide +kernel
theorem dL_law_846 : decode cL_law 846 = .ok (.aload_n 0, 1) := by decide +kernel
theorem dL_law_847 : decode cL_law 847 = .ok (.iload_n 3, 1) := by decide +kernel
theorem dL_law_848 : decode cL_law 848 = .ok (.iconst 1, 1) := by decide +kernel
theorem dL_law_849 : decode cL_law 849 = .ok (.iadd, 1) := by decide +kernel
theorem dL_law_850 : decode cL_law 850 = .ok (.iaload, 1) := by decide +kernel
theorem dL_law_851 : decode cL_law 851 = .ok (.aload_n 0, 1) := by decide +kernel
theorem dL_law_852 : decode cL_law 852 = .ok (.iload_n 3, 1) := by decide +kernel
theorem dL_law_853 : decode cL_law 853 = .ok (.iconst 2, 1) := by decide +kernel
theorem dL_law_854 : decode cL_law 854 = .ok (.iadd, 1) := by decide +kernel
theorem dL_law_855 : decode cL_law 855 = .ok (.iaload, 1) := by decide +kernel
theorem dL_law_856 : decode cL_law 856 = .ok (.invokevirtual 129, 3) := by decide +kernel
theorem dL_law_859 : decode cL_law 859 = .ok (.if_icmp .eq 582, 3) := by decide +kernel
theorem dL_law_862 : decode cL_law 862 = .ok (.iconst 0, 1) := by decide +kernel
theorem dL_law_863 : decode cL_law 863 = .ok (.ireturn, 1) := by decide +kernel
theorem dL_law_864 : decode cL_law 864 = .ok (.aload_n 1, 1) := by decide +kernel
theorem dL_law_865 : decode cL_law 865 = .ok (.aload_n 0, 1) := by decide +kernel
theorem dL_law_866 : decode cL_law 866 = .ok (.iload_n 3, 1) := by decide +kernel
theorem dL_law_867 : decode cL_law 867 = .ok (.iconst 1, 1) := by decide +kernel
theorem dL_law_868 : decode cL_law 868 = .ok (.iadd, 1) := by decide +kernel
theorem dL_law_869 : decode cL_law 869 = .ok (.iaload, 1) := by decide +kernel
theorem dL_law_870 : decode cL_law 870 = .ok (.aload_n 0, 1) := by decide +kernel
theorem dL_law_871 : decode cL_law 871 = .ok (.iload_n 3, 1) := by decide +kernel
theorem dL_law_872 : decode cL_law 872 = .ok (.iconst 2, 1) := by decide +kernel
theorem dL_law_873 : decode cL_law 873 = .ok (.iadd, 1) := by decide +kernel
theorem dL_law_874 : decode cL_law 874 = .ok (.iaload, 1) := by decide +kernel
theorem dL_law_875 : decode cL_law 875 = .ok (.invokevirtual 130, 3) := by decide +kernel
theorem dL_law_878 : decode cL_law 878 = .ok (.aload_n 2, 1) := by decide +kernel
theorem dL_law_879 : decode cL_law 879 = .ok (.aload_n 0, 1) := by decide +kernel
theorem dL_law_880 : decode cL_law 880 = .ok (.iload_n 3, 1) := by decide +kernel
theorem dL_law_881 : decode cL_law 881 = .ok (.iconst 1, 1) := by decide +kernel
theorem dL_law_882 : decode cL_law 882 = .ok (.iadd, 1) := by decide +kernel
theorem dL_law_883 : decode cL_law 883 = .ok (.iaload, 1) := by decide +kernel
theorem dL_law_884 : decode cL_law 884 = .ok (.aload_n 0, 1) := by decide +kernel
theorem dL_law_885 : decode cL_law 885 = .ok (.iload_n 3, 1) := by decide +kernel
theorem dL_law_886 : decode cL_law 886 = .ok (.iconst 2, 1) := by decide +kernel
theorem dL_law_887 : decode cL_law 887 = .ok (.iadd, 1) := by decide +kernel
theorem dL_law_888 : decode cL_law 888 = .ok (.iaload, 1) := by decide +kernel
theorem dL_law_889 : decode cL_law 889 = .ok (.invokevirtual 133, 3) := by decide +kernel
theorem dL_law_892 : decode cL_law 892 = .ok (.if_icmp .eq 549, 3) := by decide +kernel
theorem dL_law_895 : decode cL_law 895 = .ok (.iconst 0, 1) := by decide +kernel
theorem dL_law_896 : decode cL_law 896 = .ok (.ireturn, 1) := by decide +kernel
theorem dL_law_897 : decode cL_law 897 = .ok (.aload_n 1, 1) := by decide +kernel
theorem dL_law_898 : decode cL_law 898 = .ok (.aload_n 0, 1) := by decide +kernel
theorem dL_law_899 : decode cL_law 899 = .ok (.iload_n 3, 1) := by decide +kernel
theorem dL_law_900 : decode cL_law 900 = .ok (.iconst 1, 1) := by decide +kernel
theorem dL_law_901 : decode cL_law 901 = .ok (.iadd, 1) := by decide +kernel
theorem dL_law_902 : decode cL_law 902 = .ok (.iaload, 1) := by decide +kernel
theorem dL_law_903 : decode cL_law 903 = .ok (.aload_n 0, 1) := by decide +kernel
theorem dL_law_904 : decode cL_law 904 = .ok (.iload_n 3, 1) := by decide +kernel
theorem dL_law_905 : decode cL_law 905 = .ok (.iconst 2, 1) := by decide +kernel
theorem dL_law_906 : decode cL_law 906 = .ok (.iadd, 1) := by decide +kernel
theorem dL_law_907 : decode cL_law 907 = .ok (.iaload, 1) := by decide +kernel
theorem dL_law_908 : decode cL_law 908 = .ok (.invokevirtual 134, 3) := by decide +kernel
theorem dL_law_911 : decode cL_law 911 = .ok (.aload_n 2, 1) := by decide +kernel
theorem dL_law_912 : decode cL_law 912 = .ok (.aload_n 0, 1) := by decide +kernel
theorem dL_law_913 : decode cL_law 913 = .ok (.iload_n 3, 1) := by decide +kernel
theorem dL_law_914 : decode cL_law 914 = .ok (.iconst 1, 1) := by decide +kernel
theorem dL_law_915 : decode cL_law 915 = .ok (.iadd, 1) := by decide +kernel
theorem dL_law_916 : decode cL_law 916 = .ok (.iaload, 1) := by decide +kernel
theorem dL_law_917 : decode cL_law 917 = .ok (.aload_n 0, 1) := by decide +kernel
theorem dL_law_918 : decode cL_law 918 = .ok (.iload_n 3, 1) := by decide +kernel
theorem dL_law_919 : decode cL_law 919 = .ok (.iconst 2, 1) := by decide +kernel
theorem dL_law_920 : decode cL_law 920 = .ok (.iadd, 1) := by decide +kernel
theorem dL_law_921 : decode cL_law 921 = .ok (.iaload, 1) := by decide +kernel
theorem dL_law_922 : decode cL_law 922 = .ok (.invokevirtual 137, 3) := by decide +kernel
theorem dL_law_925 : decode cL_law 925 = .ok (.if_icmp .eq 516, 3) := by decide +kernel
theorem dL_law_928 : decode cL_law 928 = .ok (.iconst 0, 1) := by decide +kernel
theorem dL_law_929 : decode cL_law 929 = .ok (.ireturn, 1) := by decide +kernel
theorem dL_law_930 : decode cL_law 930 = .ok (.aload_n 1, 1) := by decide +kernel
theorem dL_law_931 : decode cL_law 931 = .ok (.invokevirtual 138, 3) := by decide +kernel
theorem dL_law_934 : decode cL_law 934 = .ok (.aload_n 2, 1) := by decide +kernel
theorem dL_law_935 : decode cL_law 935 = .ok (.invokevirtual 141, 3) := by decide +kernel
theorem dL_law_938 : decode cL_law 938 = .ok (.if_icmp .eq 503, 3) := by decide +kernel
theorem dL_law_941 : decode cL_law 941 = .ok (.iconst 0, 1) := by decide +kernel
theorem dL_law_942 : decode cL_law 942 = .ok (.ireturn, 1) := by decide +kernel
theorem dL_law_943 : decode cL_law 943 = .ok (.aload_n 1, 1) := by decide +kernel
theorem dL_law_944 : decode cL_law 944 = .ok (.aload_n 0, 1) := by decide +kernel
theorem dL_law_945 : decode cL_law 945 = .ok (.iload_n 3, 1) := by decide +kernel
theorem dL_law_946 : decode cL_law 946 = .ok (.iconst 1, 1) := by decide +kernel
theorem dL_law_947 : decode cL_law 947 = .ok (.iadd, 1) := by decide +kernel
theorem dL_law_948 : decode cL_law 948 = .ok (.iaload, 1) := by decide +kernel
theorem dL_law_949 : decode cL_law 949 = .ok (.invokevirtual 142, 3) := by decide +kernel
theorem dL_law_952 : decode cL_law 952 = .ok (.aload_n 2, 1) := by decide +kernel
theorem dL_law_953 : decode cL_law 953 = .ok (.aload_n 0, 1) := by decide +kernel
theorem dL_law_954 : decode cL_law 954 = .ok (.iload_n 3, 1) := by decide +kernel
theorem dL_law_955 : decode cL_law 955 = .ok (.iconst 1, 1) := by decide +kernel
theorem dL_law_956 : decode cL_law 956 = .ok (.iadd, 1) := by decide +kernel
theorem dL_law_957 : decode cL_law 957 = .ok (.iaload, 1) := by decide +kernel
theorem dL_law_958 : decode cL_law 958 = .ok (.invokevirtual 145, 3) := by decide +kernel
theorem dL_law_961 : decode cL_law 961 = .ok (.if_icmp .eq 480, 3) := by decide +kernel
theorem dL_law_964 : decode cL_law 964 = .ok (.iconst 0, 1) := by decide +kernel
theorem dL_law_965 : decode cL_law 965 = .ok (.ireturn, 1) := by decide +kernel
theorem dL_law_966 : decode cL_law 966 = .ok (.aload_n 1, 1) := by decide +kernel
theorem dL_law_967 : decode cL_law 967 = .ok (.invokevirtual 146, 3) := by decide +kernel
theorem dL_law_970 : decode cL_law 970 = .ok (.aload_n 2, 1) := by decide +kernel
theorem dL_law_971 : decode cL_law 971 = .ok (.invokevirtual 149, 3) := by decide +kernel
theorem dL_law_974 : decode cL_law 974 = .ok (.if_icmp .eq 467, 3) := by decide +kernel
theorem dL_law_977 : decode cL_law 977 = .ok (.iconst 0, 1) := by decide +kernel
theorem dL_law_978 : decode cL_law 978 = .ok (.ireturn, 1) := by decide +kernel
theorem dL_law_979 : decode cL_law 979 = .ok (.aload_n 1, 1) := by decide +kernel
theorem dL_law_980 : decode cL_law 980 = .ok (.aload_n 0, 1) := by decide +kernel
theorem dL_law_981 : decode cL_law 981 = .ok (.iload_n 3, 1) := by decide +kernel
theorem dL_law_982 : decode cL_law 982 = .ok (.iconst 1, 1) := by decide +kernel
theorem dL_law_983 : decode cL_law 983 = .ok (.iadd, 1) := by decide +kernel
theorem dL_law_984 : decode cL_law 984 = .ok (.iaload, 1) := by decide +kernel
theorem dL_law_985 : decode cL_law 985 = .ok (.invokevirtual 150, 3) := by decide +kernel
theorem dL_law_988 : decode cL_law 988 = .ok (.aload_n 2, 1) := by decide +kernel
theorem dL_law_989 : decode cL_law 989 = .ok (.aload_n 0, 1) := by decide +kernel
theorem dL_law_990 : decode cL_law 990 = .ok (.iload_n 3, 1) := by decide +kernel
theorem dL_law_991 : decode cL_law 991 = .ok (.iconst 1, 1) := by decide +kernel
theorem dL_law_992 : decode cL_law 992 = .ok (.iadd, 1) := by decide +kernel
theorem dL_law_993 : decode cL_law 993 = .ok (.iaload, 1) := by decide +kernel
theorem dL_law_994 : decode cL_law 994 = .ok (.invokevirtual 153, 3) := by decide +kernel
theorem dL_law_997 : decode cL_law 997 = .ok (.if_icmp .eq 444, 3) := by decide +kernel
theorem dL_law_1000 : decode cL_law 1000 = .ok (.iconst 0, 1) := by decide +kernel
theorem dL_law_1001 : decode cL_law 1001 = .ok (.ireturn, 1) := by decide +kernel
theorem dL_law_1002 : decode cL_law 1002 = .ok (.aload_n 1, 1) := by decide +kernel
theorem dL_law_1003 : decode cL_law 1003 = .ok (.aload_n 0, 1) := by decide +kernel
theorem dL_law_1004 : decode cL_law 1004 = .ok (.iload_n 3, 1) := by decide +kernel
theorem dL_law_1005 : decode cL_law 1005 = .ok (.iconst 1, 1) := by decide +kernel
theorem dL_law_1006 : decode cL_law 1006 = .ok (.iadd, 1) := by decide +kernel
theorem dL_law_1007 : decode cL_law 1007 = .ok (.iaload, 1) := by decide +kernel
theorem dL_law_1008 : decode cL_law 1008 = .ok (.aload_n 0, 1) := by decide +kernel
theorem dL_law_1009 : decode cL_law 1009 = .ok (.iload_n 3, 1) := by decide +kernel
theorem dL_law_1010 : decode cL_law 1010 = .ok (.iconst 2, 1) := by decide +kernel
theorem dL_law_1011 : decode cL_law 1011 = .ok (.iadd, 1) := by decide +kernel
theorem dL_law_1012 : decode cL_law 1012 = .ok (.iaload, 1) := by decide +kernel
theorem dL_law_1013 : decode cL_law 1013 = .ok (.invokevirtual 154, 3) := by decide +kernel
theorem dL_law_1016 : decode cL_law 1016 = .ok (.aload_n 2, 1) := by decide +kernel
theorem dL_law_1017 : decode cL_law 1017 = .ok (.aload_n 0, 1) := by decide +kernel
theorem dL_law_1018 : decode cL_law 1018 = .ok (.iload_n 3, 1) := by decide +kernel
theorem dL_law_1019 : decode cL_law 1019 = .ok (.iconst 1, 1) := by decide +kernel
theorem dL_law_1020 : decode cL_law 1020 = .ok (.iadd, 1) := by decide +kernel
theorem dL_law_1021 : decode cL_law 1021 = .ok (.iaload, 1) := by decide +kernel
theorem dL_law_1022 : decode cL_law 1022 = .ok (.aload_n 0, 1) := by decide +kernel
theorem dL_law_1023 : decode cL_law 1023 = .ok (.iload_n 3, 1) := by decide +kernel
theorem dL_law_1024 : decode cL_law 1024 = .ok (.iconst 2, 1) := by decide +kernel
theorem dL_law_1025 : decode cL_law 1025 = .ok (.iadd, 1) := by decide +kernel
theorem dL_law_1026 : decode cL_law 1026 = .ok (.iaload, 1) := by decide +kernel
theorem dL_law_1027 : decode cL_law 1027 = .ok (.invokevirtual 157, 3) := by decide +kernel
theorem dL_law_1030 : decode cL_law 1030 = .ok (.if_icmp .eq 411, 3) := by decide +kernel
theorem dL_law_1033 : decode cL_law 1033 = .ok (.iconst 0, 1) := by decide +kernel
theorem dL_law_1034 : decode cL_law 1034 = .ok (.ireturn, 1) := by decide +kernel
theorem dL_law_1035 : decode cL_law 1035 = .ok (.aload_n 1, 1) := by decide +kernel
theorem dL_law_1036 : decode cL_law 1036 = .ok (.aload_n 0, 1) := by decide +kernel
theorem dL_law_1037 : decode cL_law 1037 = .ok (.iload_n 3, 1) := by decide +kernel
theorem dL_law_1038 : decode cL_law 1038 = .ok (.iconst 1, 1) := by decide +kernel
theorem dL_law_1039 : decode cL_law 1039 = .ok (.iadd, 1) := by decide +kernel
theorem dL_law_1040 : decode cL_law 1040 = .ok (.iaload, 1) := by decide +kernel
theorem dL_law_1041 : decode cL_law 1041 = .ok (.aload_n 0, 1) := by decide +kernel
theorem dL_law_1042 : decode cL_law 1042 = .ok (.iload_n 3, 1) := by decide +kernel
theorem dL_law_1043 : decode cL_law 1043 = .ok (.iconst 2, 1) := by decide +kernel
theorem dL_law_1044 : decode cL_law 1044 = .ok (.iadd, 1) := by decide +kernel
theorem dL_law_1045 : decode cL_law 1045 = .ok (.iaload, 1) := by decide +kernel
theorem dL_law_1046 : decode cL_law 1046 = .ok (.invokevirtual 158, 3) := by decide +kernel
theorem dL_law_1049 : decode cL_law 1049 = .ok (.aload_n 2, 1) := by decide +kernel
theorem dL_law_1050 : decode cL_law 1050 = .ok (.aload_n 0, 1) := by decide +kernel
theorem dL_law_1051 : decode cL_law 1051 = .ok (.iload_n 3, 1) := by decide +kernel
theorem dL_law_1052 : decode cL_law 1052 = .ok (.iconst 1, 1) := by decide +kernel
theorem dL_law_1053 : decode cL_law 1053 = .ok (.iadd, 1) := by decide +kernel
theorem dL_law_1054 : decode cL_law 1054 = .ok (.iaload, 1) := by decide +kernel
theorem dL_law_1055 : decode cL_law 1055 = .ok (.aload_n 0, 1) := by decide +kernel
theorem dL_law_1056 : decode cL_law 1056 = .ok (.iload_n 3, 1) := by decide +kernel
theorem dL_law_1057 : decode cL_law 1057 = .ok (.iconst 2, 1) := by decide +kernel
theorem dL_law_1058 : decode cL_law 1058 = .ok (.iadd, 1) := by decide +kernel
theorem dL_law_1059 : decode cL_law 1059 = .ok (.iaload, 1) := by decide +kernel
theorem dL_law_1060 : decode cL_law 1060 = .ok (.invokevirtual 161, 3) := by decide +kernel
theorem dL_law_1063 : decode cL_law 1063 = .ok (.if_icmp .eq 378, 3) := by decide +kernel
theorem dL_law_1066 : decode cL_law 1066 = .ok (.iconst 0, 1) := by decide +kernel
theorem dL_law_1067 : decode cL_law 1067 = .ok (.ireturn, 1) := by decide +kernel
theorem dL_law_1068 : decode cL_law 1068 = .ok (.aload_n 1, 1) := by decide +kernel
theorem dL_law_1069 : decode cL_law 1069 = .ok (.aload_n 0, 1) := by decide +kernel
theorem dL_law_1070 : decode cL_law 1070 = .ok (.iload_n 3, 1) := by decide +kernel
theorem dL_law_1071 : decode cL_law 1071 = .ok (.iconst 1, 1) := by decide +kernel
theorem dL_law_1072 : decode cL_law 1072 = .ok (.iadd, 1) := by decide +kernel
theorem dL_law_1073 : decode cL_law 1073 = .ok (.iaload, 1) := by decide +kernel
theorem dL_law_1074 : decode cL_law 1074 = .ok (.invokevirtual 162, 3) := by decide +kernel
theorem dL_law_1077 : decode cL_law 1077 = .ok (.aload_n 2, 1) := by decide +kernel
theorem dL_law_1078 : decode cL_law 1078 = .ok (.aload_n 0, 1) := by decide +kernel
theorem dL_law_1079 : decode cL_law 1079 = .ok (.iload_n 3, 1) := by decide +kernel
theorem dL_law_1080 : decode cL_law 1080 = .ok (.iconst 1, 1) := by decide +kernel
theorem dL_law_1081 : decode cL_law 1081 = .ok (.iadd, 1) := by decide +kernel
theorem dL_law_1082 : decode cL_law 1082 = .ok (.iaload, 1) := by decide +kernel
theorem dL_law_1083 : decode cL_law 1083 = .ok (.invokevirtual 165, 3) := by decide +kernel
theorem dL_law_1086 : decode cL_law 1086 = .ok (.if_icmp .eq 355, 3) := by decide +kernel
theorem dL_law_1089 : decode cL_law 1089 = .ok (.iconst 0, 1) := by decide +kernel
theorem dL_law_1090 : decode cL_law 1090 = .ok (.ireturn, 1) := by decide +kernel
theorem dL_law_1091 : decode cL_law 1091 = .ok (.aload_n 1, 1) := by decide +kernel
theorem dL_law_1092 : decode cL_law 1092 = .ok (.aload_n 0, 1) := by decide +kernel
theorem dL_law_1093 : decode cL_law 1093 = .ok (.iload_n 3, 1) := by decide +kernel
theorem dL_law_1094 : decode cL_law 1094 = .ok (.iconst 1, 1) := by decide +kernel
theorem dL_law_1095 : decode cL_law 1095 = .ok (.iadd, 1) := by decide +kernel
theorem dL_law_1096 : decode cL_law 1096 = .ok (.iaload, 1) := by decide +kernel
theorem dL_law_1097 : decode cL_law 1097 = .ok (.aload_n 0, 1) := by decide +kernel
theorem dL_law_1098 : decode cL_law 1098 = .ok (.iload_n 3, 1) := by decide +kernel
theorem dL_law_1099 : decode cL_law 1099 = .ok (.iconst 2, 1) := by decide +kernel
theorem dL_law_1100 : decode cL_law 1100 = .ok (.iadd, 1) := by decide +kernel
theorem dL_law_1101 : decode cL_law 1101 = .ok (.iaload, 1) := by decide +kernel
theorem dL_law_1102 : decode cL_law 1102 = .ok (.invokevirtual 166, 3) := by decide +kernel
theorem dL_law_1105 : decode cL_law 1105 = .ok (.aload_n 2, 1) := by decide +kernel
theorem dL_law_1106 : decode cL_law 1106 = .ok (.aload_n 0, 1) := by decide +kernel
theorem dL_law_1107 : decode cL_law 1107 = .ok (.iload_n 3, 1) := by decide +kernel
theorem dL_law_1108 : decode cL_law 1108 = .ok (.iconst 1, 1) := by decide +kernel
theorem dL_law_1109 : decode cL_law 1109 = .ok (.iadd, 1) := by decide +kernel
theorem dL_law_1110 : decode cL_law 1110 = .ok (.iaload, 1) := by decide +kernel
theorem dL_law_1111 : decode cL_law 1111 = .ok (.aload_n 0, 1) := by decide +kernel
theorem dL_law_1112 : decode cL_law 1112 = .ok (.iload_n 3, 1) := by decide +kernel
theorem dL_law_1113 : decode cL_law 1113 = .ok (.iconst 2, 1) := by decide +kernel
theorem dL_law_1114 : decode cL_law 1114 = .ok (.iadd, 1) := by decide +kernel
theorem dL_law_1115 : decode cL_law 1115 = .ok (.iaload, 1) := by decide +kernel
theorem dL_law_1116 : decode cL_law 1116 = .ok (.invokevirtual 169, 3) := by decide +kernel
theorem dL_law_1119 : decode cL_law 1119 = .ok (.if_icmp .eq 322, 3) := by decide +kernel
theorem dL_law_1122 : decode cL_law 1122 = .ok (.iconst 0, 1) := by decide +kernel
theorem dL_law_1123 : decode cL_law 1123 = .ok (.ireturn, 1) := by decide +kernel
theorem dL_law_1124 : decode cL_law 1124 = .ok (.aload_n 1, 1) := by decide +kernel
theorem dL_law_1125 : decode cL_law 1125 = .ok (.aload_n 0, 1) := by decide +kernel
theorem dL_law_1126 : decode cL_law 1126 = .ok (.iload_n 3, 1) := by decide +kernel
theorem dL_law_1127 : decode cL_law 1127 = .ok (.iconst 1, 1) := by decide +kernel
theorem dL_law_1128 : decode cL_law 1128 = .ok (.iadd, 1) := by decide +kernel
theorem dL_law_1129 : decode cL_law 1129 = .ok (.iaload, 1) := by decide +kernel
theorem dL_law_1130 : decode cL_law 1130 = .ok (.aload_n 0, 1) := by decide +kernel
theorem dL_law_1131 : decode cL_law 1131 = .ok (.iload_n 3, 1) := by decide +kernel
theorem dL_law_1132 : decode cL_law 1132 = .ok (.iconst 2, 1) := by decide +kernel
theorem dL_law_1133 : decode cL_law 1133 = .ok (.iadd, 1) := by decide +kernel
theorem dL_law_1134 : decode cL_law 1134 = .ok (.iaload, 1) := by decide +kernel
theorem dL_law_1135 : decode cL_law 1135 = .ok (.invokevirtual 170, 3) := by decide +kernel
theorem dL_law_1138 : decode cL_law 1138 = .ok (.aload_n 2, 1) := by decide +kernel
theorem dL_law_1139 : decode cL_law 1139 = .ok (.aload_n 0, 1) := by decide +kernel
theorem dL_law_1140 : decode cL_law 1140 = .ok (.iload_n 3, 1) := by decide +kernel
theorem dL_law_1141 : decode cL_law 1141 = .ok (.iconst 1, 1) := by decide +kernel
theorem dL_law_1142 : decode cL_law 1142 = .ok (.iadd, 1) := by decide +kernel
theorem dL_law_1143 : decode cL_law 1143 = .ok (.iaload, 1) := by decide +kernel
theorem dL_law_1144 : decode cL_law 1144 = .ok (.aload_n 0, 1) := by decide +kernel
theorem dL_law_1145 : decode cL_law 1145 = .ok (.iload_n 3, 1) := by decide +kernel
theorem dL_law_1146 : decode cL_law 1146 = .ok (.iconst 2, 1) := by decide +kernel
theorem dL_law_1147 : decode cL_law 1147 = .ok (.iadd, 1) := by decide +kernel
theorem dL_law_1148 : decode cL_law 1148 = .ok (.iaload, 1) := by decide +kernel
theorem dL_law_1149 : decode cL_law 1149 = .ok (.invokevirtual 173, 3) := by decide +kernel
theorem dL_law_1152 : decode cL_law 1152 = .ok (.if_icmp .eq 289, 3) := by decide +kernel
theorem dL_law_1155 : decode cL_law 1155 = .ok (.iconst 0, 1) := by decide +kernel
theorem dL_law_1156 : decode cL_law 1156 = .ok (.ireturn, 1) := by decide +kernel
theorem dL_law_1157 : decode cL_law 1157 = .ok (.aload_n 1, 1) := by decide +kernel
theorem dL_law_1158 : decode cL_law 1158 = .ok (.aload_n 0, 1) := by decide +kernel
theorem dL_law_1159 : decode cL_law 1159 = .ok (.iload_n 3, 1) := by decide +kernel
theorem dL_law_1160 : decode cL_law 1160 = .ok (.iconst 1, 1) := by decide +kernel
theorem dL_law_1161 : decode cL_law 1161 = .ok (.iadd, 1) := by decide +kernel
theorem dL_law_1162 : decode cL_law 1162 = .ok (.iaload, 1) := by decide +kernel
theorem dL_law_1163 : decode cL_law 1163 = .ok (.aload_n 0, 1) := by decide +kernel
theorem dL_law_1164 : decode cL_law 1164 = .ok (.iload_n 3, 1) := by decide +kernel
theorem dL_law_1165 : decode cL_law 1165 = .ok (.iconst 2, 1) := by decide +kernel
theorem dL_law_1166 : decode cL_law 1166 = .ok (.iadd, 1) := by decide +kernel
theorem dL_law_1167 : decode cL_law 1167 = .ok (.iaload, 1) := by decide +kernel
theorem dL_law_1168 : decode cL_law 1168 = .ok (.invokevirtual 174, 3) := by decide +kernel
theorem dL_law_1171 : decode cL_law 1171 = .ok (.aload_n 2, 1) := by decide +kernel
theorem dL_law_1172 : decode cL_law 1172 = .ok (.aload_n 0, 1) := by decide +kernel
theorem dL_law_1173 : decode cL_law 1173 = .ok (.iload_n 3, 1) := by decide +kernel
theorem dL_law_1174 : decode cL_law 1174 = .ok (.iconst 1, 1) := by decide +kernel
theorem dL_law_1175 : decode cL_law 1175 = .ok (.iadd, 1) := by decide +kernel
theorem dL_law_1176 : decode cL_law 1176 = .ok (.iaload, 1) := by decide +kernel
theorem dL_law_1177 : decode cL_law 1177 = .ok (.aload_n 0, 1) := by decide +kernel
theorem dL_law_1178 : decode cL_law 1178 = .ok (.iload_n 3, 1) := by decide +kernel
theorem dL_law_1179 : decode cL_law 1179 = .ok (.iconst 2, 1) := by decide +kernel
theorem dL_law_1180 : decode cL_law 1180 = .ok (.iadd, 1) := by decide +kernel
theorem dL_law_1181 : decode cL_law 1181 = .ok (.iaload, 1) := by decide +kernel
theorem dL_law_1182 : decode cL_law 1182 = .ok (.invokevirtual 177, 3) := by decide +kernel
theorem dL_law_1185 : decode cL_law 1185 = .ok (.if_icmp .eq 256, 3) := by decide +kernel
theorem dL_law_1188 : decode cL_law 1188 = .ok (.iconst 0, 1) := by decide +kernel
theorem dL_law_1189 : decode cL_law 1189 = .ok (.ireturn, 1) := by decide +kernel
theorem dL_law_1190 : decode cL_law 1190 = .ok (.aload_n 1, 1) := by decide +kernel
theorem dL_law_1191 : decode cL_law 1191 = .ok (.aload_n 0, 1) := by decide +kernel
theorem dL_law_1192 : decode cL_law 1192 = .ok (.iload_n 3, 1) := by decide +kernel
theorem dL_law_1193 : decode cL_law 1193 = .ok (.iconst 1, 1) := by decide +kernel
theorem dL_law_1194 : decode cL_law 1194 = .ok (.iadd, 1) := by decide +kernel
theorem dL_law_1195 : decode cL_law 1195 = .ok (.iaload, 1) := by decide +kernel
theorem dL_law_1196 : decode cL_law 1196 = .ok (.aload_n 0, 1) := by decide +kernel
theorem dL_law_1197 : decode cL_law 1197 = .ok (.iload_n 3, 1) := by decide +kernel
theorem dL_law_1198 : decode cL_law 1198 = .ok (.iconst 2, 1) := by decide +kernel
theorem dL_law_1199 : decode cL_law 1199 = .ok (.iadd, 1) := by decide +kernel
theorem dL_law_1200 : decode cL_law 1200 = .ok (.iaload, 1) := by decide +kernel
theorem dL_law_1201 : decode cL_law 1201 = .ok (.aload_n 0, 1) := by decide +kernel
theorem dL_law_1202 : decode cL_law 1202 = .ok (.iload_n 3, 1) := by decide +kernel
theorem dL_law_1203 : decode cL_law 1203 = .ok (.iconst 3, 1) := by decide +kernel
theorem dL_law_1204 : decode cL_law 1204 = .ok (.iadd, 1) := by decide +kernel
theorem dL_law_1205 : decode cL_law 1205 = .ok (.iaload, 1) := by decide +kernel
theorem dL_law_1206 : decode cL_law 1206 = .ok (.i2l, 1) := by decide +kernel
theorem dL_law_1207 : decode cL_law 1207 = .ok (.bipush 32, 2) := by decide +kernel
theorem dL_law_1209 : decode cL_law 1209 = .ok (.lshl, 1) := by decide +kernel
theorem dL_law_1210 : decode cL_law 1210 = .ok (.aload_n 0, 1) := by decide +kernel
theorem dL_law_1211 : decode cL_law 1211 = .ok (.iload_n 3, 1) := by decide +kernel
theorem dL_law_1212 : decode cL_law 1212 = .ok (.iconst 4, 1) := by decide +kernel
theorem dL_law_1213 : decode cL_law 1213 = .ok (.iadd, 1) := by decide +kernel
theorem dL_law_1214 : decode cL_law 1214 = .ok (.iaload, 1) := by decide +kernel
theorem dL_law_1215 : decode cL_law 1215 = .ok (.i2l, 1) := by decide +kernel
theorem dL_law_1216 : decode cL_law 1216 = .ok (.ldc2_w 178, 3) := by decide +kernel
theorem dL_law_1219 : decode cL_law 1219 = .ok (.land, 1) := by decide +kernel
theorem dL_law_1220 : decode cL_law 1220 = .ok (.lor, 1) := by decide +kernel
theorem dL_law_1221 : decode cL_law 1221 = .ok (.invokevirtual 180, 3) := by decide +kernel
theorem dL_law_1224 : decode cL_law 1224 = .ok (.aload_n 2, 1) := by decide +kernel
theorem dL_law_1225 : decode cL_law 1225 = .ok (.aload_n 0, 1) := by decide +kernel
theorem dL_law_1226 : decode cL_law 1226 = .ok (.iload_n 3, 1) := by decide +kernel
theorem dL_law_1227 : decode cL_law 1227 = .ok (.iconst 1, 1) := by decide +kernel
theorem dL_law_1228 : decode cL_law 1228 = .ok (.iadd, 1) := by decide +kernel
theorem dL_law_1229 : decode cL_law 1229 = .ok (.iaload, 1) := by decide +kernel
theorem dL_law_1230 : decode cL_law 1230 = .ok (.aload_n 0, 1) := by decide +kernel
theorem dL_law_1231 : decode cL_law 1231 = .ok (.iload_n 3, 1) := by decide +kernel
theorem dL_law_1232 : decode cL_law 1232 = .ok (.iconst 2, 1) := by decide +kernel
theorem dL_law_1233 : decode cL_law 1233 = .ok (.iadd, 1) := by decide +kernel
theorem dL_law_1234 : decode cL_law 1234 = .ok (.iaload, 1) := by decide +kernel
theorem dL_law_1235 : decode cL_law 1235 = .ok (.aload_n 0, 1) := by decide +kernel
theorem dL_law_1236 : decode cL_law 1236 = .ok (.iload_n 3, 1) := by decide +kernel
theorem dL_law_1237 : decode cL_law 1237 = .ok (.iconst 3, 1) := by decide +kernel
theorem dL_law_1238 : decode cL_law 1238 = .ok (.iadd, 1) := by decide +kernel
theorem dL_law_1239 : decode cL_law 1239 = .ok (.iaload, 1) := by decide +kernel
theorem dL_law_1240 : decode cL_law 1240 = .ok (.i2l, 1) := by decide +kernel
theorem dL_law_1241 : decode cL_law 1241 = .ok (.bipush 32, 2) := by decide +kernel
theorem dL_law_1243 : decode cL_law 1243 = .ok (.lshl, 1) := by decide +kernel
theorem dL_law_1244 : decode cL_law 1244 = .ok (.aload_n 0, 1) := by decide +kernel
theorem dL_law_1245 : decode cL_law 1245 = .ok (.iload_n 3, 1) := by decide +kernel
theorem dL_law_1246 : decode cL_law 1246 = .ok (.iconst 4, 1) := by decide +kernel
theorem dL_law_1247 : decode cL_law 1247 = .ok (.iadd, 1) := by decide +kernel
theorem dL_law_1248 : decode cL_law 1248 = .ok (.iaload, 1) := by decide +kernel
theorem dL_law_1249 : decode cL_law 1249 = .ok (.i2l, 1) := by decide +kernel
theorem dL_law_1250 : decode cL_law 1250 = .ok (.ldc2_w 178, 3) := by decide +kernel
theorem dL_law_1253 : decode cL_law 1253 = .ok (.land, 1) := by decide +kernel
theorem dL_law_1254 : decode cL_law 1254 = .ok (.lor, 1) := by decide +kernel
theorem dL_law_1255 : decode cL_law 1255 = .ok (.invokevirtual 184, 3) := by decide +kernel
theorem dL_law_1258 : decode cL_law 1258 = .ok (.if_icmp .eq 183, 3) := by decide +kernel
theorem dL_law_1261 : decode cL_law 1261 = .ok (.iconst 0, 1) := by decide +kernel
theorem dL_law_1262 : decode cL_law 1262 = .ok (.ireturn, 1) := by decide +kernel
theorem dL_law_1263 : decode cL_law 1263 = .ok (.aload_n 1, 1) := by decide +kernel
theorem dL_law_1264 : decode cL_law 1264 = .ok (.aload_n 0, 1) := by decide +kernel
theorem dL_law_1265 : decode cL_law 1265 = .ok (.iload_n 3, 1) := by decide +kernel
theorem dL_law_1266 : decode cL_law 1266 = .ok (.iconst 1, 1) := by decide +kernel
theorem dL_law_1267 : decode cL_law 1267 = .ok (.iadd, 1) := by decide +kernel
theorem dL_law_1268 : decode cL_law 1268 = .ok (.iaload, 1) := by decide +kernel
theorem dL_law_1269 : decode cL_law 1269 = .ok (.aload_n 0, 1) := by decide +kernel
theorem dL_law_1270 : decode cL_law 1270 = .ok (.iload_n 3, 1) := by decide +kernel
theorem dL_law_1271 : decode cL_law 1271 = .ok (.iconst 2, 1) := by decide +kernel
theorem dL_law_1272 : decode cL_law 1272 = .ok (.iadd, 1) := by decide +kernel
theorem dL_law_1273 : decode cL_law 1273 = .ok (.iaload, 1) := by decide +kernel
theorem dL_law_1274 : decode cL_law 1274 = .ok (.invokevirtual 185, 3) := by decide +kernel
theorem dL_law_1277 : decode cL_law 1277 = .ok (.aload_n 2, 1) := by decide +kernel
theorem dL_law_1278 : decode cL_law 1278 = .ok (.aload_n 0, 1) := by decide +kernel
theorem dL_law_1279 : decode cL_law 1279 = .ok (.iload_n 3, 1) := by decide +kernel
theorem dL_law_1280 : decode cL_law 1280 = .ok (.iconst 1, 1) := by decide +kernel
theorem dL_law_1281 : decode cL_law 1281 = .ok (.iadd, 1) := by decide +kernel
theorem dL_law_1282 : decode cL_law 1282 = .ok (.iaload, 1) := by decide +kernel
theorem dL_law_1283 : decode cL_law 1283 = .ok (.aload_n 0, 1) := by decide +kernel
theorem dL_law_1284 : decode cL_law 1284 = .ok (.iload_n 3, 1) := by decide +kernel
theorem dL_law_1285 : decode cL_law 1285 = .ok (.iconst 2, 1) := by decide +kernel
theorem dL_law_1286 : decode cL_law 1286 = .ok (.iadd, 1) := by decide +kernel
theorem dL_law_1287 : decode cL_law 1287 = .ok (.iaload, 1) := by decide +kernel
theorem dL_law_1288 : decode cL_law 1288 = .ok (.invokevirtual 189, 3) := by decide +kernel
theorem dL_law_1291 : decode cL_law 1291 = .ok (.lcmp, 1) := by decide +kernel
theorem dL_law_1292 : decode cL_law 1292 = .ok (.ifCond .eq 149, 3) := by decide +kernel
theorem dL_law_1295 : decode cL_law 1295 = .ok (.iconst 0, 1) := by decide +kernel
theorem dL_law_1296 : decode cL_law 1296 = .ok (.ireturn, 1) := by decide +kernel
theorem dL_law_1297 : decode cL_law 1297 = .ok (.aload_n 1, 1) := by decide +kernel
theorem dL_law_1298 : decode cL_law 1298 = .ok (.aload_n 0, 1) := by decide +kernel
theorem dL_law_1299 : decode cL_law 1299 = .ok (.iload_n 3, 1) := by decide +kernel
theorem dL_law_1300 : decode cL_law 1300 = .ok (.iconst 1, 1) := by decide +kernel
theorem dL_law_1301 : decode cL_law 1301 = .ok (.iadd, 1) := by decide +kernel
theorem dL_law_1302 : decode cL_law 1302 = .ok (.iaload, 1) := by decide +kernel
theorem dL_law_1303 : decode cL_law 1303 = .ok (.invokevirtual 190, 3) := by decide +kernel
theorem dL_law_1306 : decode cL_law 1306 = .ok (.aload_n 2, 1) := by decide +kernel
theorem dL_law_1307 : decode cL_law 1307 = .ok (.aload_n 0, 1) := by decide +kernel
theorem dL_law_1308 : decode cL_law 1308 = .ok (.iload_n 3, 1) := by decide +kernel
theorem dL_law_1309 : decode cL_law 1309 = .ok (.iconst 1, 1) := by decide +kernel
theorem dL_law_1310 : decode cL_law 1310 = .ok (.iadd, 1) := by decide +kernel
theorem dL_law_1311 : decode cL_law 1311 = .ok (.iaload, 1) := by decide +kernel
theorem dL_law_1312 : decode cL_law 1312 = .ok (.invokevirtual 193, 3) := by decide +kernel
theorem dL_law_1315 : decode cL_law 1315 = .ok (.if_icmp .eq 126, 3) := by decide +kernel
theorem dL_law_1318 : decode cL_law 1318 = .ok (.iconst 0, 1) := by decide +kernel
theorem dL_law_1319 : decode cL_law 1319 = .ok (.ireturn, 1) := by decide +kernel
theorem dL_law_1320 : decode cL_law 1320 = .ok (.aload_n 1, 1) := by decide +kernel
theorem dL_law_1321 : decode cL_law 1321 = .ok (.aload_n 0, 1) := by decide +kernel
theorem dL_law_1322 : decode cL_law 1322 = .ok (.iload_n 3, 1) := by decide +kernel
theorem dL_law_1323 : decode cL_law 1323 = .ok (.iconst 1, 1) := by decide +kernel
theorem dL_law_1324 : decode cL_law 1324 = .ok (.iadd, 1) := by decide +kernel
theorem dL_law_1325 : decode cL_law 1325 = .ok (.iaload, 1) := by decide +kernel
theorem dL_law_1326 : decode cL_law 1326 = .ok (.invokevirtual 194, 3) := by decide +kernel
theorem dL_law_1329 : decode cL_law 1329 = .ok (.aload_n 2, 1) := by decide +kernel
theorem dL_law_1330 : decode cL_law 1330 = .ok (.aload_n 0, 1) := by decide +kernel
theorem dL_law_1331 : decode cL_law 1331 = .ok (.iload_n 3, 1) := by decide +kernel
theorem dL_law_1332 : decode cL_law 1332 = .ok (.iconst 1, 1) := by decide +kernel
theorem dL_law_1333 : decode cL_law 1333 = .ok (.iadd, 1) := by decide +kernel
theorem dL_law_1334 : decode cL_law 1334 = .ok (.iaload, 1) := by decide +kernel
theorem dL_law_1335 : decode cL_law 1335 = .ok (.invokevirtual 197, 3) := by decide +kernel
theorem dL_law_1338 : decode cL_law 1338 = .ok (.if_icmp .eq 103, 3) := by decide +kernel
theorem dL_law_1341 : decode cL_law 1341 = .ok (.iconst 0, 1) := by decide +kernel
theorem dL_law_1342 : decode cL_law 1342 = .ok (.ireturn, 1) := by decide +kernel
theorem dL_law_1343 : decode cL_law 1343 = .ok (.aload_n 1, 1) := by decide +kernel
theorem dL_law_1344 : decode cL_law 1344 = .ok (.invokevirtual 198, 3) := by decide +kernel
theorem dL_law_1347 : decode cL_law 1347 = .ok (.aload_n 2, 1) := by decide +kernel
theorem dL_law_1348 : decode cL_law 1348 = .ok (.invokevirtual 201, 3) := by decide +kernel
theorem dL_law_1351 : decode cL_law 1351 = .ok (.if_icmp .eq 90, 3) := by decide +kernel
theorem dL_law_1354 : decode cL_law 1354 = .ok (.iconst 0, 1) := by decide +kernel
theorem dL_law_1355 : decode cL_law 1355 = .ok (.ireturn, 1) := by decide +kernel
theorem dL_law_1356 : decode cL_law 1356 = .ok (.aload_n 1, 1) := by decide +kernel
theorem dL_law_1357 : decode cL_law 1357 = .ok (.invokevirtual 202, 3) := by decide +kernel
theorem dL_law_1360 : decode cL_law 1360 = .ok (.aload_n 2, 1) := by decide +kernel
theorem dL_law_1361 : decode cL_law 1361 = .ok (.invokevirtual 205, 3) := by decide +kernel
theorem dL_law_1364 : decode cL_law 1364 = .ok (.if_icmp .eq 77, 3) := by decide +kernel
theorem dL_law_1367 : decode cL_law 1367 = .ok (.iconst 0, 1) := by decide +kernel
theorem dL_law_1368 : decode cL_law 1368 = .ok (.ireturn, 1) := by decide +kernel
theorem dL_law_1369 : decode cL_law 1369 = .ok (.aload_n 1, 1) := by decide +kernel
theorem dL_law_1370 : decode cL_law 1370 = .ok (.aload_n 0, 1) := by decide +kernel
theorem dL_law_1371 : decode cL_law 1371 = .ok (.iload_n 3, 1) := by decide +kernel
theorem dL_law_1372 : decode cL_law 1372 = .ok (.iconst 1, 1) := by decide +kernel
theorem dL_law_1373 : decode cL_law 1373 = .ok (.iadd, 1) := by decide +kernel
theorem dL_law_1374 : decode cL_law 1374 = .ok (.iaload, 1) := by decide +kernel
theorem dL_law_1375 : decode cL_law 1375 = .ok (.invokevirtual 206, 3) := by decide +kernel
theorem dL_law_1378 : decode cL_law 1378 = .ok (.aload_n 2, 1) := by decide +kernel
theorem dL_law_1379 : decode cL_law 1379 = .ok (.aload_n 0, 1) := by decide +kernel
theorem dL_law_1380 : decode cL_law 1380 = .ok (.iload_n 3, 1) := by decide +kernel
theorem dL_law_1381 : decode cL_law 1381 = .ok (.iconst 1, 1) := by decide +kernel
theorem dL_law_1382 : decode cL_law 1382 = .ok (.iadd, 1) := by decide +kernel
theorem dL_law_1383 : decode cL_law 1383 = .ok (.iaload, 1) := by decide +kernel
theorem dL_law_1384 : decode cL_law 1384 = .ok (.invokevirtual 209, 3) := by decide +kernel
theorem dL_law_1387 : decode cL_law 1387 = .ok (.if_icmp .eq 54, 3) := by decide +kernel
theorem dL_law_1390 : decode cL_law 1390 = .ok (.iconst 0, 1) := by decide +kernel
theorem dL_law_1391 : decode cL_law 1391 = .ok (.ireturn, 1) := by decide +kernel
theorem dL_law_1392 : decode cL_law 1392 = .ok (.aload_n 1, 1) := by decide +kernel
theorem dL_law_1393 : decode cL_law 1393 = .ok (.invokevirtual 210, 3) := by decide +kernel
theorem dL_law_1396 : decode cL_law 1396 = .ok (.aload_n 2, 1) := by decide +kernel
theorem dL_law_1397 : decode cL_law 1397 = .ok (.invokevirtual 213, 3) := by decide +kernel
theorem dL_law_1400 : decode cL_law 1400 = .ok (.if_icmp .eq 41, 3) := by decide +kernel
theorem dL_law_1403 : decode cL_law 1403 = .ok (.iconst 0, 1) := by decide +kernel
theorem dL_law_1404 : decode cL_law 1404 = .ok (.ireturn, 1) := by decide +kernel
theorem dL_law_1405 : decode cL_law 1405 = .ok (.aload_n 1, 1) := by decide +kernel
theorem dL_law_1406 : decode cL_law 1406 = .ok (.invokevirtual 214, 3) := by decide +kernel
theorem dL_law_1409 : decode cL_law 1409 = .ok (.aload_n 2, 1) := by decide +kernel
theorem dL_law_1410 : decode cL_law 1410 = .ok (.invokevirtual 217, 3) := by decide +kernel
theorem dL_law_1413 : decode cL_law 1413 = .ok (.if_icmp .eq 28, 3) := by decide +kernel
theorem dL_law_1416 : decode cL_law 1416 = .ok (.iconst 0, 1) := by decide +kernel
theorem dL_law_1417 : decode cL_law 1417 = .ok (.ireturn, 1) := by decide +kernel
theorem dL_law_1418 : decode cL_law 1418 = .ok (.aload_n 1, 1) := by decide +kernel
theorem dL_law_1419 : decode cL_law 1419 = .ok (.aload_n 0, 1) := by decide +kernel
theorem dL_law_1420 : decode cL_law 1420 = .ok (.iload_n 3, 1) := by decide +kernel
theorem dL_law_1421 : decode cL_law 1421 = .ok (.iconst 1, 1) := by decide +kernel
theorem dL_law_1422 : decode cL_law 1422 = .ok (.iadd, 1) := by decide +kernel
theorem dL_law_1423 : decode cL_law 1423 = .ok (.iaload, 1) := by decide +kernel
theorem dL_law_1424 : decode cL_law 1424 = .ok (.invokevirtual 218, 3) := by decide +kernel
theorem dL_law_1427 : decode cL_law 1427 = .ok (.aload_n 2, 1) := by decide +kernel
theorem dL_law_1428 : decode cL_law 1428 = .ok (.aload_n 0, 1) := by decide +kernel
theorem dL_law_1429 : decode cL_law 1429 = .ok (.iload_n 3, 1) := by decide +kernel
theorem dL_law_1430 : decode cL_law 1430 = .ok (.iconst 1, 1) := by decide +kernel
theorem dL_law_1431 : decode cL_law 1431 = .ok (.iadd, 1) := by decide +kernel
theorem dL_law_1432 : decode cL_law 1432 = .ok (.iaload, 1) := by decide +kernel
theorem dL_law_1433 : decode cL_law 1433 = .ok (.invokevirtual 221, 3) := by decide +kernel
theorem dL_law_1436 : decode cL_law 1436 = .ok (.if_icmp .eq 5, 3) := by decide +kernel
theorem dL_law_1439 : decode cL_law 1439 = .ok (.iconst 0, 1) := by decide +kernel
theorem dL_law_1440 : decode cL_law 1440 = .ok (.ireturn, 1) := by decide +kernel
theorem dL_law_1441 : decode cL_law 1441 = .ok (.iinc 3 5, 3) := by decide +kernel
theorem dL_law_1444 : decode cL_law 1444 = .ok (.goto (-1426), 3) := by decide +kernel
theorem dL_law_1447 : decode cL_law 1447 = .ok (.iconst 1, 1) := by decide +kernel
theorem dL_law_1448 : decode cL_law 1448 = .ok (.ireturn, 1) := by decide +kernel
