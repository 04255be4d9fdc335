theorem dX3_bringMessage_6 : decode cX3_bringMessage 6 = .ok (.dup, 1) := by decide +kernel
theorem dX3_bringMessage_7 : decode cX3_bringMessage 7 = .ok (.getfield 29, 3) := by decide +kernel
theorem dX3_bringMessage_10 : decode cX3_bringMessage 10 = .ok (.iconst 1, 1) := by decide +kernel
theorem dX3_bringMessage_11 : decode cX3_bringMessage 11 = .ok (.iadd, 1) := by decide +kernel
theorem dX3_bringMessage_12 : decode cX3_bringMessage 12 = .ok (.putfield 29, 3) := by decide +kernel
theorem dX3_bringMessage_15 : decode cX3_bringMessage 15 = .ok (.aload_n 0, 1) := by decide +kernel
theorem dX3_bringMessage_16 : decode cX3_bringMessage 16 = .ok (.invokevirtual 48, 3) := by decide +kernel
theorem dX3_bringMessage_19 : decode cX3_bringMessage 19 = .ok (.return_, 1) := by decide +kernel
theorem dX3_failMessage_0 : decode cX3_failMessage 0 = .ok (.aload_n 0, 1) := by decide +kernel
theorem dX3_failMessage_1 : decode cX3_failMessage 1 = .ok (.iconst 0, 1) := by decide +kernel
theorem dX3_failMessage_2 : decode cX3_failMessage 2 = .ok (.putfield 25, 3) := by decide +kernel
theorem dX3_failMessage_5 : decode cX3_failMessage 5 = .ok (.aload_n 0, 1) := by decide +kernel
theorem dX3_failMessage_6 : decode cX3_failMessage 6 = .ok (.dup, 1) := by decide +kernel
theorem dX3_failMessage_7 : decode cX3_failMessage 7 = .ok (.getfield 35, 3) := by decide +kernel
theorem dX3_failMessage_10 : decode cX3_failMessage 10 = .ok (.iconst 1, 1) := by decide +kernel
theorem dX3_failMessage_11 : decode cX3_failMessage 11 = .ok (.iadd, 1) := by decide +kernel
theorem dX3_failMessage_12 : decode cX3_failMessage 12 = .ok (.putfield 35, 3) := by decide +kernel
theorem dX3_failMessage_15 : decode cX3_failMessage 15 = .ok (.aload_n 0, 1) := by decide +kernel
theorem dX3_failMessage_16 : decode cX3_failMessage 16 = .ok (.dup, 1) := by decide +kernel
theorem dX3_failMessage_17 : decode cX3_failMessage 17 = .ok (.getfield 41, 3) := by decide +kernel
theorem dX3_failMessage_20 : decode cX3_failMessage 20 = .ok (.iconst 1, 1) := by decide +kernel
theorem dX3_failMessage_21 : decode cX3_failMessage 21 = .ok (.iadd, 1) := by decide +kernel
theorem dX3_failMessage_22 : decode cX3_failMessage 22 = .ok (.putfield 41, 3) := by decide +kernel
theorem dX3_failMessage_25 : decode cX3_failMessage 25 = .ok (.aload_n 0, 1) := by decide +kernel
theorem dX3_failMessage_26 : decode cX3_failMessage 26 = .ok (.getfield 41, 3) := by decide +kernel
theorem dX3_failMessage_29 : decode cX3_failMessage 29 = .ok (.iload_n 1, 1) := by decide +kernel
theorem dX3_failMessage_30 : decode cX3_failMessage 30 = .ok (.if_icmp .lt 17, 3) := by decide +kernel
theorem dX3_failMessage_33 : decode cX3_failMessage 33 = .ok (.aload_n 0, 1) := by decide +kernel
theorem dX3_failMessage_34 : decode cX3_failMessage 34 = .ok (.dup, 1) := by decide +kernel
theorem dX3_failMessage_35 : decode cX3_failMessage 35 = .ok (.getfield 38, 3) := by decide +kernel
theorem dX3_failMessage_38 : decode cX3_failMessage 38 = .ok (.iconst 1, 1) := by decide +kernel
theorem dX3_failMessage_39 : decode cX3_failMessage 39 = .ok (.iadd, 1) := by decide +kernel
theorem dX3_failMessage_40 : decode cX3_failMessage 40 = .ok (.putfield 38, 3) := by decide +kernel
theorem dX3_failMessage_43 : decode cX3_failMessage 43 = .ok (.aload_n 0, 1) := by decide +kernel
theorem dX3_failMessage_44 : decode cX3_failMessage 44 = .ok (.invokevirtual 48, 3) := by decide +kernel
theorem dX3_failMessage_47 : decode cX3_failMessage 47 = .ok (.return_, 1) := by decide +kernel
theorem dX3_part_0 : decode cX3_part 0 = .ok (.iload_n 1, 1) := by decide +kernel
theorem dX3_part_1 : decode cX3_part 1 = .ok (.ifCond .lt 21, 3) := by decide +kernel
theorem dX3_part_4 : decode cX3_part 4 = .ok (.iload_n 1, 1) := by decide +kernel
theorem dX3_part_5 : decode cX3_part 5 = .ok (.iconst 5, 1) := by decide +kernel
theorem dX3_part_6 : decode cX3_part 6 = .ok (.if_icmp .ge 16, 3) := by decide +kernel
theorem dX3_part_9 : decode cX3_part 9 = .ok (.iload_n 2, 1) := by decide +kernel
theorem dX3_part_10 : decode cX3_part 10 = .ok (.ifCond .lt 12, 3) := by decide +kernel
theorem dX3_part_13 : decode cX3_part 13 = .ok (.iload_n 2, 1) := by decide +kernel
theorem dX3_part_14 : decode cX3_part 14 = .ok (.iconst 3, 1) := by decide +kernel
theorem dX3_part_15 : decode cX3_part 15 = .ok (.if_icmp .ge 7, 3) := by decide +kernel
theorem dX3_part_18 : decode cX3_part 18 = .ok (.iconst 1, 1) := by decide +kernel
theorem dX3_part_19 : decode cX3_part 19 = .ok (.goto 4, 3) := by decide +kernel
theorem dX3_part_22 : decode cX3_part 22 = .ok (.iconst 0, 1) := by decide +kernel
theorem dX3_part_23 : decode cX3_part 23 = .ok (.istore_n 3, 1) := by decide +kernel
theorem dX3_part_24 : decode cX3_part 24 = .ok (.iload_n 3, 1) := by decide +kernel
theorem dX3_part_25 : decode cX3_part 25 = .ok (.ifCond .eq 16, 3) := by decide +kernel
theorem dX3_part_28 : decode cX3_part 28 = .ok (.aload_n 0, 1) := by decide +kernel
theorem dX3_part_29 : decode cX3_part 29 = .ok (.getfield 9, 3) := by decide +kernel
theorem dX3_part_32 : decode cX3_part 32 = .ok (.iload_n 1, 1) := by decide +kernel
theorem dX3_part_33 : decode cX3_part 33 = .ok (.iconst 3, 1) := by decide +kernel
theorem dX3_part_34 : decode cX3_part 34 = .ok (.imul, 1) := by decide +kernel
theorem dX3_part_35 : decode cX3_part 35 = .ok (.iload_n 2, 1) := by decide +kernel
theorem dX3_part_36 : decode cX3_part 36 = .ok (.iadd, 1) := by decide +kernel
theorem dX3_part_37 : decode cX3_part 37 = .ok (.iaload, 1) := by decide +kernel
theorem dX3_part_38 : decode cX3_part 38 = .ok (.goto 5, 3) := by decide +kernel
theorem dX3_part_41 : decode cX3_part 41 = .ok (.bipush (-5), 2) := by decide +kernel
theorem dX3_part_43 : decode cX3_part 43 = .ok (.ireturn, 1) := by decide +kernel
theorem dX3_partsAt_0 : decode cX3_partsAt 0 = .ok (.aload_n 0, 1) := by decide +kernel
theorem dX3_partsAt_1 : decode cX3_partsAt 1 = .ok (.iload_n 1, 1) := by decide +kernel
theorem dX3_partsAt_2 : decode cX3_partsAt 2 = .ok (.iconst 2, 1) := by decide +kernel
theorem dX3_partsAt_3 : decode cX3_partsAt 3 = .ok (.invokevirtual 51, 3) := by decide +kernel
theorem dX3_partsAt_6 : decode cX3_partsAt 6 = .ok (.bipush (-5), 2) := by decide +kernel
theorem dX3_partsAt_8 : decode cX3_partsAt 8 = .ok (.if_icmp .ne 7, 3) := by decide +kernel
theorem dX3_partsAt_11 : decode cX3_partsAt 11 = .ok (.iconst 2, 1) := by decide +kernel
theorem dX3_partsAt_12 : decode cX3_partsAt 12 = .ok (.goto 4, 3) := by decide +kernel
theorem dX3_partsAt_15 : decode cX3_partsAt 15 = .ok (.iconst 3, 1) := by decide +kernel
theorem dX3_partsAt_16 : decode cX3_partsAt 16 = .ok (.ireturn, 1) := by decide +kernel
theorem dX4_init_0 : decode cX4_init 0 = .ok (.aload_n 0, 1) := by decide +kernel
theorem dX4_init_1 : decode cX4_init 1 = .ok (.invokespecial 3, 3) := by decide +kernel
theorem dX4_init_4 : decode cX4_init 4 = .ok (.aload_n 0, 1) := by decide +kernel
theorem dX4_init_5 : decode cX4_init 5 = .ok (.iconst 4, 1) := by decide +kernel
theorem dX4_init_6 : decode cX4_init 6 = .ok (.anewarray 9, 3) := by decide +kernel
theorem dX4_init_9 : decode cX4_init 9 = .ok (.putfield 11, 3) := by decide +kernel
theorem dX4_init_12 : decode cX4_init 12 = .ok (.aload_n 0, 1) := by decide +kernel
theorem dX4_init_13 : decode cX4_init 13 = .ok (.iconst 4, 1) := by decide +kernel
theorem dX4_init_14 : decode cX4_init 14 = .ok (.anewarray 17, 3) := by decide +kernel
theorem dX4_init_17 : decode cX4_init 17 = .ok (.putfield 19, 3) := by decide +kernel
theorem dX4_init_20 : decode cX4_init 20 = .ok (.aload_n 0, 1) := by decide +kernel
theorem dX4_init_21 : decode cX4_init 21 = .ok (.iconst 3, 1) := by decide +kernel
theorem dX4_init_22 : decode cX4_init 22 = .ok (.newarray .int, 2) := by decide +kernel
theorem dX4_init_24 : decode cX4_init 24 = .ok (.dup, 1) := by decide +kernel
theorem dX4_init_25 : decode cX4_init 25 = .ok (.iconst 0, 1) := by decide +kernel
theorem dX4_init_26 : decode cX4_init 26 = .ok (.iconst 2, 1) := by decide +kernel
theorem dX4_init_27 : decode cX4_init 27 = .ok (.iastore, 1) := by decide +kernel
theorem dX4_init_28 : decode cX4_init 28 = .ok (.dup, 1) := by decide +kernel
theorem dX4_init_29 : decode cX4_init 29 = .ok (.iconst 1, 1) := by decide +kernel
theorem dX4_init_30 : decode cX4_init 30 = .ok (.iconst 2, 1) := by decide +kernel
theorem dX4_init_31 : decode cX4_init 31 = .ok (.iastore, 1) := by decide +kernel
theorem dX4_init_32 : decode cX4_init 32 = .ok (.dup, 1) := by decide +kernel
theorem dX4_init_33 : decode cX4_init 33 = .ok (.iconst 2, 1) := by decide +kernel
theorem dX4_init_34 : decode cX4_init 34 = .ok (.bipush 10, 2) := by decide +kernel
theorem dX4_init_36 : decode cX4_init 36 = .ok (.iastore, 1) := by decide +kernel
theorem dX4_init_37 : decode cX4_init 37 = .ok (.putfield 23, 3) := by decide +kernel
theorem dX4_init_40 : decode cX4_init 40 = .ok (.aload_n 0, 1) := by decide +kernel
theorem dX4_init_41 : decode cX4_init 41 = .ok (.new 27, 3) := by decide +kernel
theorem dX4_init_44 : decode cX4_init 44 = .ok (.dup, 1) := by decide +kernel
theorem dX4_init_45 : decode cX4_init 45 = .ok (.invokespecial 29, 3) := by decide +kernel
theorem dX4_init_48 : decode cX4_init 48 = .ok (.putfield 30, 3) := by decide +kernel
theorem dX4_init_51 : decode cX4_init 51 = .ok (.iconst 0, 1) := by decide +kernel
theorem dX4_init_52 : decode cX4_init 52 = .ok (.istore_n 1, 1) := by decide +kernel
theorem dX4_init_53 : decode cX4_init 53 = .ok (.iload_n 1, 1) := by decide +kernel
theorem dX4_init_54 : decode cX4_init 54 = .ok (.aload_n 0, 1) := by decide +kernel
theorem dX4_init_55 : decode cX4_init 55 = .ok (.getfield 11, 3) := by decide +kernel
theorem dX4_init_58 : decode cX4_init 58 = .ok (.arraylength, 1) := by decide +kernel
theorem dX4_init_59 : decode cX4_init 59 = .ok (.if_icmp .ge 22, 3) := by decide +kernel
theorem dX4_init_62 : decode cX4_init 62 = .ok (.aload_n 0, 1) := by decide +kernel
theorem dX4_init_63 : decode cX4_init 63 = .ok (.getfield 11, 3) := by decide +kernel
theorem dX4_init_66 : decode cX4_init 66 = .ok (.iload_n 1, 1) := by decide +kernel
theorem dX4_init_67 : decode cX4_init 67 = .ok (.new 9, 3) := by decide +kernel
theorem dX4_init_70 : decode cX4_init 70 = .ok (.dup, 1) := by decide +kernel
theorem dX4_init_71 : decode cX4_init 71 = .ok (.invokespecial 34, 3) := by decide +kernel
theorem dX4_init_74 : decode cX4_init 74 = .ok (.aastore, 1) := by decide +kernel
theorem dX4_init_75 : decode cX4_init 75 = .ok (.iinc 1 1, 3) := by decide +kernel
theorem dX4_init_78 : decode cX4_init 78 = .ok (.goto (-25), 3) := by decide +kernel
theorem dX4_init_81 : decode cX4_init 81 = .ok (.iconst 0, 1) := by decide +kernel
theorem dX4_init_82 : decode cX4_init 82 = .ok (.istore_n 1, 1) := by decide +kernel
theorem dX4_init_83 : decode cX4_init 83 = .ok (.iload_n 1, 1) := by decide +kernel
theorem dX4_init_84 : decode cX4_init 84 = .ok (.aload_n 0, 1) := by decide +kernel
theorem dX4_init_85 : decode cX4_init 85 = .ok (.getfield 19, 3) := by decide +kernel
theorem dX4_init_88 : decode cX4_init 88 = .ok (.arraylength, 1) := by decide +kernel
theorem dX4_init_89 : decode cX4_init 89 = .ok (.if_icmp .ge 22, 3) := by decide +kernel
theorem dX4_init_92 : decode cX4_init 92 = .ok (.aload_n 0, 1) := by decide +kernel
theorem dX4_init_93 : decode cX4_init 93 = .ok (.getfield 19, 3) := by decide +kernel
theorem dX4_init_96 : decode cX4_init 96 = .ok (.iload_n 1, 1) := by decide +kernel
theorem dX4_init_97 : decode cX4_init 97 = .ok (.new 17, 3) := by decide +kernel
theorem dX4_init_100 : decode cX4_init 100 = .ok (.dup, 1) := by decide +kernel
theorem dX4_init_101 : decode cX4_init 101 = .ok (.invokespecial 35, 3) := by decide +kernel
theorem dX4_init_104 : decode cX4_init 104 = .ok (.aastore, 1) := by decide +kernel
theorem dX4_init_105 : decode cX4_init 105 = .ok (.iinc 1 1, 3) := by decide +kernel
theorem dX4_init_108 : decode cX4_init 108 = .ok (.goto (-25), 3) := by decide +kernel
theorem dX4_init_111 : decode cX4_init 111 = .ok (.return_, 1) := by decide +kernel
theorem dX4_copyFrom_0 : decode cX4_copyFrom 0 = .ok (.iconst 0, 1) := by decide +kernel
theorem dX4_copyFrom_1 : decode cX4_copyFrom 1 = .ok (.istore_n 2, 1) := by decide +kernel
theorem dX4_copyFrom_2 : decode cX4_copyFrom 2 = .ok (.iload_n 2, 1) := by decide +kernel
theorem dX4_copyFrom_3 : decode cX4_copyFrom 3 = .ok (.iconst 4, 1) := by decide +kernel
theorem dX4_copyFrom_4 : decode cX4_copyFrom 4 = .ok (.if_icmp .ge 24, 3) := by decide +kernel
theorem dX4_copyFrom_7 : decode cX4_copyFrom 7 = .ok (.aload_n 0, 1) := by decide +kernel
theorem dX4_copyFrom_8 : decode cX4_copyFrom 8 = .ok (.getfield 11, 3) := by decide +kernel
theorem dX4_copyFrom_11 : decode cX4_copyFrom 11 = .ok (.iload_n 2, 1) := by decide +kernel
theorem dX4_copyFrom_12 : decode cX4_copyFrom 12 = .ok (.aaload, 1) := by decide +kernel
theorem dX4_copyFrom_13 : decode cX4_copyFrom 13 = .ok (.aload_n 1, 1) := by decide +kernel
theorem dX4_copyFrom_14 : decode cX4_copyFrom 14 = .ok (.getfield 11, 3) := by decide +kernel
theorem dX4_copyFrom_17 : decode cX4_copyFrom 17 = .ok (.iload_n 2, 1) := by decide +kernel
theorem dX4_copyFrom_18 : decode cX4_copyFrom 18 = .ok (.aaload, 1) := by decide +kernel
theorem dX4_copyFrom_19 : decode cX4_copyFrom 19 = .ok (.invokevirtual 36, 3) := by decide +kernel
theorem dX4_copyFrom_22 : decode cX4_copyFrom 22 = .ok (.iinc 2 1, 3) := by decide +kernel
theorem dX4_copyFrom_25 : decode cX4_copyFrom 25 = .ok (.goto (-23), 3) := by decide +kernel
theorem dX4_copyFrom_28 : decode cX4_copyFrom 28 = .ok (.iconst 0, 1) := by decide +kernel
theorem dX4_copyFrom_29 : decode cX4_copyFrom 29 = .ok (.istore_n 2, 1) := by decide +kernel
theorem dX4_copyFrom_30 : decode cX4_copyFrom 30 = .ok (.iload_n 2, 1) := by decide +kernel
theorem dX4_copyFrom_31 : decode cX4_copyFrom 31 = .ok (.iconst 4, 1) := by decide +kernel
theorem dX4_copyFrom_32 : decode cX4_copyFrom 32 = .ok (.if_icmp .ge 24, 3) := by decide +kernel
theorem dX4_copyFrom_35 : decode cX4_copyFrom 35 = .ok (.aload_n 0, 1) := by decide +kernel
theorem dX4_copyFrom_36 : decode cX4_copyFrom 36 = .ok (.getfield 19, 3) := by decide +kernel
theorem dX4_copyFrom_39 : decode cX4_copyFrom 39 = .ok (.iload_n 2, 1) := by decide +kernel
theorem dX4_copyFrom_40 : decode cX4_copyFrom 40 = .ok (.aaload, 1) := by decide +kernel
theorem dX4_copyFrom_41 : decode cX4_copyFrom 41 = .ok (.aload_n 1, 1) := by decide +kernel
theorem dX4_copyFrom_42 : decode cX4_copyFrom 42 = .ok (.getfield 19, 3) := by decide +kernel
theorem dX4_copyFrom_45 : decode cX4_copyFrom 45 = .ok (.iload_n 2, 1) := by decide +kernel
theorem dX4_copyFrom_46 : decode cX4_copyFrom 46 = .ok (.aaload, 1) := by decide +kernel
theorem dX4_copyFrom_47 : decode cX4_copyFrom 47 = .ok (.invokevirtual 40, 3) := by decide +kernel
theorem dX4_copyFrom_50 : decode cX4_copyFrom 50 = .ok (.iinc 2 1, 3) := by decide +kernel
theorem dX4_copyFrom_53 : decode cX4_copyFrom 53 = .ok (.goto (-23), 3) := by decide +kernel
theorem dX4_copyFrom_56 : decode cX4_copyFrom 56 = .ok (.aload_n 1, 1) := by decide +kernel
theorem dX4_copyFrom_57 : decode cX4_copyFrom 57 = .ok (.getfield 23, 3) := by decide +kernel
theorem dX4_copyFrom_60 : decode cX4_copyFrom 60 = .ok (.iconst 0, 1) := by decide +kernel
theorem dX4_copyFrom_61 : decode cX4_copyFrom 61 = .ok (.aload_n 0, 1) := by decide +kernel
theorem dX4_copyFrom_62 : decode cX4_copyFrom 62 = .ok (.getfield 23, 3) := by decide +kernel
theorem dX4_copyFrom_65 : decode cX4_copyFrom 65 = .ok (.iconst 0, 1) := by decide +kernel
theorem dX4_copyFrom_66 : decode cX4_copyFrom 66 = .ok (.iconst 3, 1) := by decide +kernel
theorem dX4_copyFrom_67 : decode cX4_copyFrom 67 = .ok (.invokestatic 43, 3) := by decide +kernel
theorem dX4_copyFrom_70 : decode cX4_copyFrom 70 = .ok (.aload_n 0, 1) := by decide +kernel
theorem dX4_copyFrom_71 : decode cX4_copyFrom 71 = .ok (.getfield 30, 3) := by decide +kernel
theorem dX4_copyFrom_74 : decode cX4_copyFrom 74 = .ok (.aload_n 1, 1) := by decide +kernel
theorem dX4_copyFrom_75 : decode cX4_copyFrom 75 = .ok (.getfield 30, 3) := by decide +kernel
theorem dX4_copyFrom_78 : decode cX4_copyFrom 78 = .ok (.invokevirtual 49, 3) := by decide +kernel
theorem dX4_copyFrom_81 : decode cX4_copyFrom 81 = .ok (.aload_n 0, 1) := by decide +kernel
theorem dX4_copyFrom_82 : decode cX4_copyFrom 82 = .ok (.aload_n 1, 1) := by decide +kernel
theorem dX4_copyFrom_83 : decode cX4_copyFrom 83 = .ok (.getfield 52, 3) := by decide +kernel
theorem dX4_copyFrom_86 : decode cX4_copyFrom 86 = .ok (.putfield 52, 3) := by decide +kernel
theorem dX4_copyFrom_89 : decode cX4_copyFrom 89 = .ok (.aload_n 0, 1) := by decide +kernel
theorem dX4_copyFrom_90 : decode cX4_copyFrom 90 = .ok (.aload_n 1, 1) := by decide +kernel
theorem dX4_copyFrom_91 : decode cX4_copyFrom 91 = .ok (.getfield 56, 3) := by decide +kernel
theorem dX4_copyFrom_94 : decode cX4_copyFrom 94 = .ok (.putfield 56, 3) := by decide +kernel
theorem dX4_copyFrom_97 : decode cX4_copyFrom 97 = .ok (.aload_n 0, 1) := by decide +kernel
theorem dX4_copyFrom_98 : decode cX4_copyFrom 98 = .ok (.aload_n 1, 1) := by decide +kernel
theorem dX4_copyFrom_99 : decode cX4_copyFrom 99 = .ok (.getfield 59, 3) := by decide +kernel
theorem dX4_copyFrom_102 : decode cX4_copyFrom 102 = .ok (.putfield 59, 3) := by decide +kernel
theorem dX4_copyFrom_105 : decode cX4_copyFrom 105 = .ok (.aload_n 0, 1) := by decide +kernel
theorem dX4_copyFrom_106 : decode cX4_copyFrom 106 = .ok (.aload_n 1, 1) := by decide +kernel
theorem dX4_copyFrom_107 : decode cX4_copyFrom 107 = .ok (.getfield 62, 3) := by decide +kernel
theorem dX4_copyFrom_110 : decode cX4_copyFrom 110 = .ok (.putfield 62, 3) := by decide +kernel
theorem dX4_copyFrom_113 : decode cX4_copyFrom 113 = .ok (.aload_n 0, 1) := by decide +kernel
theorem dX4_copyFrom_114 : decode cX4_copyFrom 114 = .ok (.aload_n 1, 1) := by decide +kernel
theorem dX4_copyFrom_115 : decode cX4_copyFrom 115 = .ok (.getfield 65, 3) := by decide +kernel
theorem dX4_copyFrom_118 : decode cX4_copyFrom 118 = .ok (.putfield 65, 3) := by decide +kernel
theorem dX4_copyFrom_121 : decode cX4_copyFrom 121 = .ok (.aload_n 0, 1) := by decide +kernel
theorem dX4_copyFrom_122 : decode cX4_copyFrom 122 = .ok (.aload_n 1, 1) := by decide +kernel
theorem dX4_copyFrom_123 : decode cX4_copyFrom 123 = .ok (.getfield 68, 3) := by decide +kernel
theorem dX4_copyFrom_126 : decode cX4_copyFrom 126 = .ok (.putfield 68, 3) := by decide +kernel
theorem dX4_copyFrom_129 : decode cX4_copyFrom 129 = .ok (.aload_n 0, 1) := by decide +kernel
theorem dX4_copyFrom_130 : decode cX4_copyFrom 130 = .ok (.aload_n 1, 1) := by decide +kernel
theorem dX4_copyFrom_131 : decode cX4_copyFrom 131 = .ok (.getfield 71, 3) := by decide +kernel
theorem dX4_copyFrom_134 : decode cX4_copyFrom 134 = .ok (.putfield 71, 3) := by decide +kernel
theorem dX4_copyFrom_137 : decode cX4_copyFrom 137 = .ok (.return_, 1) := by decide +kernel
theorem dX4_addMessage_0 : decode cX4_addMessage 0 = .ok (.aload_n 0, 1) := by decide +kernel
theorem dX4_addMessage_1 : decode cX4_addMessage 1 = .ok (.iload_n 1, 1) := by decide +kernel
theorem dX4_addMessage_2 : decode cX4_addMessage 2 = .ok (.invokevirtual 74, 3) := by decide +kernel
theorem dX4_addMessage_5 : decode cX4_addMessage 5 = .ok (.astore 5, 2) := by decide +kernel
theorem dX4_addMessage_7 : decode cX4_addMessage 7 = .ok (.aload 5, 2) := by decide +kernel
theorem dX4_addMessage_9 : decode cX4_addMessage 9 = .ok (.ifnonnull 5, 3) := by decide +kernel
theorem dX4_addMessage_12 : decode cX4_addMessage 12 = .ok (.iconst (-1), 1) := by decide +kernel
theorem dX4_addMessage_13 : decode cX4_addMessage 13 = .ok (.ireturn, 1) := by decide +kernel
theorem dX4_addMessage_14 : decode cX4_addMessage 14 = .ok (.iload_n 2, 1) := by decide +kernel
theorem dX4_addMessage_15 : decode cX4_addMessage 15 = .ok (.sipush 128, 3) := by decide +kernel
theorem dX4_addMessage_18 : decode cX4_addMessage 18 = .ok (.invokestatic 78, 3) := by decide +kernel
theorem dX4_addMessage_21 : decode cX4_addMessage 21 = .ok (.ifCond .eq 13, 3) := by decide +kernel
theorem dX4_addMessage_24 : decode cX4_addMessage 24 = .ok (.iload_n 3, 1) := by decide +kernel
theorem dX4_addMessage_25 : decode cX4_addMessage 25 = .ok (.sipush 256, 3) := by decide +kernel
theorem dX4_addMessage_28 : decode cX4_addMessage 28 = .ok (.invokestatic 78, 3) := by decide +kernel
theorem dX4_addMessage_31 : decode cX4_addMessage 31 = .ok (.ifCond .ne 6, 3) := by decide +kernel
theorem dX4_addMessage_34 : decode cX4_addMessage 34 = .ok (.bipush (-2), 2) := by decide +kernel
theorem dX4_addMessage_36 : decode cX4_addMessage 36 = .ok (.ireturn, 1) := by decide +kernel
theorem dX4_addMessage_37 : decode cX4_addMessage 37 = .ok (.iload 4, 2) := by decide +kernel
theorem dX4_addMessage_39 : decode cX4_addMessage 39 = .ok (.bipush (-5), 2) := by decide +kernel
theorem dX4_addMessage_41 : decode cX4_addMessage 41 = .ok (.if_icmp .eq 17, 3) := by decide +kernel
theorem dX4_addMessage_44 : decode cX4_addMessage 44 = .ok (.iload 4, 2) := by decide +kernel
theorem dX4_addMessage_46 : decode cX4_addMessage 46 = .ok (.sipush 256, 3) := by decide +kernel
theorem dX4_addMessage_49 : decode cX4_addMessage 49 = .ok (.invokestatic 78, 3) := by decide +kernel
theorem dX4_addMessage_52 : decode cX4_addMessage 52 = .ok (.ifCond .ne 6, 3) := by decide +kernel
theorem dX4_addMessage_55 : decode cX4_addMessage 55 = .ok (.bipush (-2), 2) := by decide +kernel
theorem dX4_addMessage_57 : decode cX4_addMessage 57 = .ok (.ireturn, 1) := by decide +kernel
theorem dX4_addMessage_58 : decode cX4_addMessage 58 = .ok (.aload 5, 2) := by decide +kernel
theorem dX4_addMessage_60 : decode cX4_addMessage 60 = .ok (.getfield 82, 3) := by decide +kernel
theorem dX4_addMessage_63 : decode cX4_addMessage 63 = .ok (.iconst 5, 1) := by decide +kernel
theorem dX4_addMessage_64 : decode cX4_addMessage 64 = .ok (.if_icmp .lt 6, 3) := by decide +kernel
theorem dX4_addMessage_67 : decode cX4_addMessage 67 = .ok (.bipush (-3), 2) := by decide +kernel
theorem dX4_addMessage_69 : decode cX4_addMessage 69 = .ok (.ireturn, 1) := by decide +kernel
theorem dX4_addMessage_70 : decode cX4_addMessage 70 = .ok (.aload 5, 2) := by decide +kernel
theorem dX4_addMessage_72 : decode cX4_addMessage 72 = .ok (.iload_n 2, 1) := by decide +kernel
theorem dX4_addMessage_73 : decode cX4_addMessage 73 = .ok (.iload_n 3, 1) := by decide +kernel
theorem dX4_addMessage_74 : decode cX4_addMessage 74 = .ok (.iload 4, 2) := by decide +kernel
theorem dX4_addMessage_76 : decode cX4_addMessage 76 = .ok (.invokevirtual 85, 3) := by decide +kernel
theorem dX4_addMessage_79 : decode cX4_addMessage 79 = .ok (.aload 5, 2) := by decide +kernel
theorem dX4_addMessage_81 : decode cX4_addMessage 81 = .ok (.getfield 82, 3) := by decide +kernel
theorem dX4_addMessage_84 : decode cX4_addMessage 84 = .ok (.ireturn, 1) := by decide +kernel
theorem dX4_dropLast_0 : decode cX4_dropLast 0 = .ok (.aload_n 0, 1) := by decide +kernel
theorem dX4_dropLast_1 : decode cX4_dropLast 1 = .ok (.iload_n 1, 1) := by decide +kernel
theorem dX4_dropLast_2 : decode cX4_dropLast 2 = .ok (.invokevirtual 74, 3) := by decide +kernel
theorem dX4_dropLast_5 : decode cX4_dropLast 5 = .ok (.astore_n 2, 1) := by decide +kernel
theorem dX4_dropLast_6 : decode cX4_dropLast 6 = .ok (.aload_n 2, 1) := by decide +kernel
theorem dX4_dropLast_7 : decode cX4_dropLast 7 = .ok (.ifnonnull 5, 3) := by decide +kernel
theorem dX4_dropLast_10 : decode cX4_dropLast 10 = .ok (.iconst (-1), 1) := by decide +kernel
theorem dX4_dropLast_11 : decode cX4_dropLast 11 = .ok (.ireturn, 1) := by decide +kernel
theorem dX4_dropLast_12 : decode cX4_dropLast 12 = .ok (.aload_n 2, 1) := by decide +kernel
theorem dX4_dropLast_13 : decode cX4_dropLast 13 = .ok (.getfield 82, 3) := by decide +kernel
theorem dX4_dropLast_16 : decode cX4_dropLast 16 = .ok (.iconst 1, 1) := by decide +kernel
theorem dX4_dropLast_17 : decode cX4_dropLast 17 = .ok (.if_icmp .ne 13, 3) := by decide +kernel
theorem dX4_dropLast_20 : decode cX4_dropLast 20 = .ok (.aload_n 2, 1) := by decide +kernel
theorem dX4_dropLast_21 : decode cX4_dropLast 21 = .ok (.getfield 89, 3) := by decide +kernel
theorem dX4_dropLast_24 : decode cX4_dropLast 24 = .ok (.ifCond .eq 6, 3) := by decide +kernel
theorem dX4_dropLast_27 : decode cX4_dropLast 27 = .ok (.bipush (-4), 2) := by decide +kernel
theorem dX4_dropLast_29 : decode cX4_dropLast 29 = .ok (.ireturn, 1) := by decide +kernel
theorem dX4_dropLast_30 : decode cX4_dropLast 30 = .ok (.aload_n 2, 1) := by decide +kernel
theorem dX4_dropLast_31 : decode cX4_dropLast 31 = .ok (.getfield 82, 3) := by decide +kernel
theorem dX4_dropLast_34 : decode cX4_dropLast 34 = .ok (.ifCond .ne 6, 3) := by decide +kernel
theorem dX4_dropLast_37 : decode cX4_dropLast 37 = .ok (.bipush (-5), 2) := by decide +kernel
theorem dX4_dropLast_39 : decode cX4_dropLast 39 = .ok (.ireturn, 1) := by decide +kernel
theorem dX4_dropLast_40 : decode cX4_dropLast 40 = .ok (.aload_n 2, 1) := by decide +kernel
theorem dX4_dropLast_41 : decode cX4_dropLast 41 = .ok (.invokevirtual 93, 3) := by decide +kernel
theorem dX4_dropLast_44 : decode cX4_dropLast 44 = .ok (.aload_n 2, 1) := by decide +kernel
theorem dX4_dropLast_45 : decode cX4_dropLast 45 = .ok (.getfield 82, 3) := by decide +kernel
theorem dX4_dropLast_48 : decode cX4_dropLast 48 = .ok (.ireturn, 1) := by decide +kernel
theorem dX4_giveAddress_0 : decode cX4_giveAddress 0 = .ok (.aload_n 0, 1) := by decide +kernel
theorem dX4_giveAddress_1 : decode cX4_giveAddress 1 = .ok (.iload_n 1, 1) := by decide +kernel
theorem dX4_giveAddress_2 : decode cX4_giveAddress 2 = .ok (.invokevirtual 96, 3) := by decide +kernel
theorem dX4_giveAddress_5 : decode cX4_giveAddress 5 = .ok (.astore_n 3, 1) := by decide +kernel
theorem dX4_giveAddress_6 : decode cX4_giveAddress 6 = .ok (.aload_n 3, 1) := by decide +kernel
theorem dX4_giveAddress_7 : decode cX4_giveAddress 7 = .ok (.ifnonnull 5, 3) := by decide +kernel
theorem dX4_giveAddress_10 : decode cX4_giveAddress 10 = .ok (.iconst (-1), 1) := by decide +kernel
theorem dX4_giveAddress_11 : decode cX4_giveAddress 11 = .ok (.ireturn, 1) := by decide +kernel
theorem dX4_giveAddress_12 : decode cX4_giveAddress 12 = .ok (.iload_n 2, 1) := by decide +kernel
theorem dX4_giveAddress_13 : decode cX4_giveAddress 13 = .ok (.bipush (-5), 2) := by decide +kernel
theorem dX4_giveAddress_15 : decode cX4_giveAddress 15 = .ok (.if_icmp .eq 16, 3) := by decide +kernel
theorem dX4_giveAddress_18 : decode cX4_giveAddress 18 = .ok (.iload_n 2, 1) := by decide +kernel
theorem dX4_giveAddress_19 : decode cX4_giveAddress 19 = .ok (.sipush 128, 3) := by decide +kernel
theorem dX4_giveAddress_22 : decode cX4_giveAddress 22 = .ok (.invokestatic 78, 3) := by decide +kernel
theorem dX4_giveAddress_25 : decode cX4_giveAddress 25 = .ok (.ifCond .ne 6, 3) := by decide +kernel
theorem dX4_giveAddress_28 : decode cX4_giveAddress 28 = .ok (.bipush (-2), 2) := by decide +kernel
theorem dX4_giveAddress_30 : decode cX4_giveAddress 30 = .ok (.ireturn, 1) := by decide +kernel
theorem dX4_giveAddress_31 : decode cX4_giveAddress 31 = .ok (.aload_n 0, 1) := by decide +kernel
theorem dX4_giveAddress_32 : decode cX4_giveAddress 32 = .ok (.iload_n 2, 1) := by decide +kernel
theorem dX4_giveAddress_33 : decode cX4_giveAddress 33 = .ok (.invokevirtual 100, 3) := by decide +kernel
theorem dX4_giveAddress_36 : decode cX4_giveAddress 36 = .ok (.astore 4, 2) := by decide +kernel
theorem dX4_giveAddress_38 : decode cX4_giveAddress 38 = .ok (.aload 4, 2) := by decide +kernel
theorem dX4_giveAddress_40 : decode cX4_giveAddress 40 = .ok (.ifnull 12, 3) := by decide +kernel
theorem dX4_giveAddress_43 : decode cX4_giveAddress 43 = .ok (.aload 4, 2) := by decide +kernel
theorem dX4_giveAddress_45 : decode cX4_giveAddress 45 = .ok (.aload_n 3, 1) := by decide +kernel
theorem dX4_giveAddress_46 : decode cX4_giveAddress 46 = .ok (.if_acmp .eq 6, 3) := by decide +kernel
theorem dX4_giveAddress_49 : decode cX4_giveAddress 49 = .ok (.bipush (-4), 2) := by decide +kernel
theorem dX4_giveAddress_51 : decode cX4_giveAddress 51 = .ok (.ireturn, 1) := by decide +kernel
theorem dX4_giveAddress_52 : decode cX4_giveAddress 52 = .ok (.aload_n 3, 1) := by decide +kernel
theorem dX4_giveAddress_53 : decode cX4_giveAddress 53 = .ok (.getfield 103, 3) := by decide +kernel
theorem dX4_giveAddress_56 : decode cX4_giveAddress 56 = .ok (.iload_n 2, 1) := by decide +kernel
theorem dX4_giveAddress_57 : decode cX4_giveAddress 57 = .ok (.if_icmp .ne 6, 3) := by decide +kernel
theorem dX4_giveAddress_60 : decode cX4_giveAddress 60 = .ok (.bipush (-5), 2) := by decide +kernel
theorem dX4_giveAddress_62 : decode cX4_giveAddress 62 = .ok (.ireturn, 1) := by decide +kernel
theorem dX4_giveAddress_63 : decode cX4_giveAddress 63 = .ok (.aload_n 3, 1) := by decide +kernel
theorem dX4_giveAddress_64 : decode cX4_giveAddress 64 = .ok (.iload_n 2, 1) := by decide +kernel
theorem dX4_giveAddress_65 : decode cX4_giveAddress 65 = .ok (.putfield 103, 3) := by decide +kernel
theorem dX4_giveAddress_68 : decode cX4_giveAddress 68 = .ok (.aload_n 0, 1) := by decide +kernel
theorem dX4_giveAddress_69 : decode cX4_giveAddress 69 = .ok (.invokevirtual 106, 3) := by decide +kernel
theorem dX4_giveAddress_72 : decode cX4_giveAddress 72 = .ok (.ireturn, 1) := by decide +kernel
theorem dX4_giveHold_0 : decode cX4_giveHold 0 = .ok (.aload_n 0, 1) := by decide +kernel
theorem dX4_giveHold_1 : decode cX4_giveHold 1 = .ok (.iload_n 1, 1) := by decide +kernel
theorem dX4_giveHold_2 : decode cX4_giveHold 2 = .ok (.invokevirtual 96, 3) := by decide +kernel
theorem dX4_giveHold_5 : decode cX4_giveHold 5 = .ok (.astore_n 3, 1) := by decide +kernel
theorem dX4_giveHold_6 : decode cX4_giveHold 6 = .ok (.aload_n 3, 1) := by decide +kernel
theorem dX4_giveHold_7 : decode cX4_giveHold 7 = .ok (.ifnonnull 5, 3) := by decide +kernel
theorem dX4_giveHold_10 : decode cX4_giveHold 10 = .ok (.iconst (-1), 1) := by decide +kernel
theorem dX4_giveHold_11 : decode cX4_giveHold 11 = .ok (.ireturn, 1) := by decide +kernel
theorem dX4_giveHold_12 : decode cX4_giveHold 12 = .ok (.iload_n 2, 1) := by decide +kernel
theorem dX4_giveHold_13 : decode cX4_giveHold 13 = .ok (.ifCond .lt 9, 3) := by decide +kernel
theorem dX4_giveHold_16 : decode cX4_giveHold 16 = .ok (.iload_n 2, 1) := by decide +kernel
theorem dX4_giveHold_17 : decode cX4_giveHold 17 = .ok (.bipush 9, 2) := by decide +kernel
theorem dX4_giveHold_19 : decode cX4_giveHold 19 = .ok (.if_icmp .le 6, 3) := by decide +kernel
theorem dX4_giveHold_22 : decode cX4_giveHold 22 = .ok (.bipush (-2), 2) := by decide +kernel
theorem dX4_giveHold_24 : decode cX4_giveHold 24 = .ok (.ireturn, 1) := by decide +kernel
theorem dX4_giveHold_25 : decode cX4_giveHold 25 = .ok (.aload_n 3, 1) := by decide +kernel
theorem dX4_giveHold_26 : decode cX4_giveHold 26 = .ok (.getfield 110, 3) := by decide +kernel
theorem dX4_giveHold_29 : decode cX4_giveHold 29 = .ok (.iload_n 2, 1) := by decide +kernel
theorem dX4_giveHold_30 : decode cX4_giveHold 30 = .ok (.if_icmp .ne 6, 3) := by decide +kernel
theorem dX4_giveHold_33 : decode cX4_giveHold 33 = .ok (.bipush (-5), 2) := by decide +kernel
theorem dX4_giveHold_35 : decode cX4_giveHold 35 = .ok (.ireturn, 1) := by decide +kernel
theorem dX4_giveHold_36 : decode cX4_giveHold 36 = .ok (.aload_n 3, 1) := by decide +kernel
theorem dX4_giveHold_37 : decode cX4_giveHold 37 = .ok (.getfield 110, 3) := by decide +kernel
theorem dX4_giveHold_40 : decode cX4_giveHold 40 = .ok (.istore 4, 2) := by decide +kernel
theorem dX4_giveHold_42 : decode cX4_giveHold 42 = .ok (.aload_n 3, 1) := by decide +kernel
theorem dX4_giveHold_43 : decode cX4_giveHold 43 = .ok (.iload_n 2, 1) := by decide +kernel
theorem dX4_giveHold_44 : decode cX4_giveHold 44 = .ok (.putfield 110, 3) := by decide +kernel
theorem dX4_giveHold_47 : decode cX4_giveHold 47 = .ok (.iload 4, 2) := by decide +kernel
theorem dX4_giveHold_49 : decode cX4_giveHold 49 = .ok (.ireturn, 1) := by decide +kernel
theorem dX4_makeStuck_0 : decode cX4_makeStuck 0 = .ok (.aload_n 0, 1) := by decide +kernel
theorem dX4_makeStuck_1 : decode cX4_makeStuck 1 = .ok (.iload_n 1, 1) := by decide +kernel
theorem dX4_makeStuck_2 : decode cX4_makeStuck 2 = .ok (.invokevirtual 96, 3) := by decide +kernel
theorem dX4_makeStuck_5 : decode cX4_makeStuck 5 = .ok (.astore_n 3, 1) := by decide +kernel
theorem dX4_makeStuck_6 : decode cX4_makeStuck 6 = .ok (.aload_n 3, 1) := by decide +kernel
theorem dX4_makeStuck_7 : decode cX4_makeStuck 7 = .ok (.ifnonnull 5, 3) := by decide +kernel
theorem dX4_makeStuck_10 : decode cX4_makeStuck 10 = .ok (.iconst (-1), 1) := by decide +kernel
theorem dX4_makeStuck_11 : decode cX4_makeStuck 11 = .ok (.ireturn, 1) := by decide +kernel
theorem dX4_makeStuck_12 : decode cX4_makeStuck 12 = .ok (.iload_n 2, 1) := by decide +kernel
theorem dX4_makeStuck_13 : decode cX4_makeStuck 13 = .ok (.iconst 1, 1) := by decide +kernel
theorem dX4_makeStuck_14 : decode cX4_makeStuck 14 = .ok (.if_icmp .lt 9, 3) := by decide +kernel
theorem dX4_makeStuck_17 : decode cX4_makeStuck 17 = .ok (.iload_n 2, 1) := by decide +kernel
theorem dX4_makeStuck_18 : decode cX4_makeStuck 18 = .ok (.bipush 99, 2) := by decide +kernel
theorem dX4_makeStuck_20 : decode cX4_makeStuck 20 = .ok (.if_icmp .le 6, 3) := by decide +kernel
theorem dX4_makeStuck_23 : decode cX4_makeStuck 23 = .ok (.bipush (-2), 2) := by decide +kernel
theorem dX4_makeStuck_25 : decode cX4_makeStuck 25 = .ok (.ireturn, 1) := by decide +kernel
theorem dX4_makeStuck_26 : decode cX4_makeStuck 26 = .ok (.aload_n 3, 1) := by decide +kernel
theorem dX4_makeStuck_27 : decode cX4_makeStuck 27 = .ok (.iload_n 2, 1) := by decide +kernel
theorem dX4_makeStuck_28 : decode cX4_makeStuck 28 = .ok (.putfield 113, 3) := by decide +kernel
theorem dX4_makeStuck_31 : decode cX4_makeStuck 31 = .ok (.aload_n 0, 1) := by decide +kernel
theorem dX4_makeStuck_32 : decode cX4_makeStuck 32 = .ok (.invokevirtual 116, 3) := by decide +kernel
theorem dX4_makeStuck_35 : decode cX4_makeStuck 35 = .ok (.ireturn, 1) := by decide +kernel
theorem dX4_changeSetting_0 : decode cX4_changeSetting 0 = .ok (.iload_n 1, 1) := by decide +kernel
theorem dX4_changeSetting_1 : decode cX4_changeSetting 1 = .ok (.iconst 3, 1) := by decide +kernel
theorem dX4_changeSetting_2 : decode cX4_changeSetting 2 = .ok (.invokestatic 78, 3) := by decide +kernel
theorem dX4_changeSetting_5 : decode cX4_changeSetting 5 = .ok (.ifCond .ne 5, 3) := by decide +kernel
theorem dX4_changeSetting_8 : decode cX4_changeSetting 8 = .ok (.iconst (-1), 1) := by decide +kernel
theorem dX4_changeSetting_9 : decode cX4_changeSetting 9 = .ok (.ireturn, 1) := by decide +kernel
theorem dX4_changeSetting_10 : decode cX4_changeSetting 10 = .ok (.iload_n 2, 1) := by decide +kernel
theorem dX4_changeSetting_11 : decode cX4_changeSetting 11 = .ok (.iconst 1, 1) := by decide +kernel
theorem dX4_changeSetting_12 : decode cX4_changeSetting 12 = .ok (.if_icmp .lt 12, 3) := by decide +kernel
theorem dX4_changeSetting_15 : decode cX4_changeSetting 15 = .ok (.iload_n 2, 1) := by decide +kernel
theorem dX4_changeSetting_16 : decode cX4_changeSetting 16 = .ok (.getstatic 119, 3) := by decide +kernel
theorem dX4_changeSetting_19 : decode cX4_changeSetting 19 = .ok (.iload_n 1, 1) := by decide +kernel
theorem dX4_changeSetting_20 : decode cX4_changeSetting 20 = .ok (.iaload, 1) := by decide +kernel
theorem dX4_changeSetting_21 : decode cX4_changeSetting 21 = .ok (.if_icmp .le 6, 3) := by decide +kernel
theorem dX4_changeSetting_24 : decode cX4_changeSetting 24 = .ok (.bipush (-2), 2) := by decide +kernel
theorem dX4_changeSetting_26 : decode cX4_changeSetting 26 = .ok (.ireturn, 1) := by decide +kernel
theorem dX4_changeSetting_27 : decode cX4_changeSetting 27 = .ok (.aload_n 0, 1) := by decide +kernel
theorem dX4_changeSetting_28 : decode cX4_changeSetting 28 = .ok (.getfield 23, 3) := by decide +kernel
theorem dX4_changeSetting_31 : decode cX4_changeSetting 31 = .ok (.iload_n 1, 1) := by decide +kernel
theorem dX4_changeSetting_32 : decode cX4_changeSetting 32 = .ok (.iaload, 1) := by decide +kernel
theorem dX4_changeSetting_33 : decode cX4_changeSetting 33 = .ok (.iload_n 2, 1) := by decide +kernel
theorem dX4_changeSetting_34 : decode cX4_changeSetting 34 = .ok (.if_icmp .ne 6, 3) := by decide +kernel
theorem dX4_changeSetting_37 : decode cX4_changeSetting 37 = .ok (.bipush (-5), 2) := by decide +kernel
theorem dX4_changeSetting_39 : decode cX4_changeSetting 39 = .ok (.ireturn, 1) := by decide +kernel
theorem dX4_changeSetting_40 : decode cX4_changeSetting 40 = .ok (.aload_n 0, 1) := by decide +kernel
theorem dX4_changeSetting_41 : decode cX4_changeSetting 41 = .ok (.getfield 23, 3) := by decide +kernel
theorem dX4_changeSetting_44 : decode cX4_changeSetting 44 = .ok (.iload_n 1, 1) := by decide +kernel
theorem dX4_changeSetting_45 : decode cX4_changeSetting 45 = .ok (.iaload, 1) := by decide +kernel
theorem dX4_changeSetting_46 : decode cX4_changeSetting 46 = .ok (.istore_n 3, 1) := by decide +kernel
theorem dX4_changeSetting_47 : decode cX4_changeSetting 47 = .ok (.aload_n 0, 1) := by decide +kernel
theorem dX4_changeSetting_48 : decode cX4_changeSetting 48 = .ok (.getfield 23, 3) := by decide +kernel
theorem dX4_changeSetting_51 : decode cX4_changeSetting 51 = .ok (.iload_n 1, 1) := by decide +kernel
theorem dX4_changeSetting_52 : decode cX4_changeSetting 52 = .ok (.iload_n 2, 1) := by decide +kernel
theorem dX4_changeSetting_53 : decode cX4_changeSetting 53 = .ok (.iastore, 1) := by decide +kernel
theorem dX4_changeSetting_54 : decode cX4_changeSetting 54 = .ok (.iload_n 3, 1) := by decide +kernel
theorem dX4_changeSetting_55 : decode cX4_changeSetting 55 = .ok (.ireturn, 1) := by decide +kernel
theorem dX4_passTicks_0 : decode cX4_passTicks 0 = .ok (.iload_n 1, 1) := by decide +kernel
theorem dX4_passTicks_1 : decode cX4_passTicks 1 = .ok (.iconst 1, 1) := by decide +kernel
theorem dX4_passTicks_2 : decode cX4_passTicks 2 = .ok (.if_icmp .lt 10, 3) := by decide +kernel
theorem dX4_passTicks_5 : decode cX4_passTicks 5 = .ok (.iload_n 1, 1) := by decide +kernel
theorem dX4_passTicks_6 : decode cX4_passTicks 6 = .ok (.sipush 300, 3) := by decide +kernel
theorem dX4_passTicks_9 : decode cX4_passTicks 9 = .ok (.if_icmp .le 6, 3) := by decide +kernel
theorem dX4_passTicks_12 : decode cX4_passTicks 12 = .ok (.bipush (-2), 2) := by decide +kernel
theorem dX4_passTicks_14 : decode cX4_passTicks 14 = .ok (.ireturn, 1) := by decide +kernel
theorem dX4_passTicks_15 : decode cX4_passTicks 15 = .ok (.iload_n 1, 1) := by decide +kernel
theorem dX4_passTicks_16 : decode cX4_passTicks 16 = .ok (.ldc 122, 2) := by decide +kernel
theorem dX4_passTicks_18 : decode cX4_passTicks 18 = .ok (.aload_n 0, 1) := by decide +kernel
theorem dX4_passTicks_19 : decode cX4_passTicks 19 = .ok (.getfield 52, 3) := by decide +kernel
theorem dX4_passTicks_22 : decode cX4_passTicks 22 = .ok (.isub, 1) := by decide +kernel
theorem dX4_passTicks_23 : decode cX4_passTicks 23 = .ok (.if_icmp .le 6, 3) := by decide +kernel
theorem dX4_passTicks_26 : decode cX4_passTicks 26 = .ok (.bipush (-3), 2) := by decide +kernel
theorem dX4_passTicks_28 : decode cX4_passTicks 28 = .ok (.ireturn, 1) := by decide +kernel
theorem dX4_passTicks_29 : decode cX4_passTicks 29 = .ok (.aload_n 0, 1) := by decide +kernel
theorem dX4_passTicks_30 : decode cX4_passTicks 30 = .ok (.invokevirtual 123, 3) := by decide +kernel
theorem dX4_passTicks_33 : decode cX4_passTicks 33 = .ok (.istore_n 2, 1) := by decide +kernel
theorem dX4_passTicks_34 : decode cX4_passTicks 34 = .ok (.iconst 0, 1) := by decide +kernel
theorem dX4_passTicks_35 : decode cX4_passTicks 35 = .ok (.istore_n 3, 1) := by decide +kernel
theorem dX4_passTicks_36 : decode cX4_passTicks 36 = .ok (.iload_n 3, 1) := by decide +kernel
theorem dX4_passTicks_37 : decode cX4_passTicks 37 = .ok (.iload_n 1, 1) := by decide +kernel
theorem dX4_passTicks_38 : decode cX4_passTicks 38 = .ok (.if_icmp .ge 13, 3) := by decide +kernel
theorem dX4_passTicks_41 : decode cX4_passTicks 41 = .ok (.aload_n 0, 1) := by decide +kernel
theorem dX4_passTicks_42 : decode cX4_passTicks 42 = .ok (.invokevirtual 126, 3) := by decide +kernel
theorem dX4_passTicks_45 : decode cX4_passTicks 45 = .ok (.iinc 3 1, 3) := by decide +kernel
theorem dX4_passTicks_48 : decode cX4_passTicks 48 = .ok (.goto (-12), 3) := by decide +kernel
theorem dX4_passTicks_51 : decode cX4_passTicks 51 = .ok (.aload_n 0, 1) := by decide +kernel
theorem dX4_passTicks_52 : decode cX4_passTicks 52 = .ok (.invokevirtual 123, 3) := by decide +kernel
theorem dX4_passTicks_55 : decode cX4_passTicks 55 = .ok (.iload_n 2, 1) := by decide +kernel
theorem dX4_passTicks_56 : decode cX4_passTicks 56 = .ok (.isub, 1) := by decide +kernel
theorem dX4_passTicks_57 : decode cX4_passTicks 57 = .ok (.ireturn, 1) := by decide +kernel
theorem dX4_nextTick_0 : decode cX4_nextTick 0 = .ok (.aload_n 0, 1) := by decide +kernel
theorem dX4_nextTick_1 : decode cX4_nextTick 1 = .ok (.invokevirtual 116, 3) := by decide +kernel
theorem dX4_nextTick_4 : decode cX4_nextTick 4 = .ok (.ifCond .le 5, 3) := by decide +kernel
theorem dX4_nextTick_7 : decode cX4_nextTick 7 = .ok (.iconst 4, 1) := by decide +kernel
theorem dX4_nextTick_8 : decode cX4_nextTick 8 = .ok (.ireturn, 1) := by decide +kernel
theorem dX4_nextTick_9 : decode cX4_nextTick 9 = .ok (.aload_n 0, 1) := by decide +kernel
theorem dX4_nextTick_10 : decode cX4_nextTick 10 = .ok (.getfield 59, 3) := by decide +kernel
theorem dX4_nextTick_13 : decode cX4_nextTick 13 = .ok (.ifCond .le 5, 3) := by decide +kernel
theorem dX4_nextTick_16 : decode cX4_nextTick 16 = .ok (.iconst 3, 1) := by decide +kernel
theorem dX4_nextTick_17 : decode cX4_nextTick 17 = .ok (.ireturn, 1) := by decide +kernel
theorem dX4_nextTick_18 : decode cX4_nextTick 18 = .ok (.aload_n 0, 1) := by decide +kernel
theorem dX4_nextTick_19 : decode cX4_nextTick 19 = .ok (.invokevirtual 129, 3) := by decide +kernel
theorem dX4_nextTick_22 : decode cX4_nextTick 22 = .ok (.ifCond .ne 5, 3) := by decide +kernel
theorem dX4_nextTick_25 : decode cX4_nextTick 25 = .ok (.iconst 0, 1) := by decide +kernel
theorem dX4_nextTick_26 : decode cX4_nextTick 26 = .ok (.ireturn, 1) := by decide +kernel
theorem dX4_nextTick_27 : decode cX4_nextTick 27 = .ok (.aload_n 0, 1) := by decide +kernel
theorem dX4_nextTick_28 : decode cX4_nextTick 28 = .ok (.getfield 56, 3) := by decide +kernel
theorem dX4_nextTick_31 : decode cX4_nextTick 31 = .ok (.invokestatic 132, 3) := by decide +kernel
theorem dX4_nextTick_34 : decode cX4_nextTick 34 = .ok (.ifCond .eq 7, 3) := by decide +kernel
theorem dX4_nextTick_37 : decode cX4_nextTick 37 = .ok (.iconst 2, 1) := by decide +kernel
theorem dX4_nextTick_38 : decode cX4_nextTick 38 = .ok (.goto 4, 3) := by decide +kernel
theorem dX4_nextTick_41 : decode cX4_nextTick 41 = .ok (.iconst 1, 1) := by decide +kernel
theorem dX4_nextTick_42 : decode cX4_nextTick 42 = .ok (.ireturn, 1) := by decide +kernel
theorem dX4_tick_0 : decode cX4_tick 0 = .ok (.aload_n 0, 1) := by decide +kernel
theorem dX4_tick_1 : decode cX4_tick 1 = .ok (.invokevirtual 136, 3) := by decide +kernel
theorem dX4_tick_4 : decode cX4_tick 4 = .ok (.istore_n 1, 1) := by decide +kernel
theorem dX4_tick_5 : decode cX4_tick 5 = .ok (.aload_n 0, 1) := by decide +kernel
theorem dX4_tick_6 : decode cX4_tick 6 = .ok (.dup, 1) := by decide +kernel
theorem dX4_tick_7 : decode cX4_tick 7 = .ok (.getfield 52, 3) := by decide +kernel
theorem dX4_tick_10 : decode cX4_tick 10 = .ok (.iconst 1, 1) := by decide +kernel
theorem dX4_tick_11 : decode cX4_tick 11 = .ok (.iadd, 1) := by decide +kernel
theorem dX4_tick_12 : decode cX4_tick 12 = .ok (.putfield 52, 3) := by decide +kernel
theorem dX4_tick_15 : decode cX4_tick 15 = .ok (.iload_n 1, 1) := by decide +kernel
theorem dX4_tick_16 : decode cX4_tick 16 = .ok (.iconst 4, 1) := by decide +kernel
theorem dX4_tick_17 : decode cX4_tick 17 = .ok (.if_icmp .eq 8, 3) := by decide +kernel
theorem dX4_tick_20 : decode cX4_tick 20 = .ok (.aload_n 0, 1) := by decide +kernel
theorem dX4_tick_21 : decode cX4_tick 21 = .ok (.iconst 0, 1) := by decide +kernel
theorem dX4_tick_22 : decode cX4_tick 22 = .ok (.putfield 65, 3) := by decide +kernel
theorem dX4_tick_25 : decode cX4_tick 25 = .ok (.iload_n 1, 1) := by decide +kernel
theorem dX4_tick_26 : decode cX4_tick 26 = .ok (.tableswitch 64 1 4 #[50, 57, 37, 30], 30) := by decide +kernel
theorem dX4_tick_56 : decode cX4_tick 56 = .ok (.aload_n 0, 1) := by decide +kernel
theorem dX4_tick_57 : decode cX4_tick 57 = .ok (.invokevirtual 139, 3) := by decide +kernel
theorem dX4_tick_60 : decode cX4_tick 60 = .ok (.goto 34, 3) := by decide +kernel
theorem dX4_tick_63 : decode cX4_tick 63 = .ok (.aload_n 0, 1) := by decide +kernel
theorem dX4_tick_64 : decode cX4_tick 64 = .ok (.dup, 1) := by decide +kernel
theorem dX4_tick_65 : decode cX4_tick 65 = .ok (.getfield 59, 3) := by decide +kernel
theorem dX4_tick_68 : decode cX4_tick 68 = .ok (.iconst 1, 1) := by decide +kernel
theorem dX4_tick_69 : decode cX4_tick 69 = .ok (.isub, 1) := by decide +kernel
theorem dX4_tick_70 : decode cX4_tick 70 = .ok (.putfield 59, 3) := by decide +kernel
theorem dX4_tick_73 : decode cX4_tick 73 = .ok (.goto 21, 3) := by decide +kernel
theorem dX4_tick_76 : decode cX4_tick 76 = .ok (.aload_n 0, 1) := by decide +kernel
theorem dX4_tick_77 : decode cX4_tick 77 = .ok (.invokevirtual 142, 3) := by decide +kernel
theorem dX4_tick_80 : decode cX4_tick 80 = .ok (.goto 14, 3) := by decide +kernel
theorem dX4_tick_83 : decode cX4_tick 83 = .ok (.aload_n 0, 1) := by decide +kernel
theorem dX4_tick_84 : decode cX4_tick 84 = .ok (.invokevirtual 145, 3) := by decide +kernel
theorem dX4_tick_87 : decode cX4_tick 87 = .ok (.goto 7, 3) := by decide +kernel
theorem dX4_tick_90 : decode cX4_tick 90 = .ok (.aload_n 0, 1) := by decide +kernel
theorem dX4_tick_91 : decode cX4_tick 91 = .ok (.invokevirtual 148, 3) := by decide +kernel
theorem dX4_tick_94 : decode cX4_tick 94 = .ok (.return_, 1) := by decide +kernel
theorem dX4_stuckTick_0 : decode cX4_stuckTick 0 = .ok (.aload_n 0, 1) := by decide +kernel
theorem dX4_stuckTick_1 : decode cX4_stuckTick 1 = .ok (.iconst 0, 1) := by decide +kernel
theorem dX4_stuckTick_2 : decode cX4_stuckTick 2 = .ok (.putfield 62, 3) := by decide +kernel
theorem dX4_stuckTick_5 : decode cX4_stuckTick 5 = .ok (.aload_n 0, 1) := by decide +kernel
theorem dX4_stuckTick_6 : decode cX4_stuckTick 6 = .ok (.getfield 59, 3) := by decide +kernel
theorem dX4_stuckTick_9 : decode cX4_stuckTick 9 = .ok (.ifCond .ne 30, 3) := by decide +kernel
theorem dX4_stuckTick_12 : decode cX4_stuckTick 12 = .ok (.aload_n 0, 1) := by decide +kernel
theorem dX4_stuckTick_13 : decode cX4_stuckTick 13 = .ok (.getfield 56, 3) := by decide +kernel
theorem dX4_stuckTick_16 : decode cX4_stuckTick 16 = .ok (.invokestatic 132, 3) := by decide +kernel
theorem dX4_stuckTick_19 : decode cX4_stuckTick 19 = .ok (.ifCond .ne 20, 3) := by decide +kernel
theorem dX4_stuckTick_22 : decode cX4_stuckTick 22 = .ok (.aload_n 0, 1) := by decide +kernel
theorem dX4_stuckTick_23 : decode cX4_stuckTick 23 = .ok (.aload_n 0, 1) := by decide +kernel
theorem dX4_stuckTick_24 : decode cX4_stuckTick 24 = .ok (.aload_n 0, 1) := by decide +kernel
theorem dX4_stuckTick_25 : decode cX4_stuckTick 25 = .ok (.invokevirtual 129, 3) := by decide +kernel
theorem dX4_stuckTick_28 : decode cX4_stuckTick 28 = .ok (.aload_n 0, 1) := by decide +kernel
theorem dX4_stuckTick_29 : decode cX4_stuckTick 29 = .ok (.getfield 56, 3) := by decide +kernel
theorem dX4_stuckTick_32 : decode cX4_stuckTick 32 = .ok (.iconst 1, 1) := by decide +kernel
theorem dX4_stuckTick_33 : decode cX4_stuckTick 33 = .ok (.invokevirtual 151, 3) := by decide +kernel
theorem dX4_stuckTick_36 : decode cX4_stuckTick 36 = .ok (.invokevirtual 155, 3) := by decide +kernel
theorem dX4_stuckTick_39 : decode cX4_stuckTick 39 = .ok (.aload_n 0, 1) := by decide +kernel
theorem dX4_stuckTick_40 : decode cX4_stuckTick 40 = .ok (.invokevirtual 159, 3) := by decide +kernel
theorem dX4_stuckTick_43 : decode cX4_stuckTick 43 = .ok (.aload_n 0, 1) := by decide +kernel
theorem dX4_stuckTick_44 : decode cX4_stuckTick 44 = .ok (.dup, 1) := by decide +kernel
theorem dX4_stuckTick_45 : decode cX4_stuckTick 45 = .ok (.getfield 65, 3) := by decide +kernel
theorem dX4_stuckTick_48 : decode cX4_stuckTick 48 = .ok (.iconst 1, 1) := by decide +kernel
theorem dX4_stuckTick_49 : decode cX4_stuckTick 49 = .ok (.iadd, 1) := by decide +kernel
theorem dX4_stuckTick_50 : decode cX4_stuckTick 50 = .ok (.putfield 65, 3) := by decide +kernel
theorem dX4_stuckTick_53 : decode cX4_stuckTick 53 = .ok (.aload_n 0, 1) := by decide +kernel
theorem dX4_stuckTick_54 : decode cX4_stuckTick 54 = .ok (.getfield 65, 3) := by decide +kernel
theorem dX4_stuckTick_57 : decode cX4_stuckTick 57 = .ok (.aload_n 0, 1) := by decide +kernel
theorem dX4_stuckTick_58 : decode cX4_stuckTick 58 = .ok (.iconst 2, 1) := by decide +kernel
theorem dX4_stuckTick_59 : decode cX4_stuckTick 59 = .ok (.invokevirtual 162, 3) := by decide +kernel
theorem dX4_stuckTick_62 : decode cX4_stuckTick 62 = .ok (.if_icmp .lt 7, 3) := by decide +kernel
theorem dX4_stuckTick_65 : decode cX4_stuckTick 65 = .ok (.iconst 1, 1) := by decide +kernel
theorem dX4_stuckTick_66 : decode cX4_stuckTick 66 = .ok (.goto 4, 3) := by decide +kernel
theorem dX4_stuckTick_69 : decode cX4_stuckTick 69 = .ok (.iconst 0, 1) := by decide +kernel
theorem dX4_stuckTick_70 : decode cX4_stuckTick 70 = .ok (.istore_n 1, 1) := by decide +kernel
theorem dX4_stuckTick_71 : decode cX4_stuckTick 71 = .ok (.aload_n 0, 1) := by decide +kernel
theorem dX4_stuckTick_72 : decode cX4_stuckTick 72 = .ok (.getfield 19, 3) := by decide +kernel
theorem dX4_stuckTick_75 : decode cX4_stuckTick 75 = .ok (.astore_n 2, 1) := by decide +kernel
theorem dX4_stuckTick_76 : decode cX4_stuckTick 76 = .ok (.aload_n 2, 1) := by decide +kernel
theorem dX4_stuckTick_77 : decode cX4_stuckTick 77 = .ok (.arraylength, 1) := by decide +kernel
theorem dX4_stuckTick_78 : decode cX4_stuckTick 78 = .ok (.istore_n 3, 1) := by decide +kernel
theorem dX4_stuckTick_79 : decode cX4_stuckTick 79 = .ok (.iconst 0, 1) := by decide +kernel
theorem dX4_stuckTick_80 : decode cX4_stuckTick 80 = .ok (.istore 4, 2) := by decide +kernel
theorem dX4_stuckTick_82 : decode cX4_stuckTick 82 = .ok (.iload 4, 2) := by decide +kernel
theorem dX4_stuckTick_84 : decode cX4_stuckTick 84 = .ok (.iload_n 3, 1) := by decide +kernel
theorem dX4_stuckTick_85 : decode cX4_stuckTick 85 = .ok (.if_icmp .ge 39, 3) := by decide +kernel
theorem dX4_stuckTick_88 : decode cX4_stuckTick 88 = .ok (.aload_n 2, 1) := by decide +kernel
theorem dX4_stuckTick_89 : decode cX4_stuckTick 89 = .ok (.iload 4, 2) := by decide +kernel
theorem dX4_stuckTick_91 : decode cX4_stuckTick 91 = .ok (.aaload, 1) := by decide +kernel
theorem dX4_stuckTick_92 : decode cX4_stuckTick 92 = .ok (.astore 5, 2) := by decide +kernel
theorem dX4_stuckTick_94 : decode cX4_stuckTick 94 = .ok (.aload 5, 2) := by decide +kernel
theorem dX4_stuckTick_96 : decode cX4_stuckTick 96 = .ok (.iload_n 1, 1) := by decide +kernel
theorem dX4_stuckTick_97 : decode cX4_stuckTick 97 = .ok (.ifCond .eq 7, 3) := by decide +kernel
theorem dX4_stuckTick_100 : decode cX4_stuckTick 100 = .ok (.iconst 0, 1) := by decide +kernel
theorem dX4_stuckTick_101 : decode cX4_stuckTick 101 = .ok (.goto 14, 3) := by decide +kernel
theorem dX4_stuckTick_104 : decode cX4_stuckTick 104 = .ok (.aload 5, 2) := by decide +kernel
theorem dX4_stuckTick_106 : decode cX4_stuckTick 106 = .ok (.getfield 113, 3) := by decide +kernel
theorem dX4_stuckTick_109 : decode cX4_stuckTick 109 = .ok (.iconst 1, 1) := by decide +kernel
theorem dX4_stuckTick_110 : decode cX4_stuckTick 110 = .ok (.isub, 1) := by decide +kernel
theorem dX4_stuckTick_111 : decode cX4_stuckTick 111 = .ok (.iconst 0, 1) := by decide +kernel
theorem dX4_stuckTick_112 : decode cX4_stuckTick 112 = .ok (.invokestatic 166, 3) := by decide +kernel
theorem dX4_stuckTick_115 : decode cX4_stuckTick 115 = .ok (.putfield 113, 3) := by decide +kernel
theorem dX4_stuckTick_118 : decode cX4_stuckTick 118 = .ok (.iinc 4 1, 3) := by decide +kernel
theorem dX4_stuckTick_121 : decode cX4_stuckTick 121 = .ok (.goto (-39), 3) := by decide +kernel
theorem dX4_stuckTick_124 : decode cX4_stuckTick 124 = .ok (.iload_n 1, 1) := by decide +kernel
theorem dX4_stuckTick_125 : decode cX4_stuckTick 125 = .ok (.ifCond .eq 18, 3) := by decide +kernel
theorem dX4_stuckTick_128 : decode cX4_stuckTick 128 = .ok (.aload_n 0, 1) := by decide +kernel
theorem dX4_stuckTick_129 : decode cX4_stuckTick 129 = .ok (.iconst 0, 1) := by decide +kernel
theorem dX4_stuckTick_130 : decode cX4_stuckTick 130 = .ok (.putfield 65, 3) := by decide +kernel
theorem dX4_stuckTick_133 : decode cX4_stuckTick 133 = .ok (.aload_n 0, 1) := by decide +kernel
theorem dX4_stuckTick_134 : decode cX4_stuckTick 134 = .ok (.dup, 1) := by decide +kernel
theorem dX4_stuckTick_135 : decode cX4_stuckTick 135 = .ok (.getfield 71, 3) := by decide +kernel
theorem dX4_stuckTick_138 : decode cX4_stuckTick 138 = .ok (.iconst 1, 1) := by decide +kernel
theorem dX4_stuckTick_139 : decode cX4_stuckTick 139 = .ok (.iadd, 1) := by decide +kernel
theorem dX4_stuckTick_140 : decode cX4_stuckTick 140 = .ok (.putfield 71, 3) := by decide +kernel
theorem dX4_stuckTick_143 : decode cX4_stuckTick 143 = .ok (.return_, 1) := by decide +kernel
theorem dX4_sendBit_0 : decode cX4_sendBit 0 = .ok (.aload_n 0, 1) := by decide +kernel
theorem dX4_sendBit_1 : decode cX4_sendBit 1 = .ok (.invokevirtual 129, 3) := by decide +kernel
theorem dX4_sendBit_4 : decode cX4_sendBit 4 = .ok (.istore_n 1, 1) := by decide +kernel
theorem dX4_sendBit_5 : decode cX4_sendBit 5 = .ok (.aload_n 0, 1) := by decide +kernel
theorem dX4_sendBit_6 : decode cX4_sendBit 6 = .ok (.iload_n 1, 1) := by decide +kernel
theorem dX4_sendBit_7 : decode cX4_sendBit 7 = .ok (.aload_n 0, 1) := by decide +kernel
theorem dX4_sendBit_8 : decode cX4_sendBit 8 = .ok (.getfield 56, 3) := by decide +kernel
theorem dX4_sendBit_11 : decode cX4_sendBit 11 = .ok (.iconst 0, 1) := by decide +kernel
theorem dX4_sendBit_12 : decode cX4_sendBit 12 = .ok (.invokevirtual 151, 3) := by decide +kernel
theorem dX4_sendBit_15 : decode cX4_sendBit 15 = .ok (.ifCond .eq 7, 3) := by decide +kernel
theorem dX4_sendBit_18 : decode cX4_sendBit 18 = .ok (.iconst 1, 1) := by decide +kernel
theorem dX4_sendBit_19 : decode cX4_sendBit 19 = .ok (.goto 4, 3) := by decide +kernel
theorem dX4_sendBit_22 : decode cX4_sendBit 22 = .ok (.iconst 0, 1) := by decide +kernel
theorem dX4_sendBit_23 : decode cX4_sendBit 23 = .ok (.istore_n 2, 1) := by decide +kernel
theorem dX4_sendBit_24 : decode cX4_sendBit 24 = .ok (.iload_n 2, 1) := by decide +kernel
theorem dX4_sendBit_25 : decode cX4_sendBit 25 = .ok (.ifCond .eq 16, 3) := by decide +kernel
theorem dX4_sendBit_28 : decode cX4_sendBit 28 = .ok (.aload_n 0, 1) := by decide +kernel
theorem dX4_sendBit_29 : decode cX4_sendBit 29 = .ok (.iload_n 1, 1) := by decide +kernel
theorem dX4_sendBit_30 : decode cX4_sendBit 30 = .ok (.aload_n 0, 1) := by decide +kernel
theorem dX4_sendBit_31 : decode cX4_sendBit 31 = .ok (.getfield 56, 3) := by decide +kernel
theorem dX4_sendBit_34 : decode cX4_sendBit 34 = .ok (.iconst 1, 1) := by decide +kernel
theorem dX4_sendBit_35 : decode cX4_sendBit 35 = .ok (.invokevirtual 151, 3) := by decide +kernel
theorem dX4_sendBit_38 : decode cX4_sendBit 38 = .ok (.goto 4, 3) := by decide +kernel
theorem dX4_sendBit_41 : decode cX4_sendBit 41 = .ok (.iconst 0, 1) := by decide +kernel
theorem dX4_sendBit_42 : decode cX4_sendBit 42 = .ok (.istore_n 3, 1) := by decide +kernel
theorem dX4_sendBit_43 : decode cX4_sendBit 43 = .ok (.aload_n 0, 1) := by decide +kernel
theorem dX4_sendBit_44 : decode cX4_sendBit 44 = .ok (.iload_n 3, 1) := by decide +kernel
theorem dX4_sendBit_45 : decode cX4_sendBit 45 = .ok (.invokevirtual 155, 3) := by decide +kernel
theorem dX4_sendBit_48 : decode cX4_sendBit 48 = .ok (.aload_n 0, 1) := by decide +kernel
theorem dX4_sendBit_49 : decode cX4_sendBit 49 = .ok (.getfield 30, 3) := by decide +kernel
theorem dX4_sendBit_52 : decode cX4_sendBit 52 = .ok (.iload_n 2, 1) := by decide +kernel
theorem dX4_sendBit_53 : decode cX4_sendBit 53 = .ok (.ifCond .eq 7, 3) := by decide +kernel
theorem dX4_sendBit_56 : decode cX4_sendBit 56 = .ok (.iconst 0, 1) := by decide +kernel
theorem dX4_sendBit_57 : decode cX4_sendBit 57 = .ok (.goto 4, 3) := by decide +kernel
theorem dX4_sendBit_60 : decode cX4_sendBit 60 = .ok (.iconst 1, 1) := by decide +kernel
theorem dX4_sendBit_61 : decode cX4_sendBit 61 = .ok (.iconst 0, 1) := by decide +kernel
theorem dX4_sendBit_62 : decode cX4_sendBit 62 = .ok (.aload_n 0, 1) := by decide +kernel
theorem dX4_sendBit_63 : decode cX4_sendBit 63 = .ok (.getfield 52, 3) := by decide +kernel
theorem dX4_sendBit_66 : decode cX4_sendBit 66 = .ok (.iload_n 3, 1) := by decide +kernel
theorem dX4_sendBit_67 : decode cX4_sendBit 67 = .ok (.invokestatic 172, 3) := by decide +kernel
theorem dX4_sendBit_70 : decode cX4_sendBit 70 = .ok (.invokevirtual 177, 3) := by decide +kernel
theorem dX4_sendBit_73 : decode cX4_sendBit 73 = .ok (.aload_n 0, 1) := by decide +kernel
theorem dX4_sendBit_74 : decode cX4_sendBit 74 = .ok (.dup, 1) := by decide +kernel
theorem dX4_sendBit_75 : decode cX4_sendBit 75 = .ok (.getfield 56, 3) := by decide +kernel
theorem dX4_sendBit_78 : decode cX4_sendBit 78 = .ok (.iconst 1, 1) := by decide +kernel
theorem dX4_sendBit_79 : decode cX4_sendBit 79 = .ok (.iadd, 1) := by decide +kernel
theorem dX4_sendBit_80 : decode cX4_sendBit 80 = .ok (.putfield 56, 3) := by decide +kernel
theorem dX4_sendBit_83 : decode cX4_sendBit 83 = .ok (.aload_n 0, 1) := by decide +kernel
theorem dX4_sendBit_84 : decode cX4_sendBit 84 = .ok (.getfield 56, 3) := by decide +kernel
theorem dX4_sendBit_87 : decode cX4_sendBit 87 = .ok (.invokestatic 132, 3) := by decide +kernel
theorem dX4_sendBit_90 : decode cX4_sendBit 90 = .ok (.ifCond .eq 18, 3) := by decide +kernel
theorem dX4_sendBit_93 : decode cX4_sendBit 93 = .ok (.aload_n 0, 1) := by decide +kernel
theorem dX4_sendBit_94 : decode cX4_sendBit 94 = .ok (.aload_n 0, 1) := by decide +kernel
theorem dX4_sendBit_95 : decode cX4_sendBit 95 = .ok (.aload_n 0, 1) := by decide +kernel
theorem dX4_sendBit_96 : decode cX4_sendBit 96 = .ok (.iconst 0, 1) := by decide +kernel
theorem dX4_sendBit_97 : decode cX4_sendBit 97 = .ok (.invokevirtual 181, 3) := by decide +kernel
theorem dX4_sendBit_100 : decode cX4_sendBit 100 = .ok (.iconst 1, 1) := by decide +kernel
theorem dX4_sendBit_101 : decode cX4_sendBit 101 = .ok (.ishr, 1) := by decide +kernel
theorem dX4_sendBit_102 : decode cX4_sendBit 102 = .ok (.invokevirtual 184, 3) := by decide +kernel
theorem dX4_sendBit_105 : decode cX4_sendBit 105 = .ok (.putfield 59, 3) := by decide +kernel
theorem dX4_sendBit_108 : decode cX4_sendBit 108 = .ok (.return_, 1) := by decide +kernel
theorem dX4_awaitAnswer_0 : decode cX4_awaitAnswer 0 = .ok (.aload_n 0, 1) := by decide +kernel
theorem dX4_awaitAnswer_1 : decode cX4_awaitAnswer 1 = .ok (.aload_n 0, 1) := by decide +kernel
theorem dX4_awaitAnswer_2 : decode cX4_awaitAnswer 2 = .ok (.iconst 0, 1) := by decide +kernel
theorem dX4_awaitAnswer_3 : decode cX4_awaitAnswer 3 = .ok (.invokevirtual 181, 3) := by decide +kernel
theorem dX4_awaitAnswer_6 : decode cX4_awaitAnswer 6 = .ok (.iconst 1, 1) := by decide +kernel
theorem dX4_awaitAnswer_7 : decode cX4_awaitAnswer 7 = .ok (.ishr, 1) := by decide +kernel
theorem dX4_awaitAnswer_8 : decode cX4_awaitAnswer 8 = .ok (.invokevirtual 100, 3) := by decide +kernel
theorem dX4_awaitAnswer_11 : decode cX4_awaitAnswer 11 = .ok (.astore_n 1, 1) := by decide +kernel
theorem dX4_awaitAnswer_12 : decode cX4_awaitAnswer 12 = .ok (.aload_n 0, 1) := by decide +kernel
theorem dX4_awaitAnswer_13 : decode cX4_awaitAnswer 13 = .ok (.getfield 30, 3) := by decide +kernel
theorem dX4_awaitAnswer_16 : decode cX4_awaitAnswer 16 = .ok (.aload_n 1, 1) := by decide +kernel
theorem dX4_awaitAnswer_17 : decode cX4_awaitAnswer 17 = .ok (.ifnonnull 7, 3) := by decide +kernel
theorem dX4_awaitAnswer_20 : decode cX4_awaitAnswer 20 = .ok (.iconst 1, 1) := by decide +kernel
theorem dX4_awaitAnswer_21 : decode cX4_awaitAnswer 21 = .ok (.goto 4, 3) := by decide +kernel
theorem dX4_awaitAnswer_24 : decode cX4_awaitAnswer 24 = .ok (.iconst 0, 1) := by decide +kernel
theorem dX4_awaitAnswer_25 : decode cX4_awaitAnswer 25 = .ok (.iconst 1, 1) := by decide +kernel
theorem dX4_awaitAnswer_26 : decode cX4_awaitAnswer 26 = .ok (.aload_n 0, 1) := by decide +kernel
theorem dX4_awaitAnswer_27 : decode cX4_awaitAnswer 27 = .ok (.getfield 52, 3) := by decide +kernel
theorem dX4_awaitAnswer_30 : decode cX4_awaitAnswer 30 = .ok (.iconst 0, 1) := by decide +kernel
theorem dX4_awaitAnswer_31 : decode cX4_awaitAnswer 31 = .ok (.invokevirtual 177, 3) := by decide +kernel
theorem dX4_awaitAnswer_34 : decode cX4_awaitAnswer 34 = .ok (.aload_n 1, 1) := by decide +kernel
theorem dX4_awaitAnswer_35 : decode cX4_awaitAnswer 35 = .ok (.ifnull 27, 3) := by decide +kernel
theorem dX4_awaitAnswer_38 : decode cX4_awaitAnswer 38 = .ok (.aload_n 0, 1) := by decide +kernel
theorem dX4_awaitAnswer_39 : decode cX4_awaitAnswer 39 = .ok (.getfield 56, 3) := by decide +kernel
theorem dX4_awaitAnswer_42 : decode cX4_awaitAnswer 42 = .ok (.bipush 8, 2) := by decide +kernel
theorem dX4_awaitAnswer_44 : decode cX4_awaitAnswer 44 = .ok (.if_icmp .le 18, 3) := by decide +kernel
theorem dX4_awaitAnswer_47 : decode cX4_awaitAnswer 47 = .ok (.aload_n 1, 1) := by decide +kernel
theorem dX4_awaitAnswer_48 : decode cX4_awaitAnswer 48 = .ok (.aload_n 0, 1) := by decide +kernel
theorem dX4_awaitAnswer_49 : decode cX4_awaitAnswer 49 = .ok (.aload_n 0, 1) := by decide +kernel
theorem dX4_awaitAnswer_50 : decode cX4_awaitAnswer 50 = .ok (.getfield 56, 3) := by decide +kernel
theorem dX4_awaitAnswer_53 : decode cX4_awaitAnswer 53 = .ok (.bipush 9, 2) := by decide +kernel
theorem dX4_awaitAnswer_55 : decode cX4_awaitAnswer 55 = .ok (.idiv, 1) := by decide +kernel
theorem dX4_awaitAnswer_56 : decode cX4_awaitAnswer 56 = .ok (.invokevirtual 181, 3) := by decide +kernel
theorem dX4_awaitAnswer_59 : decode cX4_awaitAnswer 59 = .ok (.invokevirtual 187, 3) := by decide +kernel
theorem dX4_awaitAnswer_62 : decode cX4_awaitAnswer 62 = .ok (.aload_n 0, 1) := by decide +kernel
theorem dX4_awaitAnswer_63 : decode cX4_awaitAnswer 63 = .ok (.getfield 11, 3) := by decide +kernel
theorem dX4_awaitAnswer_66 : decode cX4_awaitAnswer 66 = .ok (.astore_n 2, 1) := by decide +kernel
theorem dX4_awaitAnswer_67 : decode cX4_awaitAnswer 67 = .ok (.aload_n 2, 1) := by decide +kernel
theorem dX4_awaitAnswer_68 : decode cX4_awaitAnswer 68 = .ok (.arraylength, 1) := by decide +kernel
theorem dX4_awaitAnswer_69 : decode cX4_awaitAnswer 69 = .ok (.istore_n 3, 1) := by decide +kernel
theorem dX4_awaitAnswer_70 : decode cX4_awaitAnswer 70 = .ok (.iconst 0, 1) := by decide +kernel
theorem dX4_awaitAnswer_71 : decode cX4_awaitAnswer 71 = .ok (.istore 4, 2) := by decide +kernel
theorem dX4_awaitAnswer_73 : decode cX4_awaitAnswer 73 = .ok (.iload 4, 2) := by decide +kernel
theorem dX4_awaitAnswer_75 : decode cX4_awaitAnswer 75 = .ok (.iload_n 3, 1) := by decide +kernel
theorem dX4_awaitAnswer_76 : decode cX4_awaitAnswer 76 = .ok (.if_icmp .ge 65, 3) := by decide +kernel
theorem dX4_awaitAnswer_79 : decode cX4_awaitAnswer 79 = .ok (.aload_n 2, 1) := by decide +kernel
theorem dX4_awaitAnswer_80 : decode cX4_awaitAnswer 80 = .ok (.iload 4, 2) := by decide +kernel
theorem dX4_awaitAnswer_82 : decode cX4_awaitAnswer 82 = .ok (.aaload, 1) := by decide +kernel
theorem dX4_awaitAnswer_83 : decode cX4_awaitAnswer 83 = .ok (.astore 5, 2) := by decide +kernel
theorem dX4_awaitAnswer_85 : decode cX4_awaitAnswer 85 = .ok (.aload 5, 2) := by decide +kernel
theorem dX4_awaitAnswer_87 : decode cX4_awaitAnswer 87 = .ok (.getfield 89, 3) := by decide +kernel
theorem dX4_awaitAnswer_90 : decode cX4_awaitAnswer 90 = .ok (.ifCond .eq 20, 3) := by decide +kernel
theorem dX4_awaitAnswer_93 : decode cX4_awaitAnswer 93 = .ok (.aload_n 1, 1) := by decide +kernel
theorem dX4_awaitAnswer_94 : decode cX4_awaitAnswer 94 = .ok (.ifnonnull 16, 3) := by decide +kernel
theorem dX4_awaitAnswer_97 : decode cX4_awaitAnswer 97 = .ok (.aload 5, 2) := by decide +kernel
theorem dX4_awaitAnswer_99 : decode cX4_awaitAnswer 99 = .ok (.aload_n 0, 1) := by decide +kernel
theorem dX4_awaitAnswer_100 : decode cX4_awaitAnswer 100 = .ok (.iconst 1, 1) := by decide +kernel
theorem dX4_awaitAnswer_101 : decode cX4_awaitAnswer 101 = .ok (.invokevirtual 162, 3) := by decide +kernel
theorem dX4_awaitAnswer_104 : decode cX4_awaitAnswer 104 = .ok (.invokevirtual 190, 3) := by decide +kernel
theorem dX4_awaitAnswer_107 : decode cX4_awaitAnswer 107 = .ok (.goto 28, 3) := by decide +kernel
theorem dX4_awaitAnswer_110 : decode cX4_awaitAnswer 110 = .ok (.aload 5, 2) := by decide +kernel
theorem dX4_awaitAnswer_112 : decode cX4_awaitAnswer 112 = .ok (.getfield 89, 3) := by decide +kernel
theorem dX4_awaitAnswer_115 : decode cX4_awaitAnswer 115 = .ok (.ifCond .eq 20, 3) := by decide +kernel
theorem dX4_awaitAnswer_118 : decode cX4_awaitAnswer 118 = .ok (.aload 5, 2) := by decide +kernel
theorem dX4_awaitAnswer_120 : decode cX4_awaitAnswer 120 = .ok (.aload_n 0, 1) := by decide +kernel
theorem dX4_awaitAnswer_121 : decode cX4_awaitAnswer 121 = .ok (.getfield 56, 3) := by decide +kernel
theorem dX4_awaitAnswer_124 : decode cX4_awaitAnswer 124 = .ok (.invokestatic 193, 3) := by decide +kernel
theorem dX4_awaitAnswer_127 : decode cX4_awaitAnswer 127 = .ok (.ifCond .eq 8, 3) := by decide +kernel
theorem dX4_awaitAnswer_130 : decode cX4_awaitAnswer 130 = .ok (.aload 5, 2) := by decide +kernel
theorem dX4_awaitAnswer_132 : decode cX4_awaitAnswer 132 = .ok (.invokevirtual 197, 3) := by decide +kernel
theorem dX4_awaitAnswer_135 : decode cX4_awaitAnswer 135 = .ok (.iinc 4 1, 3) := by decide +kernel
theorem dX4_awaitAnswer_138 : decode cX4_awaitAnswer 138 = .ok (.goto (-65), 3) := by decide +kernel
theorem dX4_awaitAnswer_141 : decode cX4_awaitAnswer 141 = .ok (.aload_n 0, 1) := by decide +kernel
theorem dX4_awaitAnswer_142 : decode cX4_awaitAnswer 142 = .ok (.dup, 1) := by decide +kernel
theorem dX4_awaitAnswer_143 : decode cX4_awaitAnswer 143 = .ok (.getfield 56, 3) := by decide +kernel
theorem dX4_awaitAnswer_146 : decode cX4_awaitAnswer 146 = .ok (.iconst 1, 1) := by decide +kernel
theorem dX4_awaitAnswer_147 : decode cX4_awaitAnswer 147 = .ok (.iadd, 1) := by decide +kernel
theorem dX4_awaitAnswer_148 : decode cX4_awaitAnswer 148 = .ok (.putfield 56, 3) := by decide +kernel
theorem dX4_awaitAnswer_151 : decode cX4_awaitAnswer 151 = .ok (.aload_n 0, 1) := by decide +kernel
theorem dX4_awaitAnswer_152 : decode cX4_awaitAnswer 152 = .ok (.invokevirtual 159, 3) := by decide +kernel
theorem dX4_awaitAnswer_155 : decode cX4_awaitAnswer 155 = .ok (.return_, 1) := by decide +kernel
theorem dX4_freeTick_0 : decode cX4_freeTick 0 = .ok (.aload_n 0, 1) := by decide +kernel
theorem dX4_freeTick_1 : decode cX4_freeTick 1 = .ok (.dup, 1) := by decide +kernel
theorem dX4_freeTick_2 : decode cX4_freeTick 2 = .ok (.getfield 62, 3) := by decide +kernel
theorem dX4_freeTick_5 : decode cX4_freeTick 5 = .ok (.iconst 1, 1) := by decide +kernel
theorem dX4_freeTick_6 : decode cX4_freeTick 6 = .ok (.iadd, 1) := by decide +kernel
theorem dX4_freeTick_7 : decode cX4_freeTick 7 = .ok (.putfield 62, 3) := by decide +kernel
theorem dX4_freeTick_10 : decode cX4_freeTick 10 = .ok (.aload_n 0, 1) := by decide +kernel
theorem dX4_freeTick_11 : decode cX4_freeTick 11 = .ok (.invokevirtual 200, 3) := by decide +kernel
theorem dX4_freeTick_14 : decode cX4_freeTick 14 = .ok (.istore_n 1, 1) := by decide +kernel
theorem dX4_freeTick_15 : decode cX4_freeTick 15 = .ok (.aload_n 0, 1) := by decide +kernel
theorem dX4_freeTick_16 : decode cX4_freeTick 16 = .ok (.getfield 62, 3) := by decide +kernel
theorem dX4_freeTick_19 : decode cX4_freeTick 19 = .ok (.aload_n 0, 1) := by decide +kernel
theorem dX4_freeTick_20 : decode cX4_freeTick 20 = .ok (.iconst 0, 1) := by decide +kernel
theorem dX4_freeTick_21 : decode cX4_freeTick 21 = .ok (.invokevirtual 162, 3) := by decide +kernel
theorem dX4_freeTick_24 : decode cX4_freeTick 24 = .ok (.if_icmp .lt 7, 3) := by decide +kernel
theorem dX4_freeTick_27 : decode cX4_freeTick 27 = .ok (.iload_n 1, 1) := by decide +kernel
theorem dX4_freeTick_28 : decode cX4_freeTick 28 = .ok (.ifCond .ne 4, 3) := by decide +kernel
theorem dX4_freeTick_31 : decode cX4_freeTick 31 = .ok (.return_, 1) := by decide +kernel
theorem dX4_freeTick_32 : decode cX4_freeTick 32 = .ok (.iconst 0, 1) := by decide +kernel
theorem dX4_freeTick_33 : decode cX4_freeTick 33 = .ok (.istore_n 2, 1) := by decide +kernel
theorem dX4_freeTick_34 : decode cX4_freeTick 34 = .ok (.iload_n 2, 1) := by decide +kernel
theorem dX4_freeTick_35 : decode cX4_freeTick 35 = .ok (.aload_n 0, 1) := by decide +kernel
theorem dX4_freeTick_36 : decode cX4_freeTick 36 = .ok (.getfield 11, 3) := by decide +kernel
theorem dX4_freeTick_39 : decode cX4_freeTick 39 = .ok (.arraylength, 1) := by decide +kernel
theorem dX4_freeTick_40 : decode cX4_freeTick 40 = .ok (.if_icmp .ge 23, 3) := by decide +kernel
theorem dX4_freeTick_43 : decode cX4_freeTick 43 = .ok (.aload_n 0, 1) := by decide +kernel
theorem dX4_freeTick_44 : decode cX4_freeTick 44 = .ok (.getfield 11, 3) := by decide +kernel
theorem dX4_freeTick_47 : decode cX4_freeTick 47 = .ok (.iload_n 2, 1) := by decide +kernel
theorem dX4_freeTick_48 : decode cX4_freeTick 48 = .ok (.aaload, 1) := by decide +kernel
theorem dX4_freeTick_49 : decode cX4_freeTick 49 = .ok (.iload_n 1, 1) := by decide +kernel
theorem dX4_freeTick_50 : decode cX4_freeTick 50 = .ok (.iload_n 2, 1) := by decide +kernel
theorem dX4_freeTick_51 : decode cX4_freeTick 51 = .ok (.invokestatic 203, 3) := by decide +kernel
theorem dX4_freeTick_54 : decode cX4_freeTick 54 = .ok (.putfield 89, 3) := by decide +kernel
theorem dX4_freeTick_57 : decode cX4_freeTick 57 = .ok (.iinc 2 1, 3) := by decide +kernel
theorem dX4_freeTick_60 : decode cX4_freeTick 60 = .ok (.goto (-26), 3) := by decide +kernel
theorem dX4_freeTick_63 : decode cX4_freeTick 63 = .ok (.aload_n 0, 1) := by decide +kernel
theorem dX4_freeTick_64 : decode cX4_freeTick 64 = .ok (.iconst 0, 1) := by decide +kernel
theorem dX4_freeTick_65 : decode cX4_freeTick 65 = .ok (.putfield 62, 3) := by decide +kernel
theorem dX4_freeTick_68 : decode cX4_freeTick 68 = .ok (.aload_n 0, 1) := by decide +kernel
theorem dX4_freeTick_69 : decode cX4_freeTick 69 = .ok (.dup, 1) := by decide +kernel
theorem dX4_freeTick_70 : decode cX4_freeTick 70 = .ok (.getfield 68, 3) := by decide +kernel
theorem dX4_freeTick_73 : decode cX4_freeTick 73 = .ok (.iconst 1, 1) := by decide +kernel
theorem dX4_freeTick_74 : decode cX4_freeTick 74 = .ok (.iadd, 1) := by decide +kernel
theorem dX4_freeTick_75 : decode cX4_freeTick 75 = .ok (.putfield 68, 3) := by decide +kernel
theorem dX4_freeTick_78 : decode cX4_freeTick 78 = .ok (.return_, 1) := by decide +kernel
theorem dX4_lose_0 : decode cX4_lose 0 = .ok (.iconst 0, 1) := by decide +kernel
theorem dX4_lose_1 : decode cX4_lose 1 = .ok (.istore_n 2, 1) := by decide +kernel
theorem dX4_lose_2 : decode cX4_lose 2 = .ok (.iload_n 2, 1) := by decide +kernel
theorem dX4_lose_3 : decode cX4_lose 3 = .ok (.aload_n 0, 1) := by decide +kernel
theorem dX4_lose_4 : decode cX4_lose 4 = .ok (.getfield 11, 3) := by decide +kernel
theorem dX4_lose_7 : decode cX4_lose 7 = .ok (.arraylength, 1) := by decide +kernel
theorem dX4_lose_8 : decode cX4_lose 8 = .ok (.if_icmp .ge 26, 3) := by decide +kernel
theorem dX4_lose_11 : decode cX4_lose 11 = .ok (.iload_n 1, 1) := by decide +kernel
theorem dX4_lose_12 : decode cX4_lose 12 = .ok (.iload_n 2, 1) := by decide +kernel
theorem dX4_lose_13 : decode cX4_lose 13 = .ok (.invokestatic 203, 3) := by decide +kernel
theorem dX4_lose_16 : decode cX4_lose 16 = .ok (.ifCond .eq 12, 3) := by decide +kernel
theorem dX4_lose_19 : decode cX4_lose 19 = .ok (.aload_n 0, 1) := by decide +kernel
theorem dX4_lose_20 : decode cX4_lose 20 = .ok (.getfield 11, 3) := by decide +kernel
theorem dX4_lose_23 : decode cX4_lose 23 = .ok (.iload_n 2, 1) := by decide +kernel
theorem dX4_lose_24 : decode cX4_lose 24 = .ok (.aaload, 1) := by decide +kernel
theorem dX4_lose_25 : decode cX4_lose 25 = .ok (.invokevirtual 206, 3) := by decide +kernel
theorem dX4_lose_28 : decode cX4_lose 28 = .ok (.iinc 2 1, 3) := by decide +kernel
theorem dX4_lose_31 : decode cX4_lose 31 = .ok (.goto (-29), 3) := by decide +kernel
theorem dX4_lose_34 : decode cX4_lose 34 = .ok (.return_, 1) := by decide +kernel
theorem dX4_endTalkIfEmpty_0 : decode cX4_endTalkIfEmpty 0 = .ok (.aload_n 0, 1) := by decide +kernel
theorem dX4_endTalkIfEmpty_1 : decode cX4_endTalkIfEmpty 1 = .ok (.invokevirtual 129, 3) := by decide +kernel
theorem dX4_endTalkIfEmpty_4 : decode cX4_endTalkIfEmpty 4 = .ok (.ifCond .ne 8, 3) := by decide +kernel
theorem dX4_endTalkIfEmpty_7 : decode cX4_endTalkIfEmpty 7 = .ok (.aload_n 0, 1) := by decide +kernel
theorem dX4_endTalkIfEmpty_8 : decode cX4_endTalkIfEmpty 8 = .ok (.iconst 0, 1) := by decide +kernel
theorem dX4_endTalkIfEmpty_9 : decode cX4_endTalkIfEmpty 9 = .ok (.putfield 56, 3) := by decide +kernel
theorem dX4_endTalkIfEmpty_12 : decode cX4_endTalkIfEmpty 12 = .ok (.return_, 1) := by decide +kernel
theorem dX4_speakerAt_0 : decode cX4_speakerAt 0 = .ok (.iload_n 1, 1) := by decide +kernel
theorem dX4_speakerAt_1 : decode cX4_speakerAt 1 = .ok (.aload_n 0, 1) := by decide +kernel
theorem dX4_speakerAt_2 : decode cX4_speakerAt 2 = .ok (.getfield 11, 3) := by decide +kernel
theorem dX4_speakerAt_5 : decode cX4_speakerAt 5 = .ok (.arraylength, 1) := by decide +kernel
theorem dX4_speakerAt_6 : decode cX4_speakerAt 6 = .ok (.invokestatic 78, 3) := by decide +kernel
theorem dX4_speakerAt_9 : decode cX4_speakerAt 9 = .ok (.ifCond .eq 12, 3) := by decide +kernel
theorem dX4_speakerAt_12 : decode cX4_speakerAt 12 = .ok (.aload_n 0, 1) := by decide +kernel
theorem dX4_speakerAt_13 : decode cX4_speakerAt 13 = .ok (.getfield 11, 3) := by decide +kernel
theorem dX4_speakerAt_16 : decode cX4_speakerAt 16 = .ok (.iload_n 1, 1) := by decide +kernel
theorem dX4_speakerAt_17 : decode cX4_speakerAt 17 = .ok (.aaload, 1) := by decide +kernel
theorem dX4_speakerAt_18 : decode cX4_speakerAt 18 = .ok (.goto 4, 3) := by decide +kernel
theorem dX4_speakerAt_21 : decode cX4_speakerAt 21 = .ok (.aconst_null, 1) := by decide +kernel
theorem dX4_speakerAt_22 : decode cX4_speakerAt 22 = .ok (.areturn, 1) := by decide +kernel
theorem dX4_listenerAt_0 : decode cX4_listenerAt 0 = .ok (.iload_n 1, 1) := by decide +kernel
theorem dX4_listenerAt_1 : decode cX4_listenerAt 1 = .ok (.aload_n 0, 1) := by decide +kernel
theorem dX4_listenerAt_2 : decode cX4_listenerAt 2 = .ok (.getfield 19, 3) := by decide +kernel
theorem dX4_listenerAt_5 : decode cX4_listenerAt 5 = .ok (.arraylength, 1) := by decide +kernel
theorem dX4_listenerAt_6 : decode cX4_listenerAt 6 = .ok (.invokestatic 78, 3) := by decide +kernel
theorem dX4_listenerAt_9 : decode cX4_listenerAt 9 = .ok (.ifCond .eq 12, 3) := by decide +kernel
theorem dX4_listenerAt_12 : decode cX4_listenerAt 12 = .ok (.aload_n 0, 1) := by decide +kernel
theorem dX4_listenerAt_13 : decode cX4_listenerAt 13 = .ok (.getfield 19, 3) := by decide +kernel
theorem dX4_listenerAt_16 : decode cX4_listenerAt 16 = .ok (.iload_n 1, 1) := by decide +kernel
theorem dX4_listenerAt_17 : decode cX4_listenerAt 17 = .ok (.aaload, 1) := by decide +kernel
theorem dX4_listenerAt_18 : decode cX4_listenerAt 18 = .ok (.goto 4, 3) := by decide +kernel
theorem dX4_listenerAt_21 : decode cX4_listenerAt 21 = .ok (.aconst_null, 1) := by decide +kernel
theorem dX4_listenerAt_22 : decode cX4_listenerAt 22 = .ok (.areturn, 1) := by decide +kernel
theorem dX4_listenerWith_0 : decode cX4_listenerWith 0 = .ok (.aload_n 0, 1) := by decide +kernel
theorem dX4_listenerWith_1 : decode cX4_listenerWith 1 = .ok (.getfield 19, 3) := by decide +kernel
theorem dX4_listenerWith_4 : decode cX4_listenerWith 4 = .ok (.astore_n 2, 1) := by decide +kernel
theorem dX4_listenerWith_5 : decode cX4_listenerWith 5 = .ok (.aload_n 2, 1) := by decide +kernel
theorem dX4_listenerWith_6 : decode cX4_listenerWith 6 = .ok (.arraylength, 1) := by decide +kernel
theorem dX4_listenerWith_7 : decode cX4_listenerWith 7 = .ok (.istore_n 3, 1) := by decide +kernel
theorem dX4_listenerWith_8 : decode cX4_listenerWith 8 = .ok (.iconst 0, 1) := by decide +kernel
theorem dX4_listenerWith_9 : decode cX4_listenerWith 9 = .ok (.istore 4, 2) := by decide +kernel
theorem dX4_listenerWith_11 : decode cX4_listenerWith 11 = .ok (.iload 4, 2) := by decide +kernel
theorem dX4_listenerWith_13 : decode cX4_listenerWith 13 = .ok (.iload_n 3, 1) := by decide +kernel
theorem dX4_listenerWith_14 : decode cX4_listenerWith 14 = .ok (.if_icmp .ge 33, 3) := by decide +kernel
theorem dX4_listenerWith_17 : decode cX4_listenerWith 17 = .ok (.aload_n 2, 1) := by decide +kernel
theorem dX4_listenerWith_18 : decode cX4_listenerWith 18 = .ok (.iload 4, 2) := by decide +kernel
theorem dX4_listenerWith_20 : decode cX4_listenerWith 20 = .ok (.aaload, 1) := by decide +kernel
theorem dX4_listenerWith_21 : decode cX4_listenerWith 21 = .ok (.astore 5, 2) := by decide +kernel
theorem dX4_listenerWith_23 : decode cX4_listenerWith 23 = .ok (.iload_n 1, 1) := by decide +kernel
theorem dX4_listenerWith_24 : decode cX4_listenerWith 24 = .ok (.bipush (-5), 2) := by decide +kernel
theorem dX4_listenerWith_26 : decode cX4_listenerWith 26 = .ok (.if_icmp .eq 15, 3) := by decide +kernel
theorem dX4_listenerWith_29 : decode cX4_listenerWith 29 = .ok (.aload 5, 2) := by decide +kernel
theorem dX4_listenerWith_31 : decode cX4_listenerWith 31 = .ok (.getfield 103, 3) := by decide +kernel
theorem dX4_listenerWith_34 : decode cX4_listenerWith 34 = .ok (.iload_n 1, 1) := by decide +kernel
theorem dX4_listenerWith_35 : decode cX4_listenerWith 35 = .ok (.if_icmp .ne 6, 3) := by decide +kernel
theorem dX4_listenerWith_38 : decode cX4_listenerWith 38 = .ok (.aload 5, 2) := by decide +kernel
theorem dX4_listenerWith_40 : decode cX4_listenerWith 40 = .ok (.areturn, 1) := by decide +kernel
theorem dX4_listenerWith_41 : decode cX4_listenerWith 41 = .ok (.iinc 4 1, 3) := by decide +kernel
theorem dX4_listenerWith_44 : decode cX4_listenerWith 44 = .ok (.goto (-33), 3) := by decide +kernel
theorem dX4_listenerWith_47 : decode cX4_listenerWith 47 = .ok (.aconst_null, 1) := by decide +kernel
theorem dX4_listenerWith_48 : decode cX4_listenerWith 48 = .ok (.areturn, 1) := by decide +kernel
theorem dX4_listenersWithAddress_0 : decode cX4_listenersWithAddress 0 = .ok (.iconst 0, 1) := by decide +kernel
theorem dX4_listenersWithAddress_1 : decode cX4_listenersWithAddress 1 = .ok (.istore_n 1, 1) := by decide +kernel
theorem dX4_listenersWithAddress_2 : decode cX4_listenersWithAddress 2 = .ok (.aload_n 0, 1) := by decide +kernel
theorem dX4_listenersWithAddress_3 : decode cX4_listenersWithAddress 3 = .ok (.getfield 19, 3) := by decide +kernel
theorem dX4_listenersWithAddress_6 : decode cX4_listenersWithAddress 6 = .ok (.astore_n 2, 1) := by decide +kernel
theorem dX4_listenersWithAddress_7 : decode cX4_listenersWithAddress 7 = .ok (.aload_n 2, 1) := by decide +kernel
theorem dX4_listenersWithAddress_8 : decode cX4_listenersWithAddress 8 = .ok (.arraylength, 1) := by decide +kernel
theorem dX4_listenersWithAddress_9 : decode cX4_listenersWithAddress 9 = .ok (.istore_n 3, 1) := by decide +kernel
theorem dX4_listenersWithAddress_10 : decode cX4_listenersWithAddress 10 = .ok (.iconst 0, 1) := by decide +kernel
theorem dX4_listenersWithAddress_11 : decode cX4_listenersWithAddress 11 = .ok (.istore 4, 2) := by decide +kernel
theorem dX4_listenersWithAddress_13 : decode cX4_listenersWithAddress 13 = .ok (.iload 4, 2) := by decide +kernel
theorem dX4_listenersWithAddress_15 : decode cX4_listenersWithAddress 15 = .ok (.iload_n 3, 1) := by decide +kernel
theorem dX4_listenersWithAddress_16 : decode cX4_listenersWithAddress 16 = .ok (.if_icmp .ge 33, 3) := by decide +kernel
theorem dX4_listenersWithAddress_19 : decode cX4_listenersWithAddress 19 = .ok (.aload_n 2, 1) := by decide +kernel
theorem dX4_listenersWithAddress_20 : decode cX4_listenersWithAddress 20 = .ok (.iload 4, 2) := by decide +kernel
theorem dX4_listenersWithAddress_22 : decode cX4_listenersWithAddress 22 = .ok (.aaload, 1) := by decide +kernel
theorem dX4_listenersWithAddress_23 : decode cX4_listenersWithAddress 23 = .ok (.astore 5, 2) := by decide +kernel
theorem dX4_listenersWithAddress_25 : decode cX4_listenersWithAddress 25 = .ok (.iload_n 1, 1) := by decide +kernel
theorem dX4_listenersWithAddress_26 : decode cX4_listenersWithAddress 26 = .ok (.aload 5, 2) := by decide +kernel
theorem dX4_listenersWithAddress_28 : decode cX4_listenersWithAddress 28 = .ok (.getfield 103, 3) := by decide +kernel
theorem dX4_listenersWithAddress_31 : decode cX4_listenersWithAddress 31 = .ok (.bipush (-5), 2) := by decide +kernel
theorem dX4_listenersWithAddress_33 : decode cX4_listenersWithAddress 33 = .ok (.if_icmp .ne 7, 3) := by decide +kernel
theorem dX4_listenersWithAddress_36 : decode cX4_listenersWithAddress 36 = .ok (.iconst 0, 1) := by decide +kernel
theorem dX4_listenersWithAddress_37 : decode cX4_listenersWithAddress 37 = .ok (.goto 4, 3) := by decide +kernel
theorem dX4_listenersWithAddress_40 : decode cX4_listenersWithAddress 40 = .ok (.iconst 1, 1) := by decide +kernel
theorem dX4_listenersWithAddress_41 : decode cX4_listenersWithAddress 41 = .ok (.iadd, 1) := by decide +kernel
theorem dX4_listenersWithAddress_42 : decode cX4_listenersWithAddress 42 = .ok (.istore_n 1, 1) := by decide +kernel
theorem dX4_listenersWithAddress_43 : decode cX4_listenersWithAddress 43 = .ok (.iinc 4 1, 3) := by decide +kernel
theorem dX4_listenersWithAddress_46 : decode cX4_listenersWithAddress 46 = .ok (.goto (-33), 3) := by decide +kernel
theorem dX4_listenersWithAddress_49 : decode cX4_listenersWithAddress 49 = .ok (.iload_n 1, 1) := by decide +kernel
theorem dX4_listenersWithAddress_50 : decode cX4_listenersWithAddress 50 = .ok (.ireturn, 1) := by decide +kernel
theorem dX4_stuckListeners_0 : decode cX4_stuckListeners 0 = .ok (.iconst 0, 1) := by decide +kernel
theorem dX4_stuckListeners_1 : decode cX4_stuckListeners 1 = .ok (.istore_n 1, 1) := by decide +kernel
theorem dX4_stuckListeners_2 : decode cX4_stuckListeners 2 = .ok (.aload_n 0, 1) := by decide +kernel
theorem dX4_stuckListeners_3 : decode cX4_stuckListeners 3 = .ok (.getfield 19, 3) := by decide +kernel
theorem dX4_stuckListeners_6 : decode cX4_stuckListeners 6 = .ok (.astore_n 2, 1) := by decide +kernel
theorem dX4_stuckListeners_7 : decode cX4_stuckListeners 7 = .ok (.aload_n 2, 1) := by decide +kernel
theorem dX4_stuckListeners_8 : decode cX4_stuckListeners 8 = .ok (.arraylength, 1) := by decide +kernel
theorem dX4_stuckListeners_9 : decode cX4_stuckListeners 9 = .ok (.istore_n 3, 1) := by decide +kernel
theorem dX4_stuckListeners_10 : decode cX4_stuckListeners 10 = .ok (.iconst 0, 1) := by decide +kernel
theorem dX4_stuckListeners_11 : decode cX4_stuckListeners 11 = .ok (.istore 4, 2) := by decide +kernel
theorem dX4_stuckListeners_13 : decode cX4_stuckListeners 13 = .ok (.iload 4, 2) := by decide +kernel
theorem dX4_stuckListeners_15 : decode cX4_stuckListeners 15 = .ok (.iload_n 3, 1) := by decide +kernel
theorem dX4_stuckListeners_16 : decode cX4_stuckListeners 16 = .ok (.if_icmp .ge 31, 3) := by decide +kernel
theorem dX4_stuckListeners_19 : decode cX4_stuckListeners 19 = .ok (.aload_n 2, 1) := by decide +kernel
theorem dX4_stuckListeners_20 : decode cX4_stuckListeners 20 = .ok (.iload 4, 2) := by decide +kernel
theorem dX4_stuckListeners_22 : decode cX4_stuckListeners 22 = .ok (.aaload, 1) := by decide +kernel
theorem dX4_stuckListeners_23 : decode cX4_stuckListeners 23 = .ok (.astore 5, 2) := by decide +kernel
theorem dX4_stuckListeners_25 : decode cX4_stuckListeners 25 = .ok (.iload_n 1, 1) := by decide +kernel
theorem dX4_stuckListeners_26 : decode cX4_stuckListeners 26 = .ok (.aload 5, 2) := by decide +kernel
theorem dX4_stuckListeners_28 : decode cX4_stuckListeners 28 = .ok (.getfield 113, 3) := by decide +kernel
theorem dX4_stuckListeners_31 : decode cX4_stuckListeners 31 = .ok (.ifCond .le 7, 3) := by decide +kernel
theorem dX4_stuckListeners_34 : decode cX4_stuckListeners 34 = .ok (.iconst 1, 1) := by decide +kernel
theorem dX4_stuckListeners_35 : decode cX4_stuckListeners 35 = .ok (.goto 4, 3) := by decide +kernel
theorem dX4_stuckListeners_38 : decode cX4_stuckListeners 38 = .ok (.iconst 0, 1) := by decide +kernel
theorem dX4_stuckListeners_39 : decode cX4_stuckListeners 39 = .ok (.iadd, 1) := by decide +kernel
theorem dX4_stuckListeners_40 : decode cX4_stuckListeners 40 = .ok (.istore_n 1, 1) := by decide +kernel
