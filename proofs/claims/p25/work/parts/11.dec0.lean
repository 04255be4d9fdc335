theorem dJ6_bitCount_0f7a4_0 : decode cJ6_bitCount_0f7a4 0 = .ok (.iload_n 0, 1) := by decide +kernel
theorem dJ6_bitCount_0f7a4_1 : decode cJ6_bitCount_0f7a4 1 = .ok (.iload_n 0, 1) := by decide +kernel
theorem dJ6_bitCount_0f7a4_2 : decode cJ6_bitCount_0f7a4 2 = .ok (.iconst 1, 1) := by decide +kernel
theorem dJ6_bitCount_0f7a4_3 : decode cJ6_bitCount_0f7a4 3 = .ok (.iushr, 1) := by decide +kernel
theorem dJ6_bitCount_0f7a4_4 : decode cJ6_bitCount_0f7a4 4 = .ok (.ldc_w 265, 3) := by decide +kernel
theorem dJ6_bitCount_0f7a4_7 : decode cJ6_bitCount_0f7a4 7 = .ok (.iand, 1) := by decide +kernel
theorem dJ6_bitCount_0f7a4_8 : decode cJ6_bitCount_0f7a4 8 = .ok (.isub, 1) := by decide +kernel
theorem dJ6_bitCount_0f7a4_9 : decode cJ6_bitCount_0f7a4 9 = .ok (.istore_n 0, 1) := by decide +kernel
theorem dJ6_bitCount_0f7a4_10 : decode cJ6_bitCount_0f7a4 10 = .ok (.iload_n 0, 1) := by decide +kernel
theorem dJ6_bitCount_0f7a4_11 : decode cJ6_bitCount_0f7a4 11 = .ok (.ldc_w 266, 3) := by decide +kernel
theorem dJ6_bitCount_0f7a4_14 : decode cJ6_bitCount_0f7a4 14 = .ok (.iand, 1) := by decide +kernel
theorem dJ6_bitCount_0f7a4_15 : decode cJ6_bitCount_0f7a4 15 = .ok (.iload_n 0, 1) := by decide +kernel
theorem dJ6_bitCount_0f7a4_16 : decode cJ6_bitCount_0f7a4 16 = .ok (.iconst 2, 1) := by decide +kernel
theorem dJ6_bitCount_0f7a4_17 : decode cJ6_bitCount_0f7a4 17 = .ok (.iushr, 1) := by decide +kernel
theorem dJ6_bitCount_0f7a4_18 : decode cJ6_bitCount_0f7a4 18 = .ok (.ldc_w 266, 3) := by decide +kernel
theorem dJ6_bitCount_0f7a4_21 : decode cJ6_bitCount_0f7a4 21 = .ok (.iand, 1) := by decide +kernel
theorem dJ6_bitCount_0f7a4_22 : decode cJ6_bitCount_0f7a4 22 = .ok (.iadd, 1) := by decide +kernel
theorem dJ6_bitCount_0f7a4_23 : decode cJ6_bitCount_0f7a4 23 = .ok (.istore_n 0, 1) := by decide +kernel
theorem dJ6_bitCount_0f7a4_24 : decode cJ6_bitCount_0f7a4 24 = .ok (.iload_n 0, 1) := by decide +kernel
theorem dJ6_bitCount_0f7a4_25 : decode cJ6_bitCount_0f7a4 25 = .ok (.iload_n 0, 1) := by decide +kernel
theorem dJ6_bitCount_0f7a4_26 : decode cJ6_bitCount_0f7a4 26 = .ok (.iconst 4, 1) := by decide +kernel
theorem dJ6_bitCount_0f7a4_27 : decode cJ6_bitCount_0f7a4 27 = .ok (.iushr, 1) := by decide +kernel
theorem dJ6_bitCount_0f7a4_28 : decode cJ6_bitCount_0f7a4 28 = .ok (.iadd, 1) := by decide +kernel
theorem dJ6_bitCount_0f7a4_29 : decode cJ6_bitCount_0f7a4 29 = .ok (.ldc_w 267, 3) := by decide +kernel
theorem dJ6_bitCount_0f7a4_32 : decode cJ6_bitCount_0f7a4 32 = .ok (.iand, 1) := by decide +kernel
theorem dJ6_bitCount_0f7a4_33 : decode cJ6_bitCount_0f7a4 33 = .ok (.istore_n 0, 1) := by decide +kernel
theorem dJ6_bitCount_0f7a4_34 : decode cJ6_bitCount_0f7a4 34 = .ok (.iload_n 0, 1) := by decide +kernel
theorem dJ6_bitCount_0f7a4_35 : decode cJ6_bitCount_0f7a4 35 = .ok (.iload_n 0, 1) := by decide +kernel
theorem dJ6_bitCount_0f7a4_36 : decode cJ6_bitCount_0f7a4 36 = .ok (.bipush 8, 2) := by decide +kernel
theorem dJ6_bitCount_0f7a4_38 : decode cJ6_bitCount_0f7a4 38 = .ok (.iushr, 1) := by decide +kernel
theorem dJ6_bitCount_0f7a4_39 : decode cJ6_bitCount_0f7a4 39 = .ok (.iadd, 1) := by decide +kernel
theorem dJ6_bitCount_0f7a4_40 : decode cJ6_bitCount_0f7a4 40 = .ok (.istore_n 0, 1) := by decide +kernel
theorem dJ6_bitCount_0f7a4_41 : decode cJ6_bitCount_0f7a4 41 = .ok (.iload_n 0, 1) := by decide +kernel
theorem dJ6_bitCount_0f7a4_42 : decode cJ6_bitCount_0f7a4 42 = .ok (.iload_n 0, 1) := by decide +kernel
theorem dJ6_bitCount_0f7a4_43 : decode cJ6_bitCount_0f7a4 43 = .ok (.bipush 16, 2) := by decide +kernel
theorem dJ6_bitCount_0f7a4_45 : decode cJ6_bitCount_0f7a4 45 = .ok (.iushr, 1) := by decide +kernel
theorem dJ6_bitCount_0f7a4_46 : decode cJ6_bitCount_0f7a4 46 = .ok (.iadd, 1) := by decide +kernel
theorem dJ6_bitCount_0f7a4_47 : decode cJ6_bitCount_0f7a4 47 = .ok (.istore_n 0, 1) := by decide +kernel
theorem dJ6_bitCount_0f7a4_48 : decode cJ6_bitCount_0f7a4 48 = .ok (.iload_n 0, 1) := by decide +kernel
theorem dJ6_bitCount_0f7a4_49 : decode cJ6_bitCount_0f7a4 49 = .ok (.bipush 63, 2) := by decide +kernel
theorem dJ6_bitCount_0f7a4_51 : decode cJ6_bitCount_0f7a4 51 = .ok (.iand, 1) := by decide +kernel
theorem dJ6_bitCount_0f7a4_52 : decode cJ6_bitCount_0f7a4 52 = .ok (.ireturn, 1) := by decide +kernel
theorem dJ9_floorMod_7cf53_0 : decode cJ9_floorMod_7cf53 0 = .ok (.iload_n 0, 1) := by decide +kernel
theorem dJ9_floorMod_7cf53_1 : decode cJ9_floorMod_7cf53 1 = .ok (.iload_n 1, 1) := by decide +kernel
theorem dJ9_floorMod_7cf53_2 : decode cJ9_floorMod_7cf53 2 = .ok (.irem, 1) := by decide +kernel
theorem dJ9_floorMod_7cf53_3 : decode cJ9_floorMod_7cf53 3 = .ok (.istore_n 2, 1) := by decide +kernel
theorem dJ9_floorMod_7cf53_4 : decode cJ9_floorMod_7cf53 4 = .ok (.iload_n 0, 1) := by decide +kernel
theorem dJ9_floorMod_7cf53_5 : decode cJ9_floorMod_7cf53 5 = .ok (.iload_n 1, 1) := by decide +kernel
theorem dJ9_floorMod_7cf53_6 : decode cJ9_floorMod_7cf53 6 = .ok (.ixor, 1) := by decide +kernel
theorem dJ9_floorMod_7cf53_7 : decode cJ9_floorMod_7cf53 7 = .ok (.ifCond .ge 11, 3) := by decide +kernel
theorem dJ9_floorMod_7cf53_10 : decode cJ9_floorMod_7cf53 10 = .ok (.iload_n 2, 1) := by decide +kernel
theorem dJ9_floorMod_7cf53_11 : decode cJ9_floorMod_7cf53 11 = .ok (.ifCond .eq 7, 3) := by decide +kernel
theorem dJ9_floorMod_7cf53_14 : decode cJ9_floorMod_7cf53 14 = .ok (.iload_n 2, 1) := by decide +kernel
theorem dJ9_floorMod_7cf53_15 : decode cJ9_floorMod_7cf53 15 = .ok (.iload_n 1, 1) := by decide +kernel
theorem dJ9_floorMod_7cf53_16 : decode cJ9_floorMod_7cf53 16 = .ok (.iadd, 1) := by decide +kernel
theorem dJ9_floorMod_7cf53_17 : decode cJ9_floorMod_7cf53 17 = .ok (.ireturn, 1) := by decide +kernel
theorem dJ9_floorMod_7cf53_18 : decode cJ9_floorMod_7cf53 18 = .ok (.iload_n 2, 1) := by decide +kernel
theorem dJ9_floorMod_7cf53_19 : decode cJ9_floorMod_7cf53 19 = .ok (.ireturn, 1) := by decide +kernel
theorem dJ9_max_7cf53_0 : decode cJ9_max_7cf53 0 = .ok (.iload_n 0, 1) := by decide +kernel
theorem dJ9_max_7cf53_1 : decode cJ9_max_7cf53 1 = .ok (.iload_n 1, 1) := by decide +kernel
theorem dJ9_max_7cf53_2 : decode cJ9_max_7cf53 2 = .ok (.if_icmp .lt 7, 3) := by decide +kernel
theorem dJ9_max_7cf53_5 : decode cJ9_max_7cf53 5 = .ok (.iload_n 0, 1) := by decide +kernel
theorem dJ9_max_7cf53_6 : decode cJ9_max_7cf53 6 = .ok (.goto 4, 3) := by decide +kernel
theorem dJ9_max_7cf53_9 : decode cJ9_max_7cf53 9 = .ok (.iload_n 1, 1) := by decide +kernel
theorem dJ9_max_7cf53_10 : decode cJ9_max_7cf53 10 = .ok (.ireturn, 1) := by decide +kernel
theorem dJ9_min_7cf53_0 : decode cJ9_min_7cf53 0 = .ok (.iload_n 0, 1) := by decide +kernel
theorem dJ9_min_7cf53_1 : decode cJ9_min_7cf53 1 = .ok (.iload_n 1, 1) := by decide +kernel
theorem dJ9_min_7cf53_2 : decode cJ9_min_7cf53 2 = .ok (.if_icmp .gt 7, 3) := by decide +kernel
theorem dJ9_min_7cf53_5 : decode cJ9_min_7cf53 5 = .ok (.iload_n 0, 1) := by decide +kernel
theorem dJ9_min_7cf53_6 : decode cJ9_min_7cf53 6 = .ok (.goto 4, 3) := by decide +kernel
theorem dJ9_min_7cf53_9 : decode cJ9_min_7cf53 9 = .ok (.iload_n 1, 1) := by decide +kernel
theorem dJ9_min_7cf53_10 : decode cJ9_min_7cf53 10 = .ok (.ireturn, 1) := by decide +kernel
theorem dX0_init_0 : decode cX0_init 0 = .ok (.aload_n 0, 1) := by decide +kernel
theorem dX0_init_1 : decode cX0_init 1 = .ok (.invokespecial 3, 3) := by decide +kernel
theorem dX0_init_4 : decode cX0_init 4 = .ok (.aload_n 0, 1) := by decide +kernel
theorem dX0_init_5 : decode cX0_init 5 = .ok (.sipush 256, 3) := by decide +kernel
theorem dX0_init_8 : decode cX0_init 8 = .ok (.newarray .int, 2) := by decide +kernel
theorem dX0_init_10 : decode cX0_init 10 = .ok (.putfield 11, 3) := by decide +kernel
theorem dX0_init_13 : decode cX0_init 13 = .ok (.return_, 1) := by decide +kernel
theorem dX0_copyFrom_0 : decode cX0_copyFrom 0 = .ok (.aload_n 1, 1) := by decide +kernel
theorem dX0_copyFrom_1 : decode cX0_copyFrom 1 = .ok (.getfield 11, 3) := by decide +kernel
theorem dX0_copyFrom_4 : decode cX0_copyFrom 4 = .ok (.iconst 0, 1) := by decide +kernel
theorem dX0_copyFrom_5 : decode cX0_copyFrom 5 = .ok (.aload_n 0, 1) := by decide +kernel
theorem dX0_copyFrom_6 : decode cX0_copyFrom 6 = .ok (.getfield 11, 3) := by decide +kernel
theorem dX0_copyFrom_9 : decode cX0_copyFrom 9 = .ok (.iconst 0, 1) := by decide +kernel
theorem dX0_copyFrom_10 : decode cX0_copyFrom 10 = .ok (.sipush 256, 3) := by decide +kernel
theorem dX0_copyFrom_13 : decode cX0_copyFrom 13 = .ok (.invokestatic 15, 3) := by decide +kernel
theorem dX0_copyFrom_16 : decode cX0_copyFrom 16 = .ok (.aload_n 0, 1) := by decide +kernel
theorem dX0_copyFrom_17 : decode cX0_copyFrom 17 = .ok (.aload_n 1, 1) := by decide +kernel
theorem dX0_copyFrom_18 : decode cX0_copyFrom 18 = .ok (.getfield 21, 3) := by decide +kernel
theorem dX0_copyFrom_21 : decode cX0_copyFrom 21 = .ok (.putfield 21, 3) := by decide +kernel
theorem dX0_copyFrom_24 : decode cX0_copyFrom 24 = .ok (.aload_n 0, 1) := by decide +kernel
theorem dX0_copyFrom_25 : decode cX0_copyFrom 25 = .ok (.aload_n 1, 1) := by decide +kernel
theorem dX0_copyFrom_26 : decode cX0_copyFrom 26 = .ok (.getfield 25, 3) := by decide +kernel
theorem dX0_copyFrom_29 : decode cX0_copyFrom 29 = .ok (.putfield 25, 3) := by decide +kernel
theorem dX0_copyFrom_32 : decode cX0_copyFrom 32 = .ok (.return_, 1) := by decide +kernel
theorem dX0_add_0 : decode cX0_add 0 = .ok (.aload_n 0, 1) := by decide +kernel
theorem dX0_add_1 : decode cX0_add 1 = .ok (.getfield 21, 3) := by decide +kernel
theorem dX0_add_4 : decode cX0_add 4 = .ok (.bipush 64, 2) := by decide +kernel
theorem dX0_add_6 : decode cX0_add 6 = .ok (.invokestatic 28, 3) := by decide +kernel
theorem dX0_add_9 : decode cX0_add 9 = .ok (.iconst 4, 1) := by decide +kernel
theorem dX0_add_10 : decode cX0_add 10 = .ok (.imul, 1) := by decide +kernel
theorem dX0_add_11 : decode cX0_add 11 = .ok (.istore 5, 2) := by decide +kernel
theorem dX0_add_13 : decode cX0_add 13 = .ok (.aload_n 0, 1) := by decide +kernel
theorem dX0_add_14 : decode cX0_add 14 = .ok (.getfield 11, 3) := by decide +kernel
theorem dX0_add_17 : decode cX0_add 17 = .ok (.iload 5, 2) := by decide +kernel
theorem dX0_add_19 : decode cX0_add 19 = .ok (.iload_n 1, 1) := by decide +kernel
theorem dX0_add_20 : decode cX0_add 20 = .ok (.iastore, 1) := by decide +kernel
theorem dX0_add_21 : decode cX0_add 21 = .ok (.aload_n 0, 1) := by decide +kernel
theorem dX0_add_22 : decode cX0_add 22 = .ok (.getfield 11, 3) := by decide +kernel
theorem dX0_add_25 : decode cX0_add 25 = .ok (.iload 5, 2) := by decide +kernel
theorem dX0_add_27 : decode cX0_add 27 = .ok (.iconst 1, 1) := by decide +kernel
theorem dX0_add_28 : decode cX0_add 28 = .ok (.iadd, 1) := by decide +kernel
theorem dX0_add_29 : decode cX0_add 29 = .ok (.iload_n 2, 1) := by decide +kernel
theorem dX0_add_30 : decode cX0_add 30 = .ok (.iastore, 1) := by decide +kernel
theorem dX0_add_31 : decode cX0_add 31 = .ok (.aload_n 0, 1) := by decide +kernel
theorem dX0_add_32 : decode cX0_add 32 = .ok (.getfield 11, 3) := by decide +kernel
theorem dX0_add_35 : decode cX0_add 35 = .ok (.iload 5, 2) := by decide +kernel
theorem dX0_add_37 : decode cX0_add 37 = .ok (.iconst 2, 1) := by decide +kernel
theorem dX0_add_38 : decode cX0_add 38 = .ok (.iadd, 1) := by decide +kernel
theorem dX0_add_39 : decode cX0_add 39 = .ok (.iload_n 3, 1) := by decide +kernel
theorem dX0_add_40 : decode cX0_add 40 = .ok (.iastore, 1) := by decide +kernel
theorem dX0_add_41 : decode cX0_add 41 = .ok (.aload_n 0, 1) := by decide +kernel
theorem dX0_add_42 : decode cX0_add 42 = .ok (.getfield 11, 3) := by decide +kernel
theorem dX0_add_45 : decode cX0_add 45 = .ok (.iload 5, 2) := by decide +kernel
theorem dX0_add_47 : decode cX0_add 47 = .ok (.iconst 3, 1) := by decide +kernel
theorem dX0_add_48 : decode cX0_add 48 = .ok (.iadd, 1) := by decide +kernel
theorem dX0_add_49 : decode cX0_add 49 = .ok (.iload 4, 2) := by decide +kernel
theorem dX0_add_51 : decode cX0_add 51 = .ok (.iastore, 1) := by decide +kernel
theorem dX0_add_52 : decode cX0_add 52 = .ok (.aload_n 0, 1) := by decide +kernel
theorem dX0_add_53 : decode cX0_add 53 = .ok (.aload_n 0, 1) := by decide +kernel
theorem dX0_add_54 : decode cX0_add 54 = .ok (.getfield 21, 3) := by decide +kernel
theorem dX0_add_57 : decode cX0_add 57 = .ok (.iconst 1, 1) := by decide +kernel
theorem dX0_add_58 : decode cX0_add 58 = .ok (.iadd, 1) := by decide +kernel
theorem dX0_add_59 : decode cX0_add 59 = .ok (.bipush 64, 2) := by decide +kernel
theorem dX0_add_61 : decode cX0_add 61 = .ok (.invokestatic 28, 3) := by decide +kernel
theorem dX0_add_64 : decode cX0_add 64 = .ok (.putfield 21, 3) := by decide +kernel
theorem dX0_add_67 : decode cX0_add 67 = .ok (.aload_n 0, 1) := by decide +kernel
theorem dX0_add_68 : decode cX0_add 68 = .ok (.aload_n 0, 1) := by decide +kernel
theorem dX0_add_69 : decode cX0_add 69 = .ok (.getfield 25, 3) := by decide +kernel
theorem dX0_add_72 : decode cX0_add 72 = .ok (.iconst 1, 1) := by decide +kernel
theorem dX0_add_73 : decode cX0_add 73 = .ok (.iadd, 1) := by decide +kernel
theorem dX0_add_74 : decode cX0_add 74 = .ok (.bipush 64, 2) := by decide +kernel
theorem dX0_add_76 : decode cX0_add 76 = .ok (.invokestatic 34, 3) := by decide +kernel
theorem dX0_add_79 : decode cX0_add 79 = .ok (.putfield 25, 3) := by decide +kernel
theorem dX0_add_82 : decode cX0_add 82 = .ok (.return_, 1) := by decide +kernel
theorem dX0_tell_0 : decode cX0_tell 0 = .ok (.iload_n 1, 1) := by decide +kernel
theorem dX0_tell_1 : decode cX0_tell 1 = .ok (.ifCond .lt 11, 3) := by decide +kernel
theorem dX0_tell_4 : decode cX0_tell 4 = .ok (.iload_n 2, 1) := by decide +kernel
theorem dX0_tell_5 : decode cX0_tell 5 = .ok (.iconst 4, 1) := by decide +kernel
theorem dX0_tell_6 : decode cX0_tell 6 = .ok (.invokestatic 37, 3) := by decide +kernel
theorem dX0_tell_9 : decode cX0_tell 9 = .ok (.ifCond .ne 6, 3) := by decide +kernel
theorem dX0_tell_12 : decode cX0_tell 12 = .ok (.bipush (-2), 2) := by decide +kernel
theorem dX0_tell_14 : decode cX0_tell 14 = .ok (.ireturn, 1) := by decide +kernel
theorem dX0_tell_15 : decode cX0_tell 15 = .ok (.iload_n 1, 1) := by decide +kernel
theorem dX0_tell_16 : decode cX0_tell 16 = .ok (.aload_n 0, 1) := by decide +kernel
theorem dX0_tell_17 : decode cX0_tell 17 = .ok (.getfield 25, 3) := by decide +kernel
theorem dX0_tell_20 : decode cX0_tell 20 = .ok (.if_icmp .lt 6, 3) := by decide +kernel
theorem dX0_tell_23 : decode cX0_tell 23 = .ok (.bipush (-5), 2) := by decide +kernel
theorem dX0_tell_25 : decode cX0_tell 25 = .ok (.ireturn, 1) := by decide +kernel
theorem dX0_tell_26 : decode cX0_tell 26 = .ok (.aload_n 0, 1) := by decide +kernel
theorem dX0_tell_27 : decode cX0_tell 27 = .ok (.getfield 11, 3) := by decide +kernel
theorem dX0_tell_30 : decode cX0_tell 30 = .ok (.aload_n 0, 1) := by decide +kernel
theorem dX0_tell_31 : decode cX0_tell 31 = .ok (.getfield 21, 3) := by decide +kernel
theorem dX0_tell_34 : decode cX0_tell 34 = .ok (.iconst 1, 1) := by decide +kernel
theorem dX0_tell_35 : decode cX0_tell 35 = .ok (.isub, 1) := by decide +kernel
theorem dX0_tell_36 : decode cX0_tell 36 = .ok (.iload_n 1, 1) := by decide +kernel
theorem dX0_tell_37 : decode cX0_tell 37 = .ok (.isub, 1) := by decide +kernel
theorem dX0_tell_38 : decode cX0_tell 38 = .ok (.bipush 64, 2) := by decide +kernel
theorem dX0_tell_40 : decode cX0_tell 40 = .ok (.invokestatic 28, 3) := by decide +kernel
theorem dX0_tell_43 : decode cX0_tell 43 = .ok (.iconst 4, 1) := by decide +kernel
theorem dX0_tell_44 : decode cX0_tell 44 = .ok (.imul, 1) := by decide +kernel
theorem dX0_tell_45 : decode cX0_tell 45 = .ok (.iload_n 2, 1) := by decide +kernel
theorem dX0_tell_46 : decode cX0_tell 46 = .ok (.iadd, 1) := by decide +kernel
theorem dX0_tell_47 : decode cX0_tell 47 = .ok (.iaload, 1) := by decide +kernel
theorem dX0_tell_48 : decode cX0_tell 48 = .ok (.ireturn, 1) := by decide +kernel
theorem dX1_init_0 : decode cX1_init 0 = .ok (.aload_n 0, 1) := by decide +kernel
theorem dX1_init_1 : decode cX1_init 1 = .ok (.invokespecial 3, 3) := by decide +kernel
theorem dX1_init_4 : decode cX1_init 4 = .ok (.aload_n 0, 1) := by decide +kernel
theorem dX1_init_5 : decode cX1_init 5 = .ok (.bipush (-5), 2) := by decide +kernel
theorem dX1_init_7 : decode cX1_init 7 = .ok (.putfield 9, 3) := by decide +kernel
theorem dX1_init_10 : decode cX1_init 10 = .ok (.aload_n 0, 1) := by decide +kernel
theorem dX1_init_11 : decode cX1_init 11 = .ok (.bipush (-5), 2) := by decide +kernel
theorem dX1_init_13 : decode cX1_init 13 = .ok (.putfield 15, 3) := by decide +kernel
theorem dX1_init_16 : decode cX1_init 16 = .ok (.return_, 1) := by decide +kernel
theorem dX1_copyFrom_0 : decode cX1_copyFrom 0 = .ok (.aload_n 0, 1) := by decide +kernel
theorem dX1_copyFrom_1 : decode cX1_copyFrom 1 = .ok (.aload_n 1, 1) := by decide +kernel
theorem dX1_copyFrom_2 : decode cX1_copyFrom 2 = .ok (.getfield 9, 3) := by decide +kernel
theorem dX1_copyFrom_5 : decode cX1_copyFrom 5 = .ok (.putfield 9, 3) := by decide +kernel
theorem dX1_copyFrom_8 : decode cX1_copyFrom 8 = .ok (.aload_n 0, 1) := by decide +kernel
theorem dX1_copyFrom_9 : decode cX1_copyFrom 9 = .ok (.aload_n 1, 1) := by decide +kernel
theorem dX1_copyFrom_10 : decode cX1_copyFrom 10 = .ok (.getfield 18, 3) := by decide +kernel
theorem dX1_copyFrom_13 : decode cX1_copyFrom 13 = .ok (.putfield 18, 3) := by decide +kernel
theorem dX1_copyFrom_16 : decode cX1_copyFrom 16 = .ok (.aload_n 0, 1) := by decide +kernel
theorem dX1_copyFrom_17 : decode cX1_copyFrom 17 = .ok (.aload_n 1, 1) := by decide +kernel
theorem dX1_copyFrom_18 : decode cX1_copyFrom 18 = .ok (.getfield 21, 3) := by decide +kernel
theorem dX1_copyFrom_21 : decode cX1_copyFrom 21 = .ok (.putfield 21, 3) := by decide +kernel
theorem dX1_copyFrom_24 : decode cX1_copyFrom 24 = .ok (.aload_n 0, 1) := by decide +kernel
theorem dX1_copyFrom_25 : decode cX1_copyFrom 25 = .ok (.aload_n 1, 1) := by decide +kernel
theorem dX1_copyFrom_26 : decode cX1_copyFrom 26 = .ok (.getfield 24, 3) := by decide +kernel
theorem dX1_copyFrom_29 : decode cX1_copyFrom 29 = .ok (.putfield 24, 3) := by decide +kernel
theorem dX1_copyFrom_32 : decode cX1_copyFrom 32 = .ok (.aload_n 0, 1) := by decide +kernel
theorem dX1_copyFrom_33 : decode cX1_copyFrom 33 = .ok (.aload_n 1, 1) := by decide +kernel
theorem dX1_copyFrom_34 : decode cX1_copyFrom 34 = .ok (.getfield 15, 3) := by decide +kernel
theorem dX1_copyFrom_37 : decode cX1_copyFrom 37 = .ok (.putfield 15, 3) := by decide +kernel
theorem dX1_copyFrom_40 : decode cX1_copyFrom 40 = .ok (.return_, 1) := by decide +kernel
theorem dX1_takeWord_0 : decode cX1_takeWord 0 = .ok (.aload_n 0, 1) := by decide +kernel
theorem dX1_takeWord_1 : decode cX1_takeWord 1 = .ok (.dup, 1) := by decide +kernel
theorem dX1_takeWord_2 : decode cX1_takeWord 2 = .ok (.getfield 24, 3) := by decide +kernel
theorem dX1_takeWord_5 : decode cX1_takeWord 5 = .ok (.iconst 1, 1) := by decide +kernel
theorem dX1_takeWord_6 : decode cX1_takeWord 6 = .ok (.iadd, 1) := by decide +kernel
theorem dX1_takeWord_7 : decode cX1_takeWord 7 = .ok (.putfield 24, 3) := by decide +kernel
theorem dX1_takeWord_10 : decode cX1_takeWord 10 = .ok (.aload_n 0, 1) := by decide +kernel
theorem dX1_takeWord_11 : decode cX1_takeWord 11 = .ok (.iload_n 1, 1) := by decide +kernel
theorem dX1_takeWord_12 : decode cX1_takeWord 12 = .ok (.putfield 15, 3) := by decide +kernel
theorem dX1_takeWord_15 : decode cX1_takeWord 15 = .ok (.return_, 1) := by decide +kernel
theorem dX2_init_0 : decode cX2_init 0 = .ok (.aload_n 0, 1) := by decide +kernel
theorem dX2_init_1 : decode cX2_init 1 = .ok (.invokespecial 3, 3) := by decide +kernel
theorem dX2_init_4 : decode cX2_init 4 = .ok (.aload_n 0, 1) := by decide +kernel
theorem dX2_init_5 : decode cX2_init 5 = .ok (.bipush 80, 2) := by decide +kernel
theorem dX2_init_7 : decode cX2_init 7 = .ok (.newarray .char, 2) := by decide +kernel
theorem dX2_init_9 : decode cX2_init 9 = .ok (.putfield 11, 3) := by decide +kernel
theorem dX2_init_12 : decode cX2_init 12 = .ok (.aload_n 0, 1) := by decide +kernel
theorem dX2_init_13 : decode cX2_init 13 = .ok (.iconst 4, 1) := by decide +kernel
theorem dX2_init_14 : decode cX2_init 14 = .ok (.newarray .int, 2) := by decide +kernel
theorem dX2_init_16 : decode cX2_init 16 = .ok (.putfield 15, 3) := by decide +kernel
theorem dX2_init_19 : decode cX2_init 19 = .ok (.aload_n 0, 1) := by decide +kernel
theorem dX2_init_20 : decode cX2_init 20 = .ok (.iconst (-1), 1) := by decide +kernel
theorem dX2_init_21 : decode cX2_init 21 = .ok (.putfield 19, 3) := by decide +kernel
theorem dX2_init_24 : decode cX2_init 24 = .ok (.return_, 1) := by decide +kernel
theorem dX3_init_0 : decode cX3_init 0 = .ok (.aload_n 0, 1) := by decide +kernel
theorem dX3_init_1 : decode cX3_init 1 = .ok (.invokespecial 3, 3) := by decide +kernel
theorem dX3_init_4 : decode cX3_init 4 = .ok (.aload_n 0, 1) := by decide +kernel
theorem dX3_init_5 : decode cX3_init 5 = .ok (.bipush 15, 2) := by decide +kernel
theorem dX3_init_7 : decode cX3_init 7 = .ok (.newarray .int, 2) := by decide +kernel
theorem dX3_init_9 : decode cX3_init 9 = .ok (.putfield 9, 3) := by decide +kernel
theorem dX3_init_12 : decode cX3_init 12 = .ok (.return_, 1) := by decide +kernel
theorem dX3_copyFrom_0 : decode cX3_copyFrom 0 = .ok (.aload_n 1, 1) := by decide +kernel
theorem dX3_copyFrom_1 : decode cX3_copyFrom 1 = .ok (.getfield 9, 3) := by decide +kernel
theorem dX3_copyFrom_4 : decode cX3_copyFrom 4 = .ok (.iconst 0, 1) := by decide +kernel
theorem dX3_copyFrom_5 : decode cX3_copyFrom 5 = .ok (.aload_n 0, 1) := by decide +kernel
theorem dX3_copyFrom_6 : decode cX3_copyFrom 6 = .ok (.getfield 9, 3) := by decide +kernel
theorem dX3_copyFrom_9 : decode cX3_copyFrom 9 = .ok (.iconst 0, 1) := by decide +kernel
theorem dX3_copyFrom_10 : decode cX3_copyFrom 10 = .ok (.bipush 15, 2) := by decide +kernel
theorem dX3_copyFrom_12 : decode cX3_copyFrom 12 = .ok (.invokestatic 15, 3) := by decide +kernel
theorem dX3_copyFrom_15 : decode cX3_copyFrom 15 = .ok (.aload_n 0, 1) := by decide +kernel
theorem dX3_copyFrom_16 : decode cX3_copyFrom 16 = .ok (.aload_n 1, 1) := by decide +kernel
theorem dX3_copyFrom_17 : decode cX3_copyFrom 17 = .ok (.getfield 21, 3) := by decide +kernel
theorem dX3_copyFrom_20 : decode cX3_copyFrom 20 = .ok (.putfield 21, 3) := by decide +kernel
theorem dX3_copyFrom_23 : decode cX3_copyFrom 23 = .ok (.aload_n 0, 1) := by decide +kernel
theorem dX3_copyFrom_24 : decode cX3_copyFrom 24 = .ok (.aload_n 1, 1) := by decide +kernel
theorem dX3_copyFrom_25 : decode cX3_copyFrom 25 = .ok (.getfield 25, 3) := by decide +kernel
theorem dX3_copyFrom_28 : decode cX3_copyFrom 28 = .ok (.putfield 25, 3) := by decide +kernel
theorem dX3_copyFrom_31 : decode cX3_copyFrom 31 = .ok (.aload_n 0, 1) := by decide +kernel
theorem dX3_copyFrom_32 : decode cX3_copyFrom 32 = .ok (.aload_n 1, 1) := by decide +kernel
theorem dX3_copyFrom_33 : decode cX3_copyFrom 33 = .ok (.getfield 29, 3) := by decide +kernel
theorem dX3_copyFrom_36 : decode cX3_copyFrom 36 = .ok (.putfield 29, 3) := by decide +kernel
theorem dX3_copyFrom_39 : decode cX3_copyFrom 39 = .ok (.aload_n 0, 1) := by decide +kernel
theorem dX3_copyFrom_40 : decode cX3_copyFrom 40 = .ok (.aload_n 1, 1) := by decide +kernel
theorem dX3_copyFrom_41 : decode cX3_copyFrom 41 = .ok (.getfield 32, 3) := by decide +kernel
theorem dX3_copyFrom_44 : decode cX3_copyFrom 44 = .ok (.putfield 32, 3) := by decide +kernel
theorem dX3_copyFrom_47 : decode cX3_copyFrom 47 = .ok (.aload_n 0, 1) := by decide +kernel
theorem dX3_copyFrom_48 : decode cX3_copyFrom 48 = .ok (.aload_n 1, 1) := by decide +kernel
theorem dX3_copyFrom_49 : decode cX3_copyFrom 49 = .ok (.getfield 35, 3) := by decide +kernel
theorem dX3_copyFrom_52 : decode cX3_copyFrom 52 = .ok (.putfield 35, 3) := by decide +kernel
theorem dX3_copyFrom_55 : decode cX3_copyFrom 55 = .ok (.aload_n 0, 1) := by decide +kernel
theorem dX3_copyFrom_56 : decode cX3_copyFrom 56 = .ok (.aload_n 1, 1) := by decide +kernel
theorem dX3_copyFrom_57 : decode cX3_copyFrom 57 = .ok (.getfield 38, 3) := by decide +kernel
theorem dX3_copyFrom_60 : decode cX3_copyFrom 60 = .ok (.putfield 38, 3) := by decide +kernel
theorem dX3_copyFrom_63 : decode cX3_copyFrom 63 = .ok (.aload_n 0, 1) := by decide +kernel
theorem dX3_copyFrom_64 : decode cX3_copyFrom 64 = .ok (.aload_n 1, 1) := by decide +kernel
theorem dX3_copyFrom_65 : decode cX3_copyFrom 65 = .ok (.getfield 41, 3) := by decide +kernel
theorem dX3_copyFrom_68 : decode cX3_copyFrom 68 = .ok (.putfield 41, 3) := by decide +kernel
theorem dX3_copyFrom_71 : decode cX3_copyFrom 71 = .ok (.return_, 1) := by decide +kernel
theorem dX3_append_0 : decode cX3_append 0 = .ok (.aload_n 0, 1) := by decide +kernel
theorem dX3_append_1 : decode cX3_append 1 = .ok (.getfield 21, 3) := by decide +kernel
theorem dX3_append_4 : decode cX3_append 4 = .ok (.iconst 5, 1) := by decide +kernel
theorem dX3_append_5 : decode cX3_append 5 = .ok (.invokestatic 44, 3) := by decide +kernel
theorem dX3_append_8 : decode cX3_append 8 = .ok (.ifCond .eq 55, 3) := by decide +kernel
theorem dX3_append_11 : decode cX3_append 11 = .ok (.aload_n 0, 1) := by decide +kernel
theorem dX3_append_12 : decode cX3_append 12 = .ok (.getfield 9, 3) := by decide +kernel
theorem dX3_append_15 : decode cX3_append 15 = .ok (.aload_n 0, 1) := by decide +kernel
theorem dX3_append_16 : decode cX3_append 16 = .ok (.getfield 21, 3) := by decide +kernel
theorem dX3_append_19 : decode cX3_append 19 = .ok (.iconst 3, 1) := by decide +kernel
theorem dX3_append_20 : decode cX3_append 20 = .ok (.imul, 1) := by decide +kernel
theorem dX3_append_21 : decode cX3_append 21 = .ok (.iload_n 1, 1) := by decide +kernel
theorem dX3_append_22 : decode cX3_append 22 = .ok (.iconst 1, 1) := by decide +kernel
theorem dX3_append_23 : decode cX3_append 23 = .ok (.ishl, 1) := by decide +kernel
theorem dX3_append_24 : decode cX3_append 24 = .ok (.iastore, 1) := by decide +kernel
theorem dX3_append_25 : decode cX3_append 25 = .ok (.aload_n 0, 1) := by decide +kernel
theorem dX3_append_26 : decode cX3_append 26 = .ok (.getfield 9, 3) := by decide +kernel
theorem dX3_append_29 : decode cX3_append 29 = .ok (.aload_n 0, 1) := by decide +kernel
theorem dX3_append_30 : decode cX3_append 30 = .ok (.getfield 21, 3) := by decide +kernel
theorem dX3_append_33 : decode cX3_append 33 = .ok (.iconst 3, 1) := by decide +kernel
theorem dX3_append_34 : decode cX3_append 34 = .ok (.imul, 1) := by decide +kernel
theorem dX3_append_35 : decode cX3_append 35 = .ok (.iconst 1, 1) := by decide +kernel
theorem dX3_append_36 : decode cX3_append 36 = .ok (.iadd, 1) := by decide +kernel
theorem dX3_append_37 : decode cX3_append 37 = .ok (.iload_n 2, 1) := by decide +kernel
theorem dX3_append_38 : decode cX3_append 38 = .ok (.iastore, 1) := by decide +kernel
theorem dX3_append_39 : decode cX3_append 39 = .ok (.aload_n 0, 1) := by decide +kernel
theorem dX3_append_40 : decode cX3_append 40 = .ok (.getfield 9, 3) := by decide +kernel
theorem dX3_append_43 : decode cX3_append 43 = .ok (.aload_n 0, 1) := by decide +kernel
theorem dX3_append_44 : decode cX3_append 44 = .ok (.getfield 21, 3) := by decide +kernel
theorem dX3_append_47 : decode cX3_append 47 = .ok (.iconst 3, 1) := by decide +kernel
theorem dX3_append_48 : decode cX3_append 48 = .ok (.imul, 1) := by decide +kernel
theorem dX3_append_49 : decode cX3_append 49 = .ok (.iconst 2, 1) := by decide +kernel
theorem dX3_append_50 : decode cX3_append 50 = .ok (.iadd, 1) := by decide +kernel
theorem dX3_append_51 : decode cX3_append 51 = .ok (.iload_n 3, 1) := by decide +kernel
theorem dX3_append_52 : decode cX3_append 52 = .ok (.iastore, 1) := by decide +kernel
theorem dX3_append_53 : decode cX3_append 53 = .ok (.aload_n 0, 1) := by decide +kernel
theorem dX3_append_54 : decode cX3_append 54 = .ok (.dup, 1) := by decide +kernel
theorem dX3_append_55 : decode cX3_append 55 = .ok (.getfield 21, 3) := by decide +kernel
theorem dX3_append_58 : decode cX3_append 58 = .ok (.iconst 1, 1) := by decide +kernel
theorem dX3_append_59 : decode cX3_append 59 = .ok (.iadd, 1) := by decide +kernel
theorem dX3_append_60 : decode cX3_append 60 = .ok (.putfield 21, 3) := by decide +kernel
theorem dX3_append_63 : decode cX3_append 63 = .ok (.return_, 1) := by decide +kernel
theorem dX3_removeLast_0 : decode cX3_removeLast 0 = .ok (.aload_n 0, 1) := by decide +kernel
theorem dX3_removeLast_1 : decode cX3_removeLast 1 = .ok (.getfield 21, 3) := by decide +kernel
theorem dX3_removeLast_4 : decode cX3_removeLast 4 = .ok (.ifCond .le 13, 3) := by decide +kernel
theorem dX3_removeLast_7 : decode cX3_removeLast 7 = .ok (.aload_n 0, 1) := by decide +kernel
theorem dX3_removeLast_8 : decode cX3_removeLast 8 = .ok (.dup, 1) := by decide +kernel
theorem dX3_removeLast_9 : decode cX3_removeLast 9 = .ok (.getfield 21, 3) := by decide +kernel
theorem dX3_removeLast_12 : decode cX3_removeLast 12 = .ok (.iconst 1, 1) := by decide +kernel
theorem dX3_removeLast_13 : decode cX3_removeLast 13 = .ok (.isub, 1) := by decide +kernel
theorem dX3_removeLast_14 : decode cX3_removeLast 14 = .ok (.putfield 21, 3) := by decide +kernel
theorem dX3_removeLast_17 : decode cX3_removeLast 17 = .ok (.aload_n 0, 1) := by decide +kernel
theorem dX3_removeLast_18 : decode cX3_removeLast 18 = .ok (.getfield 21, 3) := by decide +kernel
theorem dX3_removeLast_21 : decode cX3_removeLast 21 = .ok (.ifCond .ne 8, 3) := by decide +kernel
theorem dX3_removeLast_24 : decode cX3_removeLast 24 = .ok (.aload_n 0, 1) := by decide +kernel
theorem dX3_removeLast_25 : decode cX3_removeLast 25 = .ok (.iconst 0, 1) := by decide +kernel
theorem dX3_removeLast_26 : decode cX3_removeLast 26 = .ok (.putfield 41, 3) := by decide +kernel
theorem dX3_removeLast_29 : decode cX3_removeLast 29 = .ok (.return_, 1) := by decide +kernel
theorem dX3_removeFirst_0 : decode cX3_removeFirst 0 = .ok (.aload_n 0, 1) := by decide +kernel
theorem dX3_removeFirst_1 : decode cX3_removeFirst 1 = .ok (.getfield 9, 3) := by decide +kernel
theorem dX3_removeFirst_4 : decode cX3_removeFirst 4 = .ok (.iconst 3, 1) := by decide +kernel
theorem dX3_removeFirst_5 : decode cX3_removeFirst 5 = .ok (.aload_n 0, 1) := by decide +kernel
theorem dX3_removeFirst_6 : decode cX3_removeFirst 6 = .ok (.getfield 9, 3) := by decide +kernel
theorem dX3_removeFirst_9 : decode cX3_removeFirst 9 = .ok (.iconst 0, 1) := by decide +kernel
theorem dX3_removeFirst_10 : decode cX3_removeFirst 10 = .ok (.bipush 12, 2) := by decide +kernel
theorem dX3_removeFirst_12 : decode cX3_removeFirst 12 = .ok (.invokestatic 15, 3) := by decide +kernel
theorem dX3_removeFirst_15 : decode cX3_removeFirst 15 = .ok (.aload_n 0, 1) := by decide +kernel
theorem dX3_removeFirst_16 : decode cX3_removeFirst 16 = .ok (.getfield 21, 3) := by decide +kernel
theorem dX3_removeFirst_19 : decode cX3_removeFirst 19 = .ok (.ifCond .le 13, 3) := by decide +kernel
theorem dX3_removeFirst_22 : decode cX3_removeFirst 22 = .ok (.aload_n 0, 1) := by decide +kernel
theorem dX3_removeFirst_23 : decode cX3_removeFirst 23 = .ok (.dup, 1) := by decide +kernel
theorem dX3_removeFirst_24 : decode cX3_removeFirst 24 = .ok (.getfield 21, 3) := by decide +kernel
theorem dX3_removeFirst_27 : decode cX3_removeFirst 27 = .ok (.iconst 1, 1) := by decide +kernel
theorem dX3_removeFirst_28 : decode cX3_removeFirst 28 = .ok (.isub, 1) := by decide +kernel
theorem dX3_removeFirst_29 : decode cX3_removeFirst 29 = .ok (.putfield 21, 3) := by decide +kernel
theorem dX3_removeFirst_32 : decode cX3_removeFirst 32 = .ok (.aload_n 0, 1) := by decide +kernel
theorem dX3_removeFirst_33 : decode cX3_removeFirst 33 = .ok (.iconst 0, 1) := by decide +kernel
theorem dX3_removeFirst_34 : decode cX3_removeFirst 34 = .ok (.putfield 41, 3) := by decide +kernel
theorem dX3_removeFirst_37 : decode cX3_removeFirst 37 = .ok (.return_, 1) := by decide +kernel
theorem dX3_lose_0 : decode cX3_lose 0 = .ok (.aload_n 0, 1) := by decide +kernel
theorem dX3_lose_1 : decode cX3_lose 1 = .ok (.iconst 0, 1) := by decide +kernel
theorem dX3_lose_2 : decode cX3_lose 2 = .ok (.putfield 25, 3) := by decide +kernel
theorem dX3_lose_5 : decode cX3_lose 5 = .ok (.aload_n 0, 1) := by decide +kernel
theorem dX3_lose_6 : decode cX3_lose 6 = .ok (.dup, 1) := by decide +kernel
theorem dX3_lose_7 : decode cX3_lose 7 = .ok (.getfield 32, 3) := by decide +kernel
theorem dX3_lose_10 : decode cX3_lose 10 = .ok (.iconst 1, 1) := by decide +kernel
theorem dX3_lose_11 : decode cX3_lose 11 = .ok (.iadd, 1) := by decide +kernel
theorem dX3_lose_12 : decode cX3_lose 12 = .ok (.putfield 32, 3) := by decide +kernel
theorem dX3_lose_15 : decode cX3_lose 15 = .ok (.return_, 1) := by decide +kernel
theorem dX3_bringMessage_0 : decode cX3_bringMessage 0 = .ok (.aload_n 0, 1) := by decide +kernel
theorem dX3_bringMessage_1 : decode cX3_bringMessage 1 = .ok (.iconst 0, 1) := by decide +kernel
theorem dX3_bringMessage_2 : decode cX3_bringMessage 2 = .ok (.putfield 25, 3) := by decide +kernel
theorem dX3_bringMessage_5 : decode cX3_bringMessage 5 = .ok (.aload_n 0, 1) := by decide +kernel
theorem dX3_bringMessage_6 : decode cX3_bringMessage 6 = .ok (.dup, 1) := by decide +kernel
theorem dX3_bringMessage_7 : decode cX3_bringMessage 7 = .ok (.getfield 29, 3) := by decide +kernel
theorem dX3_bringMessage_10 : decode cX3_bringMessage 10 = .ok (.iconst 1, 1) := by decide +kernel
theorem dX3_bringMessage_11 : decode cX3_bringMessage 11 = .ok (.iadd, 1) := by decide +kernel
theorem dX3_bringMessage_12 : decode cX3_bringMessage 12 = .ok (.putfield 29, 3) := by decide +kernel
theorem dX3_bringMessage_15 : decode cX3_bringMessage 15 = .ok (.aload_n 0, 1) := by decide +kernel
theorem dX3_bringMessage_16 : decode cX3_bringMessage 16 = .ok (.invokevirtual 48, 3) := by decide +kernel
theorem dX3_bringMessage_19 : decode cX3_bringMessage 19 = .ok (.return_, 1) := by decide +kernel
theorem dX3_failMessage_0 : decode cX3_failMessage 0 = .ok (.aload_n 0, 1) := by decide +kernel
theorem dX3_failMessage_1 : decode cX3_failMessage 1 = .ok (.iconst 0, 1) := by decide +kernel
theorem dX3_failMessage_2 : decode cX3_failMessage 2 = .ok (.putfield 25, 3) := by decide +kernel
theorem dX3_failMessage_5 : decode cX3_failMessage 5 = .ok (.aload_n 0, 1) := by decide +kernel
theorem dX3_failMessage_6 : decode cX3_failMessage 6 = .ok (.dup, 1) := by decide +kernel
theorem dX3_failMessage_7 : decode cX3_failMessage 7 = .ok (.getfield 35, 3) := by decide +kernel
theorem dX3_failMessage_10 : decode cX3_failMessage 10 = .ok (.iconst 1, 1) := by decide +kernel
theorem dX3_failMessage_11 : decode cX3_failMessage 11 = .ok (.iadd, 1) := by decide +kernel
theorem dX3_failMessage_12 : decode cX3_failMessage 12 = .ok (.putfield 35, 3) := by decide +kernel
theorem dX3_failMessage_15 : decode cX3_failMessage 15 = .ok (.aload_n 0, 1) := by decide +kernel
theorem dX3_failMessage_16 : decode cX3_failMessage 16 = .ok (.dup, 1) := by decide +kernel
theorem dX3_failMessage_17 : decode cX3_failMessage 17 = .ok (.getfield 41, 3) := by decide +kernel
theorem dX3_failMessage_20 : decode cX3_failMessage 20 = .ok (.iconst 1, 1) := by decide +kernel
theorem dX3_failMessage_21 : decode cX3_failMessage 21 = .ok (.iadd, 1) := by decide +kernel
theorem dX3_failMessage_22 : decode cX3_failMessage 22 = .ok (.putfield 41, 3) := by decide +kernel
theorem dX3_failMessage_25 : decode cX3_failMessage 25 = .ok (.aload_n 0, 1) := by decide +kernel
theorem dX3_failMessage_26 : decode cX3_failMessage 26 = .ok (.getfield 41, 3) := by decide +kernel
theorem dX3_failMessage_29 : decode cX3_failMessage 29 = .ok (.iload_n 1, 1) := by decide +kernel
theorem dX3_failMessage_30 : decode cX3_failMessage 30 = .ok (.if_icmp .lt 17, 3) := by decide +kernel
theorem dX3_failMessage_33 : decode cX3_failMessage 33 = .ok (.aload_n 0, 1) := by decide +kernel
theorem dX3_failMessage_34 : decode cX3_failMessage 34 = .ok (.dup, 1) := by decide +kernel
theorem dX3_failMessage_35 : decode cX3_failMessage 35 = .ok (.getfield 38, 3) := by decide +kernel
theorem dX3_failMessage_38 : decode cX3_failMessage 38 = .ok (.iconst 1, 1) := by decide +kernel
theorem dX3_failMessage_39 : decode cX3_failMessage 39 = .ok (.iadd, 1) := by decide +kernel
theorem dX3_failMessage_40 : decode cX3_failMessage 40 = .ok (.putfield 38, 3) := by decide +kernel
theorem dX3_failMessage_43 : decode cX3_failMessage 43 = .ok (.aload_n 0, 1) := by decide +kernel
theorem dX3_failMessage_44 : decode cX3_failMessage 44 = .ok (.invokevirtual 48, 3) := by decide +kernel
theorem dX3_failMessage_47 : decode cX3_failMessage 47 = .ok (.return_, 1) := by decide +kernel
theorem dX3_part_0 : decode cX3_part 0 = .ok (.iload_n 1, 1) := by decide +kernel
theorem dX3_part_1 : decode cX3_part 1 = .ok (.ifCond .lt 21, 3) := by decide +kernel
theorem dX3_part_4 : decode cX3_part 4 = .ok (.iload_n 1, 1) := by decide +kernel
theorem dX3_part_5 : decode cX3_part 5 = .ok (.iconst 5, 1) := by decide +kernel
theorem dX3_part_6 : decode cX3_part 6 = .ok (.if_icmp .ge 16, 3) := by decide +kernel
theorem dX3_part_9 : decode cX3_part 9 = .ok (.iload_n 2, 1) := by decide +kernel
theorem dX3_part_10 : decode cX3_part 10 = .ok (.ifCond .lt 12, 3) := by decide +kernel
theorem dX3_part_13 : decode cX3_part 13 = .ok (.iload_n 2, 1) := by decide +kernel
theorem dX3_part_14 : decode cX3_part 14 = .ok (.iconst 3, 1) := by decide +kernel
theorem dX3_part_15 : decode cX3_part 15 = .ok (.if_icmp .ge 7, 3) := by decide +kernel
theorem dX3_part_18 : decode cX3_part 18 = .ok (.iconst 1, 1) := by decide +kernel
theorem dX3_part_19 : decode cX3_part 19 = .ok (.goto 4, 3) := by decide +kernel
theorem dX3_part_22 : decode cX3_part 22 = .ok (.iconst 0, 1) := by decide +kernel
theorem dX3_part_23 : decode cX3_part 23 = .ok (.istore_n 3, 1) := by decide +kernel
theorem dX3_part_24 : decode cX3_part 24 = .ok (.iload_n 3, 1) := by decide +kernel
theorem dX3_part_25 : decode cX3_part 25 = .ok (.ifCond .eq 16, 3) := by decide +kernel
theorem dX3_part_28 : decode cX3_part 28 = .ok (.aload_n 0, 1) := by decide +kernel
theorem dX3_part_29 : decode cX3_part 29 = .ok (.getfield 9, 3) := by decide +kernel
theorem dX3_part_32 : decode cX3_part 32 = .ok (.iload_n 1, 1) := by decide +kernel
theorem dX3_part_33 : decode cX3_part 33 = .ok (.iconst 3, 1) := by decide +kernel
theorem dX3_part_34 : decode cX3_part 34 = .ok (.imul, 1) := by decide +kernel
theorem dX3_part_35 : decode cX3_part 35 = .ok (.iload_n 2, 1) := by decide +kernel
theorem dX3_part_36 : decode cX3_part 36 = .ok (.iadd, 1) := by decide +kernel
theorem dX3_part_37 : decode cX3_part 37 = .ok (.iaload, 1) := by decide +kernel
theorem dX3_part_38 : decode cX3_part 38 = .ok (.goto 5, 3) := by decide +kernel
theorem dX3_part_41 : decode cX3_part 41 = .ok (.bipush (-5), 2) := by decide +kernel
theorem dX3_part_43 : decode cX3_part 43 = .ok (.ireturn, 1) := by decide +kernel
theorem dX3_partsAt_0 : decode cX3_partsAt 0 = .ok (.aload_n 0, 1) := by decide +kernel
theorem dX3_partsAt_1 : decode cX3_partsAt 1 = .ok (.iload_n 1, 1) := by decide +kernel
theorem dX3_partsAt_2 : decode cX3_partsAt 2 = .ok (.iconst 2, 1) := by decide +kernel
theorem dX3_partsAt_3 : decode cX3_partsAt 3 = .ok (.invokevirtual 51, 3) := by decide +kernel
theorem dX3_partsAt_6 : decode cX3_partsAt 6 = .ok (.bipush (-5), 2) := by decide +kernel
theorem dX3_partsAt_8 : decode cX3_partsAt 8 = .ok (.if_icmp .ne 7, 3) := by decide +kernel
theorem dX3_partsAt_11 : decode cX3_partsAt 11 = .ok (.iconst 2, 1) := by decide +kernel
theorem dX3_partsAt_12 : decode cX3_partsAt 12 = .ok (.goto 4, 3) := by decide +kernel
theorem dX3_partsAt_15 : decode cX3_partsAt 15 = .ok (.iconst 3, 1) := by decide +kernel
theorem dX3_partsAt_16 : decode cX3_partsAt 16 = .ok (.ireturn, 1) := by decide +kernel
theorem dX4_init_0 : decode cX4_init 0 = .ok (.aload_n 0, 1) := by decide +kernel
theorem dX4_init_1 : decode cX4_init 1 = .ok (.invokespecial 3, 3) := by decide +kernel
theorem dX4_init_4 : decode cX4_init 4 = .ok (.aload_n 0, 1) := by decide +kernel
theorem dX4_init_5 : decode cX4_init 5 = .ok (.iconst 4, 1) := by decide +kernel
theorem dX4_init_6 : decode cX4_init 6 = .ok (.anewarray 9, 3) := by decide +kernel
theorem dX4_init_9 : decode cX4_init 9 = .ok (.putfield 11, 3) := by decide +kernel
theorem dX4_init_12 : decode cX4_init 12 = .ok (.aload_n 0, 1) := by decide +kernel
theorem dX4_init_13 : decode cX4_init 13 = .ok (.iconst 4, 1) := by decide +kernel
theorem dX4_init_14 : decode cX4_init 14 = .ok (.anewarray 17, 3) := by decide +kernel
theorem dX4_init_17 : decode cX4_init 17 = .ok (.putfield 19, 3) := by decide +kernel
theorem dX4_init_20 : decode cX4_init 20 = .ok (.aload_n 0, 1) := by decide +kernel
theorem dX4_init_21 : decode cX4_init 21 = .ok (.iconst 3, 1) := by decide +kernel
theorem dX4_init_22 : decode cX4_init 22 = .ok (.newarray .int, 2) := by decide +kernel
theorem dX4_init_24 : decode cX4_init 24 = .ok (.dup, 1) := by decide +kernel
theorem dX4_init_25 : decode cX4_init 25 = .ok (.iconst 0, 1) := by decide +kernel
theorem dX4_init_26 : decode cX4_init 26 = .ok (.iconst 2, 1) := by decide +kernel
theorem dX4_init_27 : decode cX4_init 27 = .ok (.iastore, 1) := by decide +kernel
theorem dX4_init_28 : decode cX4_init 28 = .ok (.dup, 1) := by decide +kernel
theorem dX4_init_29 : decode cX4_init 29 = .ok (.iconst 1, 1) := by decide +kernel
theorem dX4_init_30 : decode cX4_init 30 = .ok (.iconst 2, 1) := by decide +kernel
theorem dX4_init_31 : decode cX4_init 31 = .ok (.iastore, 1) := by decide +kernel
theorem dX4_init_32 : decode cX4_init 32 = .ok (.dup, 1) := by decide +kernel
theorem dX4_init_33 : decode cX4_init 33 = .ok (.iconst 2, 1) := by decide +kernel
theorem dX4_init_34 : decode cX4_init 34 = .ok (.bipush 10, 2) := by decide +kernel
theorem dX4_init_36 : decode cX4_init 36 = .ok (.iastore, 1) := by decide +kernel
theorem dX4_init_37 : decode cX4_init 37 = .ok (.putfield 23, 3) := by decide +kernel
theorem dX4_init_40 : decode cX4_init 40 = .ok (.aload_n 0, 1) := by decide +kernel
theorem dX4_init_41 : decode cX4_init 41 = .ok (.new 27, 3) := by decide +kernel
theorem dX4_init_44 : decode cX4_init 44 = .ok (.dup, 1) := by decide +kernel
theorem dX4_init_45 : decode cX4_init 45 = .ok (.invokespecial 29, 3) := by decide +kernel
theorem dX4_init_48 : decode cX4_init 48 = .ok (.putfield 30, 3) := by decide +kernel
theorem dX4_init_51 : decode cX4_init 51 = .ok (.iconst 0, 1) := by decide +kernel
theorem dX4_init_52 : decode cX4_init 52 = .ok (.istore_n 1, 1) := by decide +kernel
theorem dX4_init_53 : decode cX4_init 53 = .ok (.iload_n 1, 1) := by decide +kernel
theorem dX4_init_54 : decode cX4_init 54 = .ok (.aload_n 0, 1) := by decide +kernel
theorem dX4_init_55 : decode cX4_init 55 = .ok (.getfield 11, 3) := by decide +kernel
theorem dX4_init_58 : decode cX4_init 58 = .ok (.arraylength, 1) := by decide +kernel
theorem dX4_init_59 : decode cX4_init 59 = .ok (.if_icmp .ge 22, 3) := by decide +kernel
theorem dX4_init_62 : decode cX4_init 62 = .ok (.aload_n 0, 1) := by decide +kernel
theorem dX4_init_63 : decode cX4_init 63 = .ok (.getfield 11, 3) := by decide +kernel
theorem dX4_init_66 : decode cX4_init 66 = .ok (.iload_n 1, 1) := by decide +kernel
theorem dX4_init_67 : decode cX4_init 67 = .ok (.new 9, 3) := by decide +kernel
theorem dX4_init_70 : decode cX4_init 70 = .ok (.dup, 1) := by decide +kernel
theorem dX4_init_71 : decode cX4_init 71 = .ok (.invokespecial 34, 3) := by decide +kernel
theorem dX4_init_74 : decode cX4_init 74 = .ok (.aastore, 1) := by decide +kernel
theorem dX4_init_75 : decode cX4_init 75 = .ok (.iinc 1 1, 3) := by decide +kernel
theorem dX4_init_78 : decode cX4_init 78 = .ok (.goto (-25), 3) := by decide +kernel
theorem dX4_init_81 : decode cX4_init 81 = .ok (.iconst 0, 1) := by decide +kernel
theorem dX4_init_82 : decode cX4_init 82 = .ok (.istore_n 1, 1) := by decide +kernel
theorem dX4_init_83 : decode cX4_init 83 = .ok (.iload_n 1, 1) := by decide +kernel
theorem dX4_init_84 : decode cX4_init 84 = .ok (.aload_n 0, 1) := by decide +kernel
theorem dX4_init_85 : decode cX4_init 85 = .ok (.getfield 19, 3) := by decide +kernel
theorem dX4_init_88 : decode cX4_init 88 = .ok (.arraylength, 1) := by decide +kernel
theorem dX4_init_89 : decode cX4_init 89 = .ok (.if_icmp .ge 22, 3) := by decide +kernel
theorem dX4_init_92 : decode cX4_init 92 = .ok (.aload_n 0, 1) := by decide +kernel
theorem dX4_init_93 : decode cX4_init 93 = .ok (.getfield 19, 3) := by decide +kernel
theorem dX4_init_96 : decode cX4_init 96 = .ok (.iload_n 1, 1) := by decide +kernel
theorem dX4_init_97 : decode cX4_init 97 = .ok (.new 17, 3) := by decide +kernel
theorem dX4_init_100 : decode cX4_init 100 = .ok (.dup, 1) := by decide +kernel
theorem dX4_init_101 : decode cX4_init 101 = .ok (.invokespecial 35, 3) := by decide +kernel
theorem dX4_init_104 : decode cX4_init 104 = .ok (.aastore, 1) := by decide +kernel
theorem dX4_init_105 : decode cX4_init 105 = .ok (.iinc 1 1, 3) := by decide +kernel
theorem dX4_init_108 : decode cX4_init 108 = .ok (.goto (-25), 3) := by decide +kernel
theorem dX4_init_111 : decode cX4_init 111 = .ok (.return_, 1) := by decide +kernel
theorem dX4_copyFrom_0 : decode cX4_copyFrom 0 = .ok (.iconst 0, 1) := by decide +kernel
theorem dX4_copyFrom_1 : decode cX4_copyFrom 1 = .ok (.istore_n 2, 1) := by decide +kernel
theorem dX4_copyFrom_2 : decode cX4_copyFrom 2 = .ok (.iload_n 2, 1) := by decide +kernel
theorem dX4_copyFrom_3 : decode cX4_copyFrom 3 = .ok (.iconst 4, 1) := by decide +kernel
theorem dX4_copyFrom_4 : decode cX4_copyFrom 4 = .ok (.if_icmp .ge 24, 3) := by decide +kernel
theorem dX4_copyFrom_7 : decode cX4_copyFrom 7 = .ok (.aload_n 0, 1) := by decide +kernel
theorem dX4_copyFrom_8 : decode cX4_copyFrom 8 = .ok (.getfield 11, 3) := by decide +kernel
theorem dX4_copyFrom_11 : decode cX4_copyFrom 11 = .ok (.iload_n 2, 1) := by decide +kernel
theorem dX4_copyFrom_12 : decode cX4_copyFrom 12 = .ok (.aaload, 1) := by decide +kernel
theorem dX4_copyFrom_13 : decode cX4_copyFrom 13 = .ok (.aload_n 1, 1) := by decide +kernel
theorem dX4_copyFrom_14 : decode cX4_copyFrom 14 = .ok (.getfield 11, 3) := by decide +kernel
theorem dX4_copyFrom_17 : decode cX4_copyFrom 17 = .ok (.iload_n 2, 1) := by decide +kernel
theorem dX4_copyFrom_18 : decode cX4_copyFrom 18 = .ok (.aaload, 1) := by decide +kernel
theorem dX4_copyFrom_19 : decode cX4_copyFrom 19 = .ok (.invokevirtual 36, 3) := by decide +kernel
theorem dX4_copyFrom_22 : decode cX4_copyFrom 22 = .ok (.iinc 2 1, 3) := by decide +kernel
theorem dX4_copyFrom_25 : decode cX4_copyFrom 25 = .ok (.goto (-23), 3) := by decide +kernel
theorem dX4_copyFrom_28 : decode cX4_copyFrom 28 = .ok (.iconst 0, 1) := by decide +kernel
theorem dX4_copyFrom_29 : decode cX4_copyFrom 29 = .ok (.istore_n 2, 1) := by decide +kernel
theorem dX4_copyFrom_30 : decode cX4_copyFrom 30 = .ok (.iload_n 2, 1) := by decide +kernel
theorem dX4_copyFrom_31 : decode cX4_copyFrom 31 = .ok (.iconst 4, 1) := by decide +kernel
theorem dX4_copyFrom_32 : decode cX4_copyFrom 32 = .ok (.if_icmp .ge 24, 3) := by decide +kernel
theorem dX4_copyFrom_35 : decode cX4_copyFrom 35 = .ok (.aload_n 0, 1) := by decide +kernel
theorem dX4_copyFrom_36 : decode cX4_copyFrom 36 = .ok (.getfield 19, 3) := by decide +kernel
theorem dX4_copyFrom_39 : decode cX4_copyFrom 39 = .ok (.iload_n 2, 1) := by decide +kernel
theorem dX4_copyFrom_40 : decode cX4_copyFrom 40 = .ok (.aaload, 1) := by decide +kernel
theorem dX4_copyFrom_41 : decode cX4_copyFrom 41 = .ok (.aload_n 1, 1) := by decide +kernel
theorem dX4_copyFrom_42 : decode cX4_copyFrom 42 = .ok (.getfield 19, 3) := by decide +kernel
theorem dX4_copyFrom_45 : decode cX4_copyFrom 45 = .ok (.iload_n 2, 1) := by decide +kernel
theorem dX4_copyFrom_46 : decode cX4_copyFrom 46 = .ok (.aaload, 1) := by decide +kernel
theorem dX4_copyFrom_47 : decode cX4_copyFrom 47 = .ok (.invokevirtual 40, 3) := by decide +kernel
theorem dX4_copyFrom_50 : decode cX4_copyFrom 50 = .ok (.iinc 2 1, 3) := by decide +kernel
theorem dX4_copyFrom_53 : decode cX4_copyFrom 53 = .ok (.goto (-23), 3) := by decide +kernel
theorem dX4_copyFrom_56 : decode cX4_copyFrom 56 = .ok (.aload_n 1, 1) := by decide +kernel
theorem dX4_copyFrom_57 : decode cX4_copyFrom 57 = .ok (.getfield 23, 3) := by decide +kernel
theorem dX4_copyFrom_60 : decode cX4_copyFrom 60 = .ok (.iconst 0, 1) := by decide +kernel
theorem dX4_copyFrom_61 : decode cX4_copyFrom 61 = .ok (.aload_n 0, 1) := by decide +kernel
theorem dX4_copyFrom_62 : decode cX4_copyFrom 62 = .ok (.getfield 23, 3) := by decide +kernel
theorem dX4_copyFrom_65 : decode cX4_copyFrom 65 = .ok (.iconst 0, 1) := by decide +kernel
theorem dX4_copyFrom_66 : decode cX4_copyFrom 66 = .ok (.iconst 3, 1) := by decide +kernel
theorem dX4_copyFrom_67 : decode cX4_copyFrom 67 = .ok (.invokestatic 43, 3) := by decide +kernel
theorem dX4_copyFrom_70 : decode cX4_copyFrom 70 = .ok (.aload_n 0, 1) := by decide +kernel
theorem dX4_copyFrom_71 : decode cX4_copyFrom 71 = .ok (.getfield 30, 3) := by decide +kernel
theorem dX4_copyFrom_74 : decode cX4_copyFrom 74 = .ok (.aload_n 1, 1) := by decide +kernel
theorem dX4_copyFrom_75 : decode cX4_copyFrom 75 = .ok (.getfield 30, 3) := by decide +kernel
theorem dX4_copyFrom_78 : decode cX4_copyFrom 78 = .ok (.invokevirtual 49, 3) := by decide +kernel
theorem dX4_copyFrom_81 : decode cX4_copyFrom 81 = .ok (.aload_n 0, 1) := by decide +kernel
theorem dX4_copyFrom_82 : decode cX4_copyFrom 82 = .ok (.aload_n 1, 1) := by decide +kernel
theorem dX4_copyFrom_83 : decode cX4_copyFrom 83 = .ok (.getfield 52, 3) := by decide +kernel
theorem dX4_copyFrom_86 : decode cX4_copyFrom 86 = .ok (.putfield 52, 3) := by decide +kernel
theorem dX4_copyFrom_89 : decode cX4_copyFrom 89 = .ok (.aload_n 0, 1) := by decide +kernel
theorem dX4_copyFrom_90 : decode cX4_copyFrom 90 = .ok (.aload_n 1, 1) := by decide +kernel
theorem dX4_copyFrom_91 : decode cX4_copyFrom 91 = .ok (.getfield 56, 3) := by decide +kernel
theorem dX4_copyFrom_94 : decode cX4_copyFrom 94 = .ok (.putfield 56, 3) := by decide +kernel
theorem dX4_copyFrom_97 : decode cX4_copyFrom 97 = .ok (.aload_n 0, 1) := by decide +kernel
theorem dX4_copyFrom_98 : decode cX4_copyFrom 98 = .ok (.aload_n 1, 1) := by decide +kernel
theorem dX4_copyFrom_99 : decode cX4_copyFrom 99 = .ok (.getfield 59, 3) := by decide +kernel
theorem dX4_copyFrom_102 : decode cX4_copyFrom 102 = .ok (.putfield 59, 3) := by decide +kernel
theorem dX4_copyFrom_105 : decode cX4_copyFrom 105 = .ok (.aload_n 0, 1) := by decide +kernel
theorem dX4_copyFrom_106 : decode cX4_copyFrom 106 = .ok (.aload_n 1, 1) := by decide +kernel
theorem dX4_copyFrom_107 : decode cX4_copyFrom 107 = .ok (.getfield 62, 3) := by decide +kernel
theorem dX4_copyFrom_110 : decode cX4_copyFrom 110 = .ok (.putfield 62, 3) := by decide +kernel
theorem dX4_copyFrom_113 : decode cX4_copyFrom 113 = .ok (.aload_n 0, 1) := by decide +kernel
theorem dX4_copyFrom_114 : decode cX4_copyFrom 114 = .ok (.aload_n 1, 1) := by decide +kernel
theorem dX4_copyFrom_115 : decode cX4_copyFrom 115 = .ok (.getfield 65, 3) := by decide +kernel
theorem dX4_copyFrom_118 : decode cX4_copyFrom 118 = .ok (.putfield 65, 3) := by decide +kernel
theorem dX4_copyFrom_121 : decode cX4_copyFrom 121 = .ok (.aload_n 0, 1) := by decide +kernel
theorem dX4_copyFrom_122 : decode cX4_copyFrom 122 = .ok (.aload_n 1, 1) := by decide +kernel
theorem dX4_copyFrom_123 : decode cX4_copyFrom 123 = .ok (.getfield 68, 3) := by decide +kernel
theorem dX4_copyFrom_126 : decode cX4_copyFrom 126 = .ok (.putfield 68, 3) := by decide +kernel
theorem dX4_copyFrom_129 : decode cX4_copyFrom 129 = .ok (.aload_n 0, 1) := by decide +kernel
theorem dX4_copyFrom_130 : decode cX4_copyFrom 130 = .ok (.aload_n 1, 1) := by decide +kernel
theorem dX4_copyFrom_131 : decode cX4_copyFrom 131 = .ok (.getfield 71, 3) := by decide +kernel
theorem dX4_copyFrom_134 : decode cX4_copyFrom 134 = .ok (.putfield 71, 3) := by decide +kernel
theorem dX4_copyFrom_137 : decode cX4_copyFrom 137 = .ok (.return_, 1) := by decide +kernel
theorem dX4_addMessage_0 : decode cX4_addMessage 0 = .ok (.aload_n 0, 1) := by decide +kernel
theorem dX4_addMessage_1 : decode cX4_addMessage 1 = .ok (.iload_n 1, 1) := by decide +kernel
theorem dX4_addMessage_2 : decode cX4_addMessage 2 = .ok (.invokevirtual 74, 3) := by decide +kernel
theorem dX4_addMessage_5 : decode cX4_addMessage 5 = .ok (.astore 5, 2) := by decide +kernel
theorem dX4_addMessage_7 : decode cX4_addMessage 7 = .ok (.aload 5, 2) := by decide +kernel
theorem dX4_addMessage_9 : decode cX4_addMessage 9 = .ok (.ifnonnull 5, 3) := by decide +kernel
theorem dX4_addMessage_12 : decode cX4_addMessage 12 = .ok (.iconst (-1), 1) := by decide +kernel
theorem dX4_addMessage_13 : decode cX4_addMessage 13 = .ok (.ireturn, 1) := by decide +kernel
theorem dX4_addMessage_14 : decode cX4_addMessage 14 = .ok (.iload_n 2, 1) := by decide +kernel
theorem dX4_addMessage_15 : decode cX4_addMessage 15 = .ok (.sipush 128, 3) := by decide +kernel
theorem dX4_addMessage_18 : decode cX4_addMessage 18 = .ok (.invokestatic 78, 3) := by decide +kernel
theorem dX4_addMessage_21 : decode cX4_addMessage 21 = .ok (.ifCond .eq 13, 3) := by decide +kernel
theorem dX4_addMessage_24 : decode cX4_addMessage 24 = .ok (.iload_n 3, 1) := by decide +kernel
theorem dX4_addMessage_25 : decode cX4_addMessage 25 = .ok (.sipush 256, 3) := by decide +kernel
theorem dX4_addMessage_28 : decode cX4_addMessage 28 = .ok (.invokestatic 78, 3) := by decide +kernel
theorem dX4_addMessage_31 : decode cX4_addMessage 31 = .ok (.ifCond .ne 6, 3) := by decide +kernel
theorem dX4_addMessage_34 : decode cX4_addMessage 34 = .ok (.bipush (-2), 2) := by decide +kernel
theorem dX4_addMessage_36 : decode cX4_addMessage 36 = .ok (.ireturn, 1) := by decide +kernel
theorem dX4_addMessage_37 : decode cX4_addMessage 37 = .ok (.iload 4, 2) := by decide +kernel
theorem dX4_addMessage_39 : decode cX4_addMessage 39 = .ok (.bipush (-5), 2) := by decide +kernel
theorem dX4_addMessage_41 : decode cX4_addMessage 41 = .ok (.if_icmp .eq 17, 3) := by decide +kernel
theorem dX4_addMessage_44 : decode cX4_addMessage 44 = .ok (.iload 4, 2) := by decide +kernel
theorem dX4_addMessage_46 : decode cX4_addMessage 46 = .ok (.sipush 256, 3) := by decide +kernel
theorem dX4_addMessage_49 : decode cX4_addMessage 49 = .ok (.invokestatic 78, 3) := by decide +kernel
theorem dX4_addMessage_52 : decode cX4_addMessage 52 = .ok (.ifCond .ne 6, 3) := by decide +kernel
theorem dX4_addMessage_55 : decode cX4_addMessage 55 = .ok (.bipush (-2), 2) := by decide +kernel
theorem dX4_addMessage_57 : decode cX4_addMessage 57 = .ok (.ireturn, 1) := by decide +kernel
theorem dX4_addMessage_58 : decode cX4_addMessage 58 = .ok (.aload 5, 2) := by decide +kernel
theorem dX4_addMessage_60 : decode cX4_addMessage 60 = .ok (.getfield 82, 3) := by decide +kernel
theorem dX4_addMessage_63 : decode cX4_addMessage 63 = .ok (.iconst 5, 1) := by decide +kernel
theorem dX4_addMessage_64 : decode cX4_addMessage 64 = .ok (.if_icmp .lt 6, 3) := by decide +kernel
theorem dX4_addMessage_67 : decode cX4_addMessage 67 = .ok (.bipush (-3), 2) := by decide +kernel
theorem dX4_addMessage_69 : decode cX4_addMessage 69 = .ok (.ireturn, 1) := by decide +kernel
theorem dX4_addMessage_70 : decode cX4_addMessage 70 = .ok (.aload 5, 2) := by decide +kernel
theorem dX4_addMessage_72 : decode cX4_addMessage 72 = .ok (.iload_n 2, 1) := by decide +kernel
theorem dX4_addMessage_73 : decode cX4_addMessage 73 = .ok (.iload_n 3, 1) := by decide +kernel
theorem dX4_addMessage_74 : decode cX4_addMessage 74 = .ok (.iload 4, 2) := by decide +kernel
theorem dX4_addMessage_76 : decode cX4_addMessage 76 = .ok (.invokevirtual 85, 3) := by decide +kernel
theorem dX4_addMessage_79 : decode cX4_addMessage 79 = .ok (.aload 5, 2) := by decide +kernel
theorem dX4_addMessage_81 : decode cX4_addMessage 81 = .ok (.getfield 82, 3) := by decide +kernel
theorem dX4_addMessage_84 : decode cX4_addMessage 84 = .ok (.ireturn, 1) := by decide +kernel
theorem dX4_dropLast_0 : decode cX4_dropLast 0 = .ok (.aload_n 0, 1) := by decide +kernel
theorem dX4_dropLast_1 : decode cX4_dropLast 1 = .ok (.iload_n 1, 1) := by decide +kernel
theorem dX4_dropLast_2 : decode cX4_dropLast 2 = .ok (.invokevirtual 74, 3) := by decide +kernel
theorem dX4_dropLast_5 : decode cX4_dropLast 5 = .ok (.astore_n 2, 1) := by decide +kernel
theorem dX4_dropLast_6 : decode cX4_dropLast 6 = .ok (.aload_n 2, 1) := by decide +kernel
theorem dX4_dropLast_7 : decode cX4_dropLast 7 = .ok (.ifnonnull 5, 3) := by decide +kernel
theorem dX4_dropLast_10 : decode cX4_dropLast 10 = .ok (.iconst (-1), 1) := by decide +kernel
theorem dX4_dropLast_11 : decode cX4_dropLast 11 = .ok (.ireturn, 1) := by decide +kernel
theorem dX4_dropLast_12 : decode cX4_dropLast 12 = .ok (.aload_n 2, 1) := by decide +kernel
theorem dX4_dropLast_13 : decode cX4_dropLast 13 = .ok (.getfield 82, 3) := by decide +kernel
theorem dX4_dropLast_16 : decode cX4_dropLast 16 = .ok (.iconst 1, 1) := by decide +kernel
theorem dX4_dropLast_17 : decode cX4_dropLast 17 = .ok (.if_icmp .ne 13, 3) := by decide +kernel
theorem dX4_dropLast_20 : decode cX4_dropLast 20 = .ok (.aload_n 2, 1) := by decide +kernel
theorem dX4_dropLast_21 : decode cX4_dropLast 21 = .ok (.getfield 89, 3) := by decide +kernel
theorem dX4_dropLast_24 : decode cX4_dropLast 24 = .ok (.ifCond .eq 6, 3) := by decide +kernel
theorem dX4_dropLast_27 : decode cX4_dropLast 27 = .ok (.bipush (-4), 2) := by decide +kernel
theorem dX4_dropLast_29 : decode cX4_dropLast 29 = .ok (.ireturn, 1) := by decide +kernel
theorem dX4_dropLast_30 : decode cX4_dropLast 30 = .ok (.aload_n 2, 1) := by decide +kernel
theorem dX4_dropLast_31 : decode cX4_dropLast 31 = .ok (.getfield 82, 3) := by decide +kernel
theorem dX4_dropLast_34 : decode cX4_dropLast 34 = .ok (.ifCond .ne 6, 3) := by decide +kernel
theorem dX4_dropLast_37 : decode cX4_dropLast 37 = .ok (.bipush (-5), 2) := by decide +kernel
theorem dX4_dropLast_39 : decode cX4_dropLast 39 = .ok (.ireturn, 1) := by decide +kernel
theorem dX4_dropLast_40 : decode cX4_dropLast 40 = .ok (.aload_n 2, 1) := by decide +kernel
theorem dX4_dropLast_41 : decode cX4_dropLast 41 = .ok (.invokevirtual 93, 3) := by decide +kernel
theorem dX4_dropLast_44 : decode cX4_dropLast 44 = .ok (.aload_n 2, 1) := by decide +kernel
theorem dX4_dropLast_45 : decode cX4_dropLast 45 = .ok (.getfield 82, 3) := by decide +kernel
theorem dX4_dropLast_48 : decode cX4_dropLast 48 = .ok (.ireturn, 1) := by decide +kernel
theorem dX4_giveAddress_0 : decode cX4_giveAddress 0 = .ok (.aload_n 0, 1) := by decide +kernel
theorem dX4_giveAddress_1 : decode cX4_giveAddress 1 = .ok (.iload_n 1, 1) := by decide +kernel
theorem dX4_giveAddress_2 : decode cX4_giveAddress 2 = .ok (.invokevirtual 96, 3) := by decide +kernel
theorem dX4_giveAddress_5 : decode cX4_giveAddress 5 = .ok (.astore_n 3, 1) := by decide +kernel
theorem dX4_giveAddress_6 : decode cX4_giveAddress 6 = .ok (.aload_n 3, 1) := by decide +kernel
theorem dX4_giveAddress_7 : decode cX4_giveAddress 7 = .ok (.ifnonnull 5, 3) := by decide +kernel
theorem dX4_giveAddress_10 : decode cX4_giveAddress 10 = .ok (.iconst (-1), 1) := by decide +kernel
theorem dX4_giveAddress_11 : decode cX4_giveAddress 11 = .ok (.ireturn, 1) := by decide +kernel
theorem dX4_giveAddress_12 : decode cX4_giveAddress 12 = .ok (.iload_n 2, 1) := by decide +kernel
theorem dX4_giveAddress_13 : decode cX4_giveAddress 13 = .ok (.bipush (-5), 2) := by decide +kernel
theorem dX4_giveAddress_15 : decode cX4_giveAddress 15 = .ok (.if_icmp .eq 16, 3) := by decide +kernel
theorem dX4_giveAddress_18 : decode cX4_giveAddress 18 = .ok (.iload_n 2, 1) := by decide +kernel
theorem dX4_giveAddress_19 : decode cX4_giveAddress 19 = .ok (.sipush 128, 3) := by decide +kernel
theorem dX4_giveAddress_22 : decode cX4_giveAddress 22 = .ok (.invokestatic 78, 3) := by decide +kernel
theorem dX4_giveAddress_25 : decode cX4_giveAddress 25 = .ok (.ifCond .ne 6, 3) := by decide +kernel
theorem dX4_giveAddress_28 : decode cX4_giveAddress 28 = .ok (.bipush (-2), 2) := by decide +kernel
theorem dX4_giveAddress_30 : decode cX4_giveAddress 30 = .ok (.ireturn, 1) := by decide +kernel
theorem dX4_giveAddress_31 : decode cX4_giveAddress 31 = .ok (.aload_n 0, 1) := by decide +kernel
theorem dX4_giveAddress_32 : decode cX4_giveAddress 32 = .ok (.iload_n 2, 1) := by decide +kernel
theorem dX4_giveAddress_33 : decode cX4_giveAddress 33 = .ok (.invokevirtual 100, 3) := by decide +kernel
theorem dX4_giveAddress_36 : decode cX4_giveAddress 36 = .ok (.astore 4, 2) := by decide +kernel
theorem dX4_giveAddress_38 : decode cX4_giveAddress 38 = .ok (.aload 4, 2) := by decide +kernel
theorem dX4_giveAddress_40 : decode cX4_giveAddress 40 = .ok (.ifnull 12, 3) := by decide +kernel
theorem dX4_giveAddress_43 : decode cX4_giveAddress 43 = .ok (.aload 4, 2) := by decide +kernel
theorem dX4_giveAddress_45 : decode cX4_giveAddress 45 = .ok (.aload_n 3, 1) := by decide +kernel
theorem dX4_giveAddress_46 : decode cX4_giveAddress 46 = .ok (.if_acmp .eq 6, 3) := by decide +kernel
theorem dX4_giveAddress_49 : decode cX4_giveAddress 49 = .ok (.bipush (-4), 2) := by decide +kernel
theorem dX4_giveAddress_51 : decode cX4_giveAddress 51 = .ok (.ireturn, 1) := by decide +kernel
theorem dX4_giveAddress_52 : decode cX4_giveAddress 52 = .ok (.aload_n 3, 1) := by decide +kernel
theorem dX4_giveAddress_53 : decode cX4_giveAddress 53 = .ok (.getfield 103, 3) := by decide +kernel
theorem dX4_giveAddress_56 : decode cX4_giveAddress 56 = .ok (.iload_n 2, 1) := by decide +kernel
theorem dX4_giveAddress_57 : decode cX4_giveAddress 57 = .ok (.if_icmp .ne 6, 3) := by decide +kernel
theorem dX4_giveAddress_60 : decode cX4_giveAddress 60 = .ok (.bipush (-5), 2) := by decide +kernel
theorem dX4_giveAddress_62 : decode cX4_giveAddress 62 = .ok (.ireturn, 1) := by decide +kernel
theorem dX4_giveAddress_63 : decode cX4_giveAddress 63 = .ok (.aload_n 3, 1) := by decide +kernel
theorem dX4_giveAddress_64 : decode cX4_giveAddress 64 = .ok (.iload_n 2, 1) := by decide +kernel
theorem dX4_giveAddress_65 : decode cX4_giveAddress 65 = .ok (.putfield 103, 3) := by decide +kernel
theorem dX4_giveAddress_68 : decode cX4_giveAddress 68 = .ok (.aload_n 0, 1) := by decide +kernel
theorem dX4_giveAddress_69 : decode cX4_giveAddress 69 = .ok (.invokevirtual 106, 3) := by decide +kernel
theorem dX4_giveAddress_72 : decode cX4_giveAddress 72 = .ok (.ireturn, 1) := by decide +kernel
theorem dX4_giveHold_0 : decode cX4_giveHold 0 = .ok (.aload_n 0, 1) := by decide +kernel
theorem dX4_giveHold_1 : decode cX4_giveHold 1 = .ok (.iload_n 1, 1) := by decide +kernel
theorem dX4_giveHold_2 : decode cX4_giveHold 2 = .ok (.invokevirtual 96, 3) := by decide +kernel
theorem dX4_giveHold_5 : decode cX4_giveHold 5 = .ok (.astore_n 3, 1) := by decide +kernel
theorem dX4_giveHold_6 : decode cX4_giveHold 6 = .ok (.aload_n 3, 1) := by decide +kernel
theorem dX4_giveHold_7 : decode cX4_giveHold 7 = .ok (.ifnonnull 5, 3) := by decide +kernel
theorem dX4_giveHold_10 : decode cX4_giveHold 10 = .ok (.iconst (-1), 1) := by decide +kernel
theorem dX4_giveHold_11 : decode cX4_giveHold 11 = .ok (.ireturn, 1) := by decide +kernel
theorem dX4_giveHold_12 : decode cX4_giveHold 12 = .ok (.iload_n 2, 1) := by decide +kernel
theorem dX4_giveHold_13 : decode cX4_giveHold 13 = .ok (.ifCond .lt 9, 3) := by decide +kernel
theorem dX4_giveHold_16 : decode cX4_giveHold 16 = .ok (.iload_n 2, 1) := by decide +kernel
theorem dX4_giveHold_17 : decode cX4_giveHold 17 = .ok (.bipush 9, 2) := by decide +kernel
theorem dX4_giveHold_19 : decode cX4_giveHold 19 = .ok (.if_icmp .le 6, 3) := by decide +kernel
theorem dX4_giveHold_22 : decode cX4_giveHold 22 = .ok (.bipush (-2), 2) := by decide +kernel
theorem dX4_giveHold_24 : decode cX4_giveHold 24 = .ok (.ireturn, 1) := by decide +kernel
theorem dX4_giveHold_25 : decode cX4_giveHold 25 = .ok (.aload_n 3, 1) := by decide +kernel
theorem dX4_giveHold_26 : decode cX4_giveHold 26 = .ok (.getfield 110, 3) := by decide +kernel
theorem dX4_giveHold_29 : decode cX4_giveHold 29 = .ok (.iload_n 2, 1) := by decide +kernel
theorem dX4_giveHold_30 : decode cX4_giveHold 30 = .ok (.if_icmp .ne 6, 3) := by decide +kernel
theorem dX4_giveHold_33 : decode cX4_giveHold 33 = .ok (.bipush (-5), 2) := by decide +kernel
theorem dX4_giveHold_35 : decode cX4_giveHold 35 = .ok (.ireturn, 1) := by decide +kernel
theorem dX4_giveHold_36 : decode cX4_giveHold 36 = .ok (.aload_n 3, 1) := by decide +kernel
theorem dX4_giveHold_37 : decode cX4_giveHold 37 = .ok (.getfield 110, 3) := by decide +kernel
theorem dX4_giveHold_40 : decode cX4_giveHold 40 = .ok (.istore 4, 2) := by decide +kernel
theorem dX4_giveHold_42 : decode cX4_giveHold 42 = .ok (.aload_n 3, 1) := by decide +kernel
theorem dX4_giveHold_43 : decode cX4_giveHold 43 = .ok (.iload_n 2, 1) := by decide +kernel
theorem dX4_giveHold_44 : decode cX4_giveHold 44 = .ok (.putfield 110, 3) := by decide +kernel
theorem dX4_giveHold_47 : decode cX4_giveHold 47 = .ok (.iload 4, 2) := by decide +kernel
theorem dX4_giveHold_49 : decode cX4_giveHold 49 = .ok (.ireturn, 1) := by decide +kernel
theorem dX4_makeStuck_0 : decode cX4_makeStuck 0 = .ok (.aload_n 0, 1) := by decide +kernel
theorem dX4_makeStuck_1 : decode cX4_makeStuck 1 = .ok (.iload_n 1, 1) := by decide +kernel
theorem dX4_makeStuck_2 : decode cX4_makeStuck 2 = .ok (.invokevirtual 96, 3) := by decide +kernel
theorem dX4_makeStuck_5 : decode cX4_makeStuck 5 = .ok (.astore_n 3, 1) := by decide +kernel
theorem dX4_makeStuck_6 : decode cX4_makeStuck 6 = .ok (.aload_n 3, 1) := by decide +kernel
theorem dX4_makeStuck_7 : decode cX4_makeStuck 7 = .ok (.ifnonnull 5, 3) := by decide +kernel
theorem dX4_makeStuck_10 : decode cX4_makeStuck 10 = .ok (.iconst (-1), 1) := by decide +kernel
theorem dX4_makeStuck_11 : decode cX4_makeStuck 11 = .ok (.ireturn, 1) := by decide +kernel
theorem dX4_makeStuck_12 : decode cX4_makeStuck 12 = .ok (.iload_n 2, 1) := by decide +kernel
theorem dX4_makeStuck_13 : decode cX4_makeStuck 13 = .ok (.iconst 1, 1) := by decide +kernel
theorem dX4_makeStuck_14 : decode cX4_makeStuck 14 = .ok (.if_icmp .lt 9, 3) := by decide +kernel
theorem dX4_makeStuck_17 : decode cX4_makeStuck 17 = .ok (.iload_n 2, 1) := by decide +kernel
theorem dX4_makeStuck_18 : decode cX4_makeStuck 18 = .ok (.bipush 99, 2) := by decide +kernel
theorem dX4_makeStuck_20 : decode cX4_makeStuck 20 = .ok (.if_icmp .le 6, 3) := by decide +kernel
theorem dX4_makeStuck_23 : decode cX4_makeStuck 23 = .ok (.bipush (-2), 2) := by decide +kernel
theorem dX4_makeStuck_25 : decode cX4_makeStuck 25 = .ok (.ireturn, 1) := by decide +kernel
theorem dX4_makeStuck_26 : decode cX4_makeStuck 26 = .ok (.aload_n 3, 1) := by decide +kernel
theorem dX4_makeStuck_27 : decode cX4_makeStuck 27 = .ok (.iload_n 2, 1) := by decide +kernel
theorem dX4_makeStuck_28 : decode cX4_makeStuck 28 = .ok (.putfield 113, 3) := by decide +kernel
theorem dX4_makeStuck_31 : decode cX4_makeStuck 31 = .ok (.aload_n 0, 1) := by decide +kernel
theorem dX4_makeStuck_32 : decode cX4_makeStuck 32 = .ok (.invokevirtual 116, 3) := by decide +kernel
theorem dX4_makeStuck_35 : decode cX4_makeStuck 35 = .ok (.ireturn, 1) := by decide +kernel
theorem dX4_changeSetting_0 : decode cX4_changeSetting 0 = .ok (.iload_n 1, 1) := by decide +kernel
theorem dX4_changeSetting_1 : decode cX4_changeSetting 1 = .ok (.iconst 3, 1) := by decide +kernel
theorem dX4_changeSetting_2 : decode cX4_changeSetting 2 = .ok (.invokestatic 78, 3) := by decide +kernel
theorem dX4_changeSetting_5 : decode cX4_changeSetting 5 = .ok (.ifCond .ne 5, 3) := by decide +kernel
theorem dX4_changeSetting_8 : decode cX4_changeSetting 8 = .ok (.iconst (-1), 1) := by decide +kernel
theorem dX4_changeSetting_9 : decode cX4_changeSetting 9 = .ok (.ireturn, 1) := by decide +kernel
theorem dX4_changeSetting_10 : decode cX4_changeSetting 10 = .ok (.iload_n 2, 1) := by decide +kernel
theorem dX4_changeSetting_11 : decode cX4_changeSetting 11 = .ok (.iconst 1, 1) := by decide +kernel
theorem dX4_changeSetting_12 : decode cX4_changeSetting 12 = .ok (.if_icmp .lt 12, 3) := by decide +kernel
theorem dX4_changeSetting_15 : decode cX4_changeSetting 15 = .ok (.iload_n 2, 1) := by decide +kernel
theorem dX4_changeSetting_16 : decode cX4_changeSetting 16 = .ok (.getstatic 119, 3) := by decide +kernel
theorem dX4_changeSetting_19 : decode cX4_changeSetting 19 = .ok (.iload_n 1, 1) := by decide +kernel
theorem dX4_changeSetting_20 : decode cX4_changeSetting 20 = .ok (.iaload, 1) := by decide +kernel
theorem dX4_changeSetting_21 : decode cX4_changeSetting 21 = .ok (.if_icmp .le 6, 3) := by decide +kernel
theorem dX4_changeSetting_24 : decode cX4_changeSetting 24 = .ok (.bipush (-2), 2) := by decide +kernel
theorem dX4_changeSetting_26 : decode cX4_changeSetting 26 = .ok (.ireturn, 1) := by decide +kernel
theorem dX4_changeSetting_27 : decode cX4_changeSetting 27 = .ok (.aload_n 0, 1) := by decide +kernel
theorem dX4_changeSetting_28 : decode cX4_changeSetting 28 = .ok (.getfield 23, 3) := by decide +kernel
theorem dX4_changeSetting_31 : decode cX4_changeSetting 31 = .ok (.iload_n 1, 1) := by decide +kernel
theorem dX4_changeSetting_32 : decode cX4_changeSetting 32 = .ok (.iaload, 1) := by decide +kernel
theorem dX4_changeSetting_33 : decode cX4_changeSetting 33 = .ok (.iload_n 2, 1) := by decide +kernel
theorem dX4_changeSetting_34 : decode cX4_changeSetting 34 = .ok (.if_icmp .ne 6, 3) := by decide +kernel
theorem dX4_changeSetting_37 : decode cX4_changeSetting 37 = .ok (.bipush (-5), 2) := by decide +kernel
theorem dX4_changeSetting_39 : decode cX4_changeSetting 39 = .ok (.ireturn, 1) := by decide +kernel
theorem dX4_changeSetting_40 : decode cX4_changeSetting 40 = .ok (.aload_n 0, 1) := by decide +kernel
theorem dX4_changeSetting_41 : decode cX4_changeSetting 41 = .ok (.getfield 23, 3) := by decide +kernel
theorem dX4_changeSetting_44 : decode cX4_changeSetting 44 = .ok (.iload_n 1, 1) := by decide +kernel
theorem dX4_changeSetting_45 : decode cX4_changeSetting 45 = .ok (.iaload, 1) := by decide +kernel
theorem dX4_changeSetting_46 : decode cX4_changeSetting 46 = .ok (.istore_n 3, 1) := by decide +kernel
theorem dX4_changeSetting_47 : decode cX4_changeSetting 47 = .ok (.aload_n 0, 1) := by decide +kernel
theorem dX4_changeSetting_48 : decode cX4_changeSetting 48 = .ok (.getfield 23, 3) := by decide +kernel
theorem dX4_changeSetting_51 : decode cX4_changeSetting 51 = .ok (.iload_n 1, 1) := by decide +kernel
theorem dX4_changeSetting_52 : decode cX4_changeSetting 52 = .ok (.iload_n 2, 1) := by decide +kernel
theorem dX4_changeSetting_53 : decode cX4_changeSetting 53 = .ok (.iastore, 1) := by decide +kernel
theorem dX4_changeSetting_54 : decode cX4_changeSetting 54 = .ok (.iload_n 3, 1) := by decide +kernel
theorem dX4_changeSetting_55 : decode cX4_changeSetting 55 = .ok (.ireturn, 1) := by decide +kernel
theorem dX4_passTicks_0 : decode cX4_passTicks 0 = .ok (.iload_n 1, 1) := by decide +kernel
theorem dX4_passTicks_1 : decode cX4_passTicks 1 = .ok (.iconst 1, 1) := by decide +kernel
theorem dX4_passTicks_2 : decode cX4_passTicks 2 = .ok (.if_icmp .lt 10, 3) := by decide +kernel
theorem dX4_passTicks_5 : decode cX4_passTicks 5 = .ok (.iload_n 1, 1) := by decide +kernel
theorem dX4_passTicks_6 : decode cX4_passTicks 6 = .ok (.sipush 300, 3) := by decide +kernel
theorem dX4_passTicks_9 : decode cX4_passTicks 9 = .ok (.if_icmp .le 6, 3) := by decide +kernel
theorem dX4_passTicks_12 : decode cX4_passTicks 12 = .ok (.bipush (-2), 2) := by decide +kernel
theorem dX4_passTicks_14 : decode cX4_passTicks 14 = .ok (.ireturn, 1) := by decide +kernel
theorem dX4_passTicks_15 : decode cX4_passTicks 15 = .ok (.iload_n 1, 1) := by decide +kernel
theorem dX4_passTicks_16 : decode cX4_passTicks 16 = .ok (.ldc 122, 2) := by decide +kernel
theorem dX4_passTicks_18 : decode cX4_passTicks 18 = .ok (.aload_n 0, 1) := by decide +kernel
theorem dX4_passTicks_19 : decode cX4_passTicks 19 = .ok (.getfield 52, 3) := by decide +kernel
theorem dX4_passTicks_22 : decode cX4_passTicks 22 = .ok (.isub, 1) := by decide +kernel
theorem dX4_passTicks_23 : decode cX4_passTicks 23 = .ok (.if_icmp .le 6, 3) := by decide +kernel
theorem dX4_passTicks_26 : decode cX4_passTicks 26 = .ok (.bipush (-3), 2) := by decide +kernel
theorem dX4_passTicks_28 : decode cX4_passTicks 28 = .ok (.ireturn, 1) := by decide +kernel
theorem dX4_passTicks_29 : decode cX4_passTicks 29 = .ok (.aload_n 0, 1) := by decide +kernel
theorem dX4_passTicks_30 : decode cX4_passTicks 30 = .ok (.invokevirtual 123, 3) := by decide +kernel
theorem dX4_passTicks_33 : decode cX4_passTicks 33 = .ok (.istore_n 2, 1) := by decide +kernel
theorem dX4_passTicks_34 : decode cX4_passTicks 34 = .ok (.iconst 0, 1) := by decide +kernel
theorem dX4_passTicks_35 : decode cX4_passTicks 35 = .ok (.istore_n 3, 1) := by decide +kernel
theorem dX4_passTicks_36 : decode cX4_passTicks 36 = .ok (.iload_n 3, 1) := by decide +kernel
theorem dX4_passTicks_37 : decode cX4_passTicks 37 = .ok (.iload_n 1, 1) := by decide +kernel
theorem dX4_passTicks_38 : decode cX4_passTicks 38 = .ok (.if_icmp .ge 13, 3) := by decide +kernel
theorem dX4_passTicks_41 : decode cX4_passTicks 41 = .ok (.aload_n 0, 1) := by decide +kernel
theorem dX4_passTicks_42 : decode cX4_passTicks 42 = .ok (.invokevirtual 126, 3) := by decide +kernel
theorem dX4_passTicks_45 : decode cX4_passTicks 45 = .ok (.iinc 3 1, 3) := by decide +kernel
theorem dX4_passTicks_48 : decode cX4_passTicks 48 = .ok (.goto (-12), 3) := by decide +kernel
theorem dX4_passTicks_51 : decode cX4_passTicks 51 = .ok (.aload_n 0, 1) := by decide +kernel
theorem dX4_passTicks_52 : decode cX4_passTicks 52 = .ok (.invokevirtual 123, 3) := by decide +kernel
theorem dX4_passTicks_55 : decode cX4_passTicks 55 = .ok (.iload_n 2, 1) := by decide +kernel
theorem dX4_passTicks_56 : decode cX4_passTicks 56 = .ok (.isub, 1) := by decide +kernel
theorem dX4_passTicks_57 : decode cX4_passTicks 57 = .ok (.ireturn, 1) := by decide +kernel
theorem dX4_nextTick_0 : decode cX4_nextTick 0 = .ok (.aload_n 0, 1) := by decide +kernel
theorem dX4_nextTick_1 : decode cX4_nextTick 1 = .ok (.invokevirtual 116, 3) := by decide +kernel
theorem dX4_nextTick_4 : decode cX4_nextTick 4 = .ok (.ifCond .le 5, 3) := by decide +kernel
theorem dX4_nextTick_7 : decode cX4_nextTick 7 = .ok (.iconst 4, 1) := by decide +kernel
theorem dX4_nextTick_8 : decode cX4_nextTick 8 = .ok (.ireturn, 1) := by decide +kernel
theorem dX4_nextTick_9 : decode cX4_nextTick 9 = .ok (.aload_n 0, 1) := by decide +kernel
theorem dX4_nextTick_10 : decode cX4_nextTick 10 = .ok (.getfield 59, 3) := by decide +kernel
theorem dX4_nextTick_13 : decode cX4_nextTick 13 = .ok (.ifCond .le 5, 3) := by decide +kernel
theorem dX4_nextTick_16 : decode cX4_nextTick 16 = .ok (.iconst 3, 1) := by decide +kernel
theorem dX4_nextTick_17 : decode cX4_nextTick 17 = .ok (.ireturn, 1) := by decide +kernel
theorem dX4_nextTick_18 : decode cX4_nextTick 18 = .ok (.aload_n 0, 1) := by decide +kernel
theorem dX4_nextTick_19 : decode cX4_nextTick 19 = .ok (.invokevirtual 129, 3) := by decide +kernel
theorem dX4_nextTick_22 : decode cX4_nextTick 22 = .ok (.ifCond .ne 5, 3) := by decide +kernel
theorem dX4_nextTick_25 : decode cX4_nextTick 25 = .ok (.iconst 0, 1) := by decide +kernel
theorem dX4_nextTick_26 : decode cX4_nextTick 26 = .ok (.ireturn, 1) := by decide +kernel
theorem dX4_nextTick_27 : decode cX4_nextTick 27 = .ok (.aload_n 0, 1) := by decide +kernel
theorem dX4_nextTick_28 : decode cX4_nextTick 28 = .ok (.getfield 56, 3) := by decide +kernel
theorem dX4_nextTick_31 : decode cX4_nextTick 31 = .ok (.invokestatic 132, 3) := by decide +kernel
theorem dX4_nextTick_34 : decode cX4_nextTick 34 = .ok (.ifCond .eq 7, 3) := by decide +kernel
theorem dX4_nextTick_37 : decode cX4_nextTick 37 = .ok (.iconst 2, 1) := by decide +kernel
theorem dX4_nextTick_38 : decode cX4_nextTick 38 = .ok (.goto 4, 3) := by decide +kernel
theorem dX4_nextTick_41 : decode cX4_nextTick 41 = .ok (.iconst 1, 1) := by decide +kernel
theorem dX4_nextTick_42 : decode cX4_nextTick 42 = .ok (.ireturn, 1) := by decide +kernel
theorem dX4_tick_0 : decode cX4_tick 0 = .ok (.aload_n 0, 1) := by decide +kernel
theorem dX4_tick_1 : decode cX4_tick 1 = .ok (.invokevirtual 136, 3) := by decide +kernel
theorem dX4_tick_4 : decode cX4_tick 4 = .ok (.istore_n 1, 1) := by decide +kernel
theorem dX4_tick_5 : decode cX4_tick 5 = .ok (.aload_n 0, 1) := by decide +kernel
theorem dX4_tick_6 : decode cX4_tick 6 = .ok (.dup, 1) := by decide +kernel
theorem dX4_tick_7 : decode cX4_tick 7 = .ok (.getfield 52, 3) := by decide +kernel
theorem dX4_tick_10 : decode cX4_tick 10 = .ok (.iconst 1, 1) := by decide +kernel
theorem dX4_tick_11 : decode cX4_tick 11 = .ok (.iadd, 1) := by decide +kernel
theorem dX4_tick_12 : decode cX4_tick 12 = .ok (.putfield 52, 3) := by decide +kernel
theorem dX4_tick_15 : decode cX4_tick 15 = .ok (.iload_n 1, 1) := by decide +kernel
theorem dX4_tick_16 : decode cX4_tick 16 = .ok (.iconst 4, 1) := by decide +kernel
theorem dX4_tick_17 : decode cX4_tick 17 = .ok (.if_icmp .eq 8, 3) := by decide +kernel
theorem dX4_tick_20 : decode cX4_tick 20 = .ok (.aload_n 0, 1) := by decide +kernel
theorem dX4_tick_21 : decode cX4_tick 21 = .ok (.iconst 0, 1) := by decide +kernel
theorem dX4_tick_22 : decode cX4_tick 22 = .ok (.putfield 65, 3) := by decide +kernel
theorem dX4_tick_25 : decode cX4_tick 25 = .ok (.iload_n 1, 1) := by decide +kernel
theorem dX4_tick_26 : decode cX4_tick 26 = .ok (.tableswitch 64 1 4 #[50, 57, 37, 30], 30) := by decide +kernel
theorem dX4_tick_56 : decode cX4_tick 56 = .ok (.aload_n 0, 1) := by decide +kernel
theorem dX4_tick_57 : decode cX4_tick 57 = .ok (.invokevirtual 139, 3) := by decide +kernel
theorem dX4_tick_60 : decode cX4_tick 60 = .ok (.goto 34, 3) := by decide +kernel
theorem dX4_tick_63 : decode cX4_tick 63 = .ok (.aload_n 0, 1) := by decide +kernel
theorem dX4_tick_64 : decode cX4_tick 64 = .ok (.dup, 1) := by decide +kernel
theorem dX4_tick_65 : decode cX4_tick 65 = .ok (.getfield 59, 3) := by decide +kernel
theorem dX4_tick_68 : decode cX4_tick 68 = .ok (.iconst 1, 1) := by decide +kernel
theorem dX4_tick_69 : decode cX4_tick 69 = .ok (.isub, 1) := by decide +kernel
theorem dX4_tick_70 : decode cX4_tick 70 = .ok (.putfield 59, 3) := by decide +kernel
theorem dX4_tick_73 : decode cX4_tick 73 = .ok (.goto 21, 3) := by decide +kernel
theorem dX4_tick_76 : decode cX4_tick 76 = .ok (.aload_n 0, 1) := by decide +kernel
theorem dX4_tick_77 : decode cX4_tick 77 = .ok (.invokevirtual 142, 3) := by decide +kernel
theorem dX4_tick_80 : decode cX4_tick 80 = .ok (.goto 14, 3) := by decide +kernel
theorem dX4_tick_83 : decode cX4_tick 83 = .ok (.aload_n 0, 1) := by decide +kernel
theorem dX4_tick_84 : decode cX4_tick 84 = .ok (.invokevirtual 145, 3) := by decide +kernel
theorem dX4_tick_87 : decode cX4_tick 87 = .ok (.goto 7, 3) := by decide +kernel
theorem dX4_tick_90 : decode cX4_tick 90 = .ok (.aload_n 0, 1) := by decide +kernel
theorem dX4_tick_91 : decode cX4_tick 91 = .ok (.invokevirtual 148, 3) := by decide +kernel
theorem dX4_tick_94 : decode cX4_tick 94 = .ok (.return_, 1) := by decide +kernel
theorem dX4_stuckTick_0 : decode cX4_stuckTick 0 = .ok (.aload_n 0, 1) := by decide +kernel
theorem dX4_stuckTick_1 : decode cX4_stuckTick 1 = .ok (.iconst 0, 1) := by decide +kernel
theorem dX4_stuckTick_2 : decode cX4_stuckTick 2 = .ok (.putfield 62, 3) := by decide +kernel
theorem dX4_stuckTick_5 : decode cX4_stuckTick 5 = .ok (.aload_n 0, 1) := by decide +kernel
theorem dX4_stuckTick_6 : decode cX4_stuckTick 6 = .ok (.getfield 59, 3) := by decide +kernel
theorem dX4_stuckTick_9 : decode cX4_stuckTick 9 = .ok (.ifCond .ne 30, 3) := by decide +kernel
theorem dX4_stuckTick_12 : decode cX4_stuckTick 12 = .ok (.aload_n 0, 1) := by decide +kernel
theorem dX4_stuckTick_13 : decode cX4_stuckTick 13 = .ok (.getfield 56, 3) := by decide +kernel
theorem dX4_stuckTick_16 : decode cX4_stuckTick 16 = .ok (.invokestatic 132, 3) := by decide +kernel
theorem dX4_stuckTick_19 : decode cX4_stuckTick 19 = .ok (.ifCond .ne 20, 3) := by decide +kernel
theorem dX4_stuckTick_22 : decode cX4_stuckTick 22 = .ok (.aload_n 0, 1) := by decide +kernel
theorem dX4_stuckTick_23 : decode cX4_stuckTick 23 = .ok (.aload_n 0, 1) := by decide +kernel
theorem dX4_stuckTick_24 : decode cX4_stuckTick 24 = .ok (.aload_n 0, 1) := by decide +kernel
theorem dX4_stuckTick_25 : decode cX4_stuckTick 25 = .ok (.invokevirtual 129, 3) := by decide +kernel
theorem dX4_stuckTick_28 : decode cX4_stuckTick 28 = .ok (.aload_n 0, 1) := by decide +kernel
theorem dX4_stuckTick_29 : decode cX4_stuckTick 29 = .ok (.getfield 56, 3) := by decide +kernel
theorem dX4_stuckTick_32 : decode cX4_stuckTick 32 = .ok (.iconst 1, 1) := by decide +kernel
theorem dX4_stuckTick_33 : decode cX4_stuckTick 33 = .ok (.invokevirtual 151, 3) := by decide +kernel
theorem dX4_stuckTick_36 : decode cX4_stuckTick 36 = .ok (.invokevirtual 155, 3) := by decide +kernel
theorem dX4_stuckTick_39 : decode cX4_stuckTick 39 = .ok (.aload_n 0, 1) := by decide +kernel
theorem dX4_stuckTick_40 : decode cX4_stuckTick 40 = .ok (.invokevirtual 159, 3) := by decide +kernel
theorem dX4_stuckTick_43 : decode cX4_stuckTick 43 = .ok (.aload_n 0, 1) := by decide +kernel
theorem dX4_stuckTick_44 : decode cX4_stuckTick 44 = .ok (.dup, 1) := by decide +kernel
theorem dX4_stuckTick_45 : decode cX4_stuckTick 45 = .ok (.getfield 65, 3) := by decide +kernel
theorem dX4_stuckTick_48 : decode cX4_stuckTick 48 = .ok (.iconst 1, 1) := by decide +kernel
theorem dX4_stuckTick_49 : decode cX4_stuckTick 49 = .ok (.iadd, 1) := by decide +kernel
theorem dX4_stuckTick_50 : decode cX4_stuckTick 50 = .ok (.putfield 65, 3) := by decide +kernel
theorem dX4_stuckTick_53 : decode cX4_stuckTick 53 = .ok (.aload_n 0, 1) := by decide +kernel
theorem dX4_stuckTick_54 : decode cX4_stuckTick 54 = .ok (.getfield 65, 3) := by decide +kernel
theorem dX4_stuckTick_57 : decode cX4_stuckTick 57 = .ok (.aload_n 0, 1) := by decide +kernel
theorem dX4_stuckTick_58 : decode cX4_stuckTick 58 = .ok (.iconst 2, 1) := by decide +kernel
theorem dX4_stuckTick_59 : decode cX4_stuckTick 59 = .ok (.invokevirtual 162, 3) := by decide +kernel
theorem dX4_stuckTick_62 : decode cX4_stuckTick 62 = .ok (.if_icmp .lt 7, 3) := by decide +kernel
theorem dX4_stuckTick_65 : decode cX4_stuckTick 65 = .ok (.iconst 1, 1) := by decide +kernel
theorem dX4_stuckTick_66 : decode cX4_stuckTick 66 = .ok (.goto 4, 3) := by decide +kernel
