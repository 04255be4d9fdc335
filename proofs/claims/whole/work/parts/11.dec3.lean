theorem dX5_recorded_51 : decode cX5_recorded 51 = .ok (.getfield 95, 3) := by decide +kernel
theorem dX5_recorded_54 : decode cX5_recorded 54 = .ok (.iconst 1, 1) := by decide +kernel
theorem dX5_recorded_55 : decode cX5_recorded 55 = .ok (.iadd, 1) := by decide +kernel
theorem dX5_recorded_56 : decode cX5_recorded 56 = .ok (.putfield 95, 3) := by decide +kernel
theorem dX5_recorded_59 : decode cX5_recorded 59 = .ok (.goto 57, 3) := by decide +kernel
theorem dX5_recorded_62 : decode cX5_recorded 62 = .ok (.aload_n 0, 1) := by decide +kernel
theorem dX5_recorded_63 : decode cX5_recorded 63 = .ok (.aload_n 0, 1) := by decide +kernel
theorem dX5_recorded_64 : decode cX5_recorded 64 = .ok (.getfield 19, 3) := by decide +kernel
theorem dX5_recorded_67 : decode cX5_recorded 67 = .ok (.iconst 0, 1) := by decide +kernel
theorem dX5_recorded_68 : decode cX5_recorded 68 = .ok (.aaload, 1) := by decide +kernel
theorem dX5_recorded_69 : decode cX5_recorded 69 = .ok (.putfield 30, 3) := by decide +kernel
theorem dX5_recorded_72 : decode cX5_recorded 72 = .ok (.iconst 1, 1) := by decide +kernel
theorem dX5_recorded_73 : decode cX5_recorded 73 = .ok (.istore_n 3, 1) := by decide +kernel
theorem dX5_recorded_74 : decode cX5_recorded 74 = .ok (.iload_n 3, 1) := by decide +kernel
theorem dX5_recorded_75 : decode cX5_recorded 75 = .ok (.aload_n 0, 1) := by decide +kernel
theorem dX5_recorded_76 : decode cX5_recorded 76 = .ok (.getfield 19, 3) := by decide +kernel
theorem dX5_recorded_79 : decode cX5_recorded 79 = .ok (.arraylength, 1) := by decide +kernel
theorem dX5_recorded_80 : decode cX5_recorded 80 = .ok (.if_icmp .ge 23, 3) := by decide +kernel
theorem dX5_recorded_83 : decode cX5_recorded 83 = .ok (.aload_n 0, 1) := by decide +kernel
theorem dX5_recorded_84 : decode cX5_recorded 84 = .ok (.getfield 19, 3) := by decide +kernel
theorem dX5_recorded_87 : decode cX5_recorded 87 = .ok (.iload_n 3, 1) := by decide +kernel
theorem dX5_recorded_88 : decode cX5_recorded 88 = .ok (.iconst 1, 1) := by decide +kernel
theorem dX5_recorded_89 : decode cX5_recorded 89 = .ok (.isub, 1) := by decide +kernel
theorem dX5_recorded_90 : decode cX5_recorded 90 = .ok (.aload_n 0, 1) := by decide +kernel
theorem dX5_recorded_91 : decode cX5_recorded 91 = .ok (.getfield 19, 3) := by decide +kernel
theorem dX5_recorded_94 : decode cX5_recorded 94 = .ok (.iload_n 3, 1) := by decide +kernel
theorem dX5_recorded_95 : decode cX5_recorded 95 = .ok (.aaload, 1) := by decide +kernel
theorem dX5_recorded_96 : decode cX5_recorded 96 = .ok (.aastore, 1) := by decide +kernel
theorem dX5_recorded_97 : decode cX5_recorded 97 = .ok (.iinc 3 1, 3) := by decide +kernel
theorem dX5_recorded_100 : decode cX5_recorded 100 = .ok (.goto (-26), 3) := by decide +kernel
theorem dX5_recorded_103 : decode cX5_recorded 103 = .ok (.aload_n 0, 1) := by decide +kernel
theorem dX5_recorded_104 : decode cX5_recorded 104 = .ok (.getfield 19, 3) := by decide +kernel
theorem dX5_recorded_107 : decode cX5_recorded 107 = .ok (.aload_n 0, 1) := by decide +kernel
theorem dX5_recorded_108 : decode cX5_recorded 108 = .ok (.getfield 19, 3) := by decide +kernel
theorem dX5_recorded_111 : decode cX5_recorded 111 = .ok (.arraylength, 1) := by decide +kernel
theorem dX5_recorded_112 : decode cX5_recorded 112 = .ok (.iconst 1, 1) := by decide +kernel
theorem dX5_recorded_113 : decode cX5_recorded 113 = .ok (.isub, 1) := by decide +kernel
theorem dX5_recorded_114 : decode cX5_recorded 114 = .ok (.aload_n 2, 1) := by decide +kernel
theorem dX5_recorded_115 : decode cX5_recorded 115 = .ok (.aastore, 1) := by decide +kernel
theorem dX5_recorded_116 : decode cX5_recorded 116 = .ok (.iload_n 1, 1) := by decide +kernel
theorem dX5_recorded_117 : decode cX5_recorded 117 = .ok (.ireturn, 1) := by decide +kernel
theorem dX5_carryOutOrder_0 : decode cX5_carryOutOrder 0 = .ok (.aload_n 0, 1) := by decide +kernel
theorem dX5_carryOutOrder_1 : decode cX5_carryOutOrder 1 = .ok (.getfield 26, 3) := by decide +kernel
theorem dX5_carryOutOrder_4 : decode cX5_carryOutOrder 4 = .ok (.iconst 0, 1) := by decide +kernel
theorem dX5_carryOutOrder_5 : decode cX5_carryOutOrder 5 = .ok (.invokevirtual 236, 3) := by decide +kernel
theorem dX5_carryOutOrder_8 : decode cX5_carryOutOrder 8 = .ok (.istore_n 1, 1) := by decide +kernel
theorem dX5_carryOutOrder_9 : decode cX5_carryOutOrder 9 = .ok (.aload_n 0, 1) := by decide +kernel
theorem dX5_carryOutOrder_10 : decode cX5_carryOutOrder 10 = .ok (.getfield 26, 3) := by decide +kernel
theorem dX5_carryOutOrder_13 : decode cX5_carryOutOrder 13 = .ok (.iconst 1, 1) := by decide +kernel
theorem dX5_carryOutOrder_14 : decode cX5_carryOutOrder 14 = .ok (.invokevirtual 236, 3) := by decide +kernel
theorem dX5_carryOutOrder_17 : decode cX5_carryOutOrder 17 = .ok (.istore_n 2, 1) := by decide +kernel
theorem dX5_carryOutOrder_18 : decode cX5_carryOutOrder 18 = .ok (.aload_n 0, 1) := by decide +kernel
theorem dX5_carryOutOrder_19 : decode cX5_carryOutOrder 19 = .ok (.getfield 26, 3) := by decide +kernel
theorem dX5_carryOutOrder_22 : decode cX5_carryOutOrder 22 = .ok (.getfield 239, 3) := by decide +kernel
theorem dX5_carryOutOrder_25 : decode cX5_carryOutOrder 25 = .ok (.tableswitch 100 0 4 #[35, 61, 71, 81, 91], 35) := by decide +kernel
theorem dX5_carryOutOrder_60 : decode cX5_carryOutOrder 60 = .ok (.aload_n 0, 1) := by decide +kernel
theorem dX5_carryOutOrder_61 : decode cX5_carryOutOrder 61 = .ok (.getfield 10, 3) := by decide +kernel
theorem dX5_carryOutOrder_64 : decode cX5_carryOutOrder 64 = .ok (.iload_n 1, 1) := by decide +kernel
theorem dX5_carryOutOrder_65 : decode cX5_carryOutOrder 65 = .ok (.iload_n 2, 1) := by decide +kernel
theorem dX5_carryOutOrder_66 : decode cX5_carryOutOrder 66 = .ok (.aload_n 0, 1) := by decide +kernel
theorem dX5_carryOutOrder_67 : decode cX5_carryOutOrder 67 = .ok (.getfield 26, 3) := by decide +kernel
theorem dX5_carryOutOrder_70 : decode cX5_carryOutOrder 70 = .ok (.iconst 2, 1) := by decide +kernel
theorem dX5_carryOutOrder_71 : decode cX5_carryOutOrder 71 = .ok (.invokevirtual 236, 3) := by decide +kernel
theorem dX5_carryOutOrder_74 : decode cX5_carryOutOrder 74 = .ok (.aload_n 0, 1) := by decide +kernel
theorem dX5_carryOutOrder_75 : decode cX5_carryOutOrder 75 = .ok (.getfield 26, 3) := by decide +kernel
theorem dX5_carryOutOrder_78 : decode cX5_carryOutOrder 78 = .ok (.iconst 3, 1) := by decide +kernel
theorem dX5_carryOutOrder_79 : decode cX5_carryOutOrder 79 = .ok (.invokevirtual 236, 3) := by decide +kernel
theorem dX5_carryOutOrder_82 : decode cX5_carryOutOrder 82 = .ok (.invokevirtual 44, 3) := by decide +kernel
theorem dX5_carryOutOrder_85 : decode cX5_carryOutOrder 85 = .ok (.ireturn, 1) := by decide +kernel
theorem dX5_carryOutOrder_86 : decode cX5_carryOutOrder 86 = .ok (.aload_n 0, 1) := by decide +kernel
theorem dX5_carryOutOrder_87 : decode cX5_carryOutOrder 87 = .ok (.getfield 10, 3) := by decide +kernel
theorem dX5_carryOutOrder_90 : decode cX5_carryOutOrder 90 = .ok (.iload_n 1, 1) := by decide +kernel
theorem dX5_carryOutOrder_91 : decode cX5_carryOutOrder 91 = .ok (.iload_n 2, 1) := by decide +kernel
theorem dX5_carryOutOrder_92 : decode cX5_carryOutOrder 92 = .ok (.invokevirtual 55, 3) := by decide +kernel
theorem dX5_carryOutOrder_95 : decode cX5_carryOutOrder 95 = .ok (.ireturn, 1) := by decide +kernel
theorem dX5_carryOutOrder_96 : decode cX5_carryOutOrder 96 = .ok (.aload_n 0, 1) := by decide +kernel
theorem dX5_carryOutOrder_97 : decode cX5_carryOutOrder 97 = .ok (.getfield 10, 3) := by decide +kernel
theorem dX5_carryOutOrder_100 : decode cX5_carryOutOrder 100 = .ok (.iload_n 1, 1) := by decide +kernel
theorem dX5_carryOutOrder_101 : decode cX5_carryOutOrder 101 = .ok (.iload_n 2, 1) := by decide +kernel
theorem dX5_carryOutOrder_102 : decode cX5_carryOutOrder 102 = .ok (.invokevirtual 59, 3) := by decide +kernel
theorem dX5_carryOutOrder_105 : decode cX5_carryOutOrder 105 = .ok (.ireturn, 1) := by decide +kernel
theorem dX5_carryOutOrder_106 : decode cX5_carryOutOrder 106 = .ok (.aload_n 0, 1) := by decide +kernel
theorem dX5_carryOutOrder_107 : decode cX5_carryOutOrder 107 = .ok (.getfield 10, 3) := by decide +kernel
theorem dX5_carryOutOrder_110 : decode cX5_carryOutOrder 110 = .ok (.iload_n 1, 1) := by decide +kernel
theorem dX5_carryOutOrder_111 : decode cX5_carryOutOrder 111 = .ok (.iload_n 2, 1) := by decide +kernel
theorem dX5_carryOutOrder_112 : decode cX5_carryOutOrder 112 = .ok (.invokevirtual 62, 3) := by decide +kernel
theorem dX5_carryOutOrder_115 : decode cX5_carryOutOrder 115 = .ok (.ireturn, 1) := by decide +kernel
theorem dX5_carryOutOrder_116 : decode cX5_carryOutOrder 116 = .ok (.aload_n 0, 1) := by decide +kernel
theorem dX5_carryOutOrder_117 : decode cX5_carryOutOrder 117 = .ok (.getfield 10, 3) := by decide +kernel
theorem dX5_carryOutOrder_120 : decode cX5_carryOutOrder 120 = .ok (.iload_n 1, 1) := by decide +kernel
theorem dX5_carryOutOrder_121 : decode cX5_carryOutOrder 121 = .ok (.invokevirtual 68, 3) := by decide +kernel
theorem dX5_carryOutOrder_124 : decode cX5_carryOutOrder 124 = .ok (.ireturn, 1) := by decide +kernel
theorem dX5_carryOutOrder_125 : decode cX5_carryOutOrder 125 = .ok (.bipush (-4), 2) := by decide +kernel
theorem dX5_carryOutOrder_127 : decode cX5_carryOutOrder 127 = .ok (.ireturn, 1) := by decide +kernel
theorem dX5_isIndex_0 : decode cX5_isIndex 0 = .ok (.iload_n 0, 1) := by decide +kernel
theorem dX5_isIndex_1 : decode cX5_isIndex 1 = .ok (.ifCond .lt 12, 3) := by decide +kernel
theorem dX5_isIndex_4 : decode cX5_isIndex 4 = .ok (.iload_n 0, 1) := by decide +kernel
theorem dX5_isIndex_5 : decode cX5_isIndex 5 = .ok (.iload_n 1, 1) := by decide +kernel
theorem dX5_isIndex_6 : decode cX5_isIndex 6 = .ok (.if_icmp .ge 7, 3) := by decide +kernel
theorem dX5_isIndex_9 : decode cX5_isIndex 9 = .ok (.iconst 1, 1) := by decide +kernel
theorem dX5_isIndex_10 : decode cX5_isIndex 10 = .ok (.goto 4, 3) := by decide +kernel
theorem dX5_isIndex_13 : decode cX5_isIndex 13 = .ok (.iconst 0, 1) := by decide +kernel
theorem dX5_isIndex_14 : decode cX5_isIndex 14 = .ok (.ireturn, 1) := by decide +kernel
theorem dX5_isPlace_0 : decode cX5_isPlace 0 = .ok (.iload_n 0, 1) := by decide +kernel
theorem dX5_isPlace_1 : decode cX5_isPlace 1 = .ok (.bipush 9, 2) := by decide +kernel
theorem dX5_isPlace_3 : decode cX5_isPlace 3 = .ok (.irem, 1) := by decide +kernel
theorem dX5_isPlace_4 : decode cX5_isPlace 4 = .ok (.bipush 8, 2) := by decide +kernel
theorem dX5_isPlace_6 : decode cX5_isPlace 6 = .ok (.if_icmp .ne 7, 3) := by decide +kernel
theorem dX5_isPlace_9 : decode cX5_isPlace 9 = .ok (.iconst 1, 1) := by decide +kernel
theorem dX5_isPlace_10 : decode cX5_isPlace 10 = .ok (.goto 4, 3) := by decide +kernel
theorem dX5_isPlace_13 : decode cX5_isPlace 13 = .ok (.iconst 0, 1) := by decide +kernel
theorem dX5_isPlace_14 : decode cX5_isPlace 14 = .ok (.ireturn, 1) := by decide +kernel
theorem dX6_init_0 : decode cX6_init 0 = .ok (.aload_n 0, 1) := by decide +kernel
theorem dX6_init_1 : decode cX6_init 1 = .ok (.invokespecial 1, 3) := by decide +kernel
theorem dX6_init_4 : decode cX6_init 4 = .ok (.aload_n 0, 1) := by decide +kernel
theorem dX6_init_5 : decode cX6_init 5 = .ok (.sipush 375, 3) := by decide +kernel
theorem dX6_init_8 : decode cX6_init 8 = .ok (.newarray .int, 2) := by decide +kernel
theorem dX6_init_10 : decode cX6_init 10 = .ok (.putfield 7, 3) := by decide +kernel
theorem dX6_init_13 : decode cX6_init 13 = .ok (.aload_n 0, 1) := by decide +kernel
theorem dX6_init_14 : decode cX6_init 14 = .ok (.sipush 375, 3) := by decide +kernel
theorem dX6_init_17 : decode cX6_init 17 = .ok (.newarray .int, 2) := by decide +kernel
theorem dX6_init_19 : decode cX6_init 19 = .ok (.putfield 13, 3) := by decide +kernel
theorem dX6_init_22 : decode cX6_init 22 = .ok (.aload_n 0, 1) := by decide +kernel
theorem dX6_init_23 : decode cX6_init 23 = .ok (.sipush 1500, 3) := by decide +kernel
theorem dX6_init_26 : decode cX6_init 26 = .ok (.newarray .int, 2) := by decide +kernel
theorem dX6_init_28 : decode cX6_init 28 = .ok (.putfield 16, 3) := by decide +kernel
theorem dX6_init_31 : decode cX6_init 31 = .ok (.aload_n 0, 1) := by decide +kernel
theorem dX6_init_32 : decode cX6_init 32 = .ok (.sipush 375, 3) := by decide +kernel
theorem dX6_init_35 : decode cX6_init 35 = .ok (.newarray .int, 2) := by decide +kernel
theorem dX6_init_37 : decode cX6_init 37 = .ok (.putfield 19, 3) := by decide +kernel
theorem dX6_init_40 : decode cX6_init 40 = .ok (.aload_n 0, 1) := by decide +kernel
theorem dX6_init_41 : decode cX6_init 41 = .ok (.bipush 80, 2) := by decide +kernel
theorem dX6_init_43 : decode cX6_init 43 = .ok (.newarray .int, 2) := by decide +kernel
theorem dX6_init_45 : decode cX6_init 45 = .ok (.putfield 22, 3) := by decide +kernel
theorem dX6_init_48 : decode cX6_init 48 = .ok (.aload_n 0, 1) := by decide +kernel
theorem dX6_init_49 : decode cX6_init 49 = .ok (.bipush (-5), 2) := by decide +kernel
theorem dX6_init_51 : decode cX6_init 51 = .ok (.putfield 25, 3) := by decide +kernel
theorem dX6_init_54 : decode cX6_init 54 = .ok (.aload_n 0, 1) := by decide +kernel
theorem dX6_init_55 : decode cX6_init 55 = .ok (.getfield 7, 3) := by decide +kernel
theorem dX6_init_58 : decode cX6_init 58 = .ok (.iconst 0, 1) := by decide +kernel
theorem dX6_init_59 : decode cX6_init 59 = .ok (.iconst 2, 1) := by decide +kernel
theorem dX6_init_60 : decode cX6_init 60 = .ok (.iastore, 1) := by decide +kernel
theorem dX6_init_61 : decode cX6_init 61 = .ok (.aload_n 0, 1) := by decide +kernel
theorem dX6_init_62 : decode cX6_init 62 = .ok (.getfield 7, 3) := by decide +kernel
theorem dX6_init_65 : decode cX6_init 65 = .ok (.iconst 1, 1) := by decide +kernel
theorem dX6_init_66 : decode cX6_init 66 = .ok (.iconst 2, 1) := by decide +kernel
theorem dX6_init_67 : decode cX6_init 67 = .ok (.iastore, 1) := by decide +kernel
theorem dX6_init_68 : decode cX6_init 68 = .ok (.aload_n 0, 1) := by decide +kernel
theorem dX6_init_69 : decode cX6_init 69 = .ok (.getfield 7, 3) := by decide +kernel
theorem dX6_init_72 : decode cX6_init 72 = .ok (.iconst 2, 1) := by decide +kernel
theorem dX6_init_73 : decode cX6_init 73 = .ok (.bipush 10, 2) := by decide +kernel
theorem dX6_init_75 : decode cX6_init 75 = .ok (.iastore, 1) := by decide +kernel
theorem dX6_init_76 : decode cX6_init 76 = .ok (.iconst 0, 1) := by decide +kernel
theorem dX6_init_77 : decode cX6_init 77 = .ok (.istore_n 1, 1) := by decide +kernel
theorem dX6_init_78 : decode cX6_init 78 = .ok (.iload_n 1, 1) := by decide +kernel
theorem dX6_init_79 : decode cX6_init 79 = .ok (.iconst 4, 1) := by decide +kernel
theorem dX6_init_80 : decode cX6_init 80 = .ok (.if_icmp .ge 33, 3) := by decide +kernel
theorem dX6_init_83 : decode cX6_init 83 = .ok (.aload_n 0, 1) := by decide +kernel
theorem dX6_init_84 : decode cX6_init 84 = .ok (.getfield 7, 3) := by decide +kernel
theorem dX6_init_87 : decode cX6_init 87 = .ok (.iload_n 1, 1) := by decide +kernel
theorem dX6_init_88 : decode cX6_init 88 = .ok (.iconst 0, 1) := by decide +kernel
theorem dX6_init_89 : decode cX6_init 89 = .ok (.invokestatic 29, 3) := by decide +kernel
theorem dX6_init_92 : decode cX6_init 92 = .ok (.bipush (-5), 2) := by decide +kernel
theorem dX6_init_94 : decode cX6_init 94 = .ok (.iastore, 1) := by decide +kernel
theorem dX6_init_95 : decode cX6_init 95 = .ok (.aload_n 0, 1) := by decide +kernel
theorem dX6_init_96 : decode cX6_init 96 = .ok (.getfield 7, 3) := by decide +kernel
theorem dX6_init_99 : decode cX6_init 99 = .ok (.iload_n 1, 1) := by decide +kernel
theorem dX6_init_100 : decode cX6_init 100 = .ok (.iconst 4, 1) := by decide +kernel
theorem dX6_init_101 : decode cX6_init 101 = .ok (.invokestatic 29, 3) := by decide +kernel
theorem dX6_init_104 : decode cX6_init 104 = .ok (.bipush (-5), 2) := by decide +kernel
theorem dX6_init_106 : decode cX6_init 106 = .ok (.iastore, 1) := by decide +kernel
theorem dX6_init_107 : decode cX6_init 107 = .ok (.iinc 1 1, 3) := by decide +kernel
theorem dX6_init_110 : decode cX6_init 110 = .ok (.goto (-32), 3) := by decide +kernel
theorem dX6_init_113 : decode cX6_init 113 = .ok (.return_, 1) := by decide +kernel
theorem dX6_in_0 : decode cX6_in 0 = .ok (.iload_n 0, 1) := by decide +kernel
theorem dX6_in_1 : decode cX6_in 1 = .ok (.iload_n 1, 1) := by decide +kernel
theorem dX6_in_2 : decode cX6_in 2 = .ok (.if_icmp .lt 12, 3) := by decide +kernel
theorem dX6_in_5 : decode cX6_in 5 = .ok (.iload_n 0, 1) := by decide +kernel
theorem dX6_in_6 : decode cX6_in 6 = .ok (.iload_n 2, 1) := by decide +kernel
theorem dX6_in_7 : decode cX6_in 7 = .ok (.if_icmp .gt 7, 3) := by decide +kernel
theorem dX6_in_10 : decode cX6_in 10 = .ok (.iconst 1, 1) := by decide +kernel
theorem dX6_in_11 : decode cX6_in 11 = .ok (.goto 4, 3) := by decide +kernel
theorem dX6_in_14 : decode cX6_in 14 = .ok (.iconst 0, 1) := by decide +kernel
theorem dX6_in_15 : decode cX6_in 15 = .ok (.ireturn, 1) := by decide +kernel
theorem dX6_of_0 : decode cX6_of 0 = .ok (.iconst 4, 1) := by decide +kernel
theorem dX6_of_1 : decode cX6_of 1 = .ok (.bipush 22, 2) := by decide +kernel
theorem dX6_of_3 : decode cX6_of 3 = .ok (.iload_n 0, 1) := by decide +kernel
theorem dX6_of_4 : decode cX6_of 4 = .ok (.imul, 1) := by decide +kernel
theorem dX6_of_5 : decode cX6_of 5 = .ok (.iadd, 1) := by decide +kernel
theorem dX6_of_6 : decode cX6_of 6 = .ok (.iload_n 1, 1) := by decide +kernel
theorem dX6_of_7 : decode cX6_of 7 = .ok (.iadd, 1) := by decide +kernel
theorem dX6_of_8 : decode cX6_of 8 = .ok (.ireturn, 1) := by decide +kernel
theorem dX6_ofListener_0 : decode cX6_ofListener 0 = .ok (.bipush 92, 2) := by decide +kernel
theorem dX6_ofListener_2 : decode cX6_ofListener 2 = .ok (.iconst 5, 1) := by decide +kernel
theorem dX6_ofListener_3 : decode cX6_ofListener 3 = .ok (.iload_n 0, 1) := by decide +kernel
theorem dX6_ofListener_4 : decode cX6_ofListener 4 = .ok (.imul, 1) := by decide +kernel
theorem dX6_ofListener_5 : decode cX6_ofListener 5 = .ok (.iadd, 1) := by decide +kernel
theorem dX6_ofListener_6 : decode cX6_ofListener 6 = .ok (.iload_n 1, 1) := by decide +kernel
theorem dX6_ofListener_7 : decode cX6_ofListener 7 = .ok (.iadd, 1) := by decide +kernel
theorem dX6_ofListener_8 : decode cX6_ofListener 8 = .ok (.ireturn, 1) := by decide +kernel
theorem dX6_inMessage_0 : decode cX6_inMessage 0 = .ok (.aload_n 0, 1) := by decide +kernel
theorem dX6_inMessage_1 : decode cX6_inMessage 1 = .ok (.getfield 7, 3) := by decide +kernel
theorem dX6_inMessage_4 : decode cX6_inMessage 4 = .ok (.iload_n 1, 1) := by decide +kernel
theorem dX6_inMessage_5 : decode cX6_inMessage 5 = .ok (.bipush 7, 2) := by decide +kernel
theorem dX6_inMessage_7 : decode cX6_inMessage 7 = .ok (.iconst 3, 1) := by decide +kernel
theorem dX6_inMessage_8 : decode cX6_inMessage 8 = .ok (.iload_n 2, 1) := by decide +kernel
theorem dX6_inMessage_9 : decode cX6_inMessage 9 = .ok (.imul, 1) := by decide +kernel
theorem dX6_inMessage_10 : decode cX6_inMessage 10 = .ok (.iadd, 1) := by decide +kernel
theorem dX6_inMessage_11 : decode cX6_inMessage 11 = .ok (.iload_n 3, 1) := by decide +kernel
theorem dX6_inMessage_12 : decode cX6_inMessage 12 = .ok (.iadd, 1) := by decide +kernel
theorem dX6_inMessage_13 : decode cX6_inMessage 13 = .ok (.invokestatic 33, 3) := by decide +kernel
theorem dX6_inMessage_16 : decode cX6_inMessage 16 = .ok (.iaload, 1) := by decide +kernel
theorem dX6_inMessage_17 : decode cX6_inMessage 17 = .ok (.ireturn, 1) := by decide +kernel
theorem dX6_isOne_0 : decode cX6_isOne 0 = .ok (.iload_n 0, 1) := by decide +kernel
theorem dX6_isOne_1 : decode cX6_isOne 1 = .ok (.iconst 0, 1) := by decide +kernel
theorem dX6_isOne_2 : decode cX6_isOne 2 = .ok (.iconst 3, 1) := by decide +kernel
theorem dX6_isOne_3 : decode cX6_isOne 3 = .ok (.invokestatic 36, 3) := by decide +kernel
theorem dX6_isOne_6 : decode cX6_isOne 6 = .ok (.ireturn, 1) := by decide +kernel
theorem dX6_putAside_0 : decode cX6_putAside 0 = .ok (.iconst 0, 1) := by decide +kernel
theorem dX6_putAside_1 : decode cX6_putAside 1 = .ok (.istore_n 1, 1) := by decide +kernel
theorem dX6_putAside_2 : decode cX6_putAside 2 = .ok (.iload_n 1, 1) := by decide +kernel
theorem dX6_putAside_3 : decode cX6_putAside 3 = .ok (.sipush 375, 3) := by decide +kernel
theorem dX6_putAside_6 : decode cX6_putAside 6 = .ok (.if_icmp .ge 21, 3) := by decide +kernel
theorem dX6_putAside_9 : decode cX6_putAside 9 = .ok (.aload_n 0, 1) := by decide +kernel
theorem dX6_putAside_10 : decode cX6_putAside 10 = .ok (.getfield 13, 3) := by decide +kernel
theorem dX6_putAside_13 : decode cX6_putAside 13 = .ok (.iload_n 1, 1) := by decide +kernel
theorem dX6_putAside_14 : decode cX6_putAside 14 = .ok (.aload_n 0, 1) := by decide +kernel
theorem dX6_putAside_15 : decode cX6_putAside 15 = .ok (.getfield 7, 3) := by decide +kernel
theorem dX6_putAside_18 : decode cX6_putAside 18 = .ok (.iload_n 1, 1) := by decide +kernel
theorem dX6_putAside_19 : decode cX6_putAside 19 = .ok (.iaload, 1) := by decide +kernel
theorem dX6_putAside_20 : decode cX6_putAside 20 = .ok (.iastore, 1) := by decide +kernel
theorem dX6_putAside_21 : decode cX6_putAside 21 = .ok (.iinc 1 1, 3) := by decide +kernel
theorem dX6_putAside_24 : decode cX6_putAside 24 = .ok (.goto (-22), 3) := by decide +kernel
theorem dX6_putAside_27 : decode cX6_putAside 27 = .ok (.return_, 1) := by decide +kernel
theorem dX6_putBack_0 : decode cX6_putBack 0 = .ok (.iconst 0, 1) := by decide +kernel
theorem dX6_putBack_1 : decode cX6_putBack 1 = .ok (.istore_n 1, 1) := by decide +kernel
theorem dX6_putBack_2 : decode cX6_putBack 2 = .ok (.iload_n 1, 1) := by decide +kernel
theorem dX6_putBack_3 : decode cX6_putBack 3 = .ok (.sipush 375, 3) := by decide +kernel
theorem dX6_putBack_6 : decode cX6_putBack 6 = .ok (.if_icmp .ge 21, 3) := by decide +kernel
theorem dX6_putBack_9 : decode cX6_putBack 9 = .ok (.aload_n 0, 1) := by decide +kernel
theorem dX6_putBack_10 : decode cX6_putBack 10 = .ok (.getfield 7, 3) := by decide +kernel
theorem dX6_putBack_13 : decode cX6_putBack 13 = .ok (.iload_n 1, 1) := by decide +kernel
theorem dX6_putBack_14 : decode cX6_putBack 14 = .ok (.aload_n 0, 1) := by decide +kernel
theorem dX6_putBack_15 : decode cX6_putBack 15 = .ok (.getfield 13, 3) := by decide +kernel
theorem dX6_putBack_18 : decode cX6_putBack 18 = .ok (.iload_n 1, 1) := by decide +kernel
theorem dX6_putBack_19 : decode cX6_putBack 19 = .ok (.iaload, 1) := by decide +kernel
theorem dX6_putBack_20 : decode cX6_putBack 20 = .ok (.iastore, 1) := by decide +kernel
theorem dX6_putBack_21 : decode cX6_putBack 21 = .ok (.iinc 1 1, 3) := by decide +kernel
theorem dX6_putBack_24 : decode cX6_putBack 24 = .ok (.goto (-22), 3) := by decide +kernel
theorem dX6_putBack_27 : decode cX6_putBack 27 = .ok (.return_, 1) := by decide +kernel
theorem dX6_act_0 : decode cX6_act 0 = .ok (.iload_n 1, 1) := by decide +kernel
theorem dX6_act_1 : decode cX6_act 1 = .ok (.ifCond .ge 5, 3) := by decide +kernel
theorem dX6_act_4 : decode cX6_act 4 = .ok (.iload_n 1, 1) := by decide +kernel
theorem dX6_act_5 : decode cX6_act 5 = .ok (.ireturn, 1) := by decide +kernel
theorem dX6_act_6 : decode cX6_act 6 = .ok (.aload_n 0, 1) := by decide +kernel
theorem dX6_act_7 : decode cX6_act 7 = .ok (.getfield 40, 3) := by decide +kernel
theorem dX6_act_10 : decode cX6_act 10 = .ok (.iconst 4, 1) := by decide +kernel
theorem dX6_act_11 : decode cX6_act 11 = .ok (.if_icmp .ne 44, 3) := by decide +kernel
theorem dX6_act_14 : decode cX6_act 14 = .ok (.iconst 0, 1) := by decide +kernel
theorem dX6_act_15 : decode cX6_act 15 = .ok (.istore_n 2, 1) := by decide +kernel
theorem dX6_act_16 : decode cX6_act 16 = .ok (.iload_n 2, 1) := by decide +kernel
theorem dX6_act_17 : decode cX6_act 17 = .ok (.sipush 1125, 3) := by decide +kernel
theorem dX6_act_20 : decode cX6_act 20 = .ok (.if_icmp .ge 25, 3) := by decide +kernel
theorem dX6_act_23 : decode cX6_act 23 = .ok (.aload_n 0, 1) := by decide +kernel
theorem dX6_act_24 : decode cX6_act 24 = .ok (.getfield 16, 3) := by decide +kernel
theorem dX6_act_27 : decode cX6_act 27 = .ok (.iload_n 2, 1) := by decide +kernel
theorem dX6_act_28 : decode cX6_act 28 = .ok (.aload_n 0, 1) := by decide +kernel
theorem dX6_act_29 : decode cX6_act 29 = .ok (.getfield 16, 3) := by decide +kernel
theorem dX6_act_32 : decode cX6_act 32 = .ok (.sipush 375, 3) := by decide +kernel
theorem dX6_act_35 : decode cX6_act 35 = .ok (.iload_n 2, 1) := by decide +kernel
theorem dX6_act_36 : decode cX6_act 36 = .ok (.iadd, 1) := by decide +kernel
theorem dX6_act_37 : decode cX6_act 37 = .ok (.iaload, 1) := by decide +kernel
theorem dX6_act_38 : decode cX6_act 38 = .ok (.iastore, 1) := by decide +kernel
theorem dX6_act_39 : decode cX6_act 39 = .ok (.iinc 2 1, 3) := by decide +kernel
theorem dX6_act_42 : decode cX6_act 42 = .ok (.goto (-26), 3) := by decide +kernel
theorem dX6_act_45 : decode cX6_act 45 = .ok (.aload_n 0, 1) := by decide +kernel
theorem dX6_act_46 : decode cX6_act 46 = .ok (.dup, 1) := by decide +kernel
theorem dX6_act_47 : decode cX6_act 47 = .ok (.getfield 40, 3) := by decide +kernel
theorem dX6_act_50 : decode cX6_act 50 = .ok (.iconst 1, 1) := by decide +kernel
theorem dX6_act_51 : decode cX6_act 51 = .ok (.isub, 1) := by decide +kernel
theorem dX6_act_52 : decode cX6_act 52 = .ok (.putfield 40, 3) := by decide +kernel
theorem dX6_act_55 : decode cX6_act 55 = .ok (.iconst 0, 1) := by decide +kernel
theorem dX6_act_56 : decode cX6_act 56 = .ok (.istore_n 2, 1) := by decide +kernel
theorem dX6_act_57 : decode cX6_act 57 = .ok (.iload_n 2, 1) := by decide +kernel
theorem dX6_act_58 : decode cX6_act 58 = .ok (.sipush 375, 3) := by decide +kernel
theorem dX6_act_61 : decode cX6_act 61 = .ok (.if_icmp .ge 30, 3) := by decide +kernel
theorem dX6_act_64 : decode cX6_act 64 = .ok (.aload_n 0, 1) := by decide +kernel
theorem dX6_act_65 : decode cX6_act 65 = .ok (.getfield 16, 3) := by decide +kernel
theorem dX6_act_68 : decode cX6_act 68 = .ok (.sipush 375, 3) := by decide +kernel
theorem dX6_act_71 : decode cX6_act 71 = .ok (.aload_n 0, 1) := by decide +kernel
theorem dX6_act_72 : decode cX6_act 72 = .ok (.getfield 40, 3) := by decide +kernel
theorem dX6_act_75 : decode cX6_act 75 = .ok (.imul, 1) := by decide +kernel
theorem dX6_act_76 : decode cX6_act 76 = .ok (.iload_n 2, 1) := by decide +kernel
theorem dX6_act_77 : decode cX6_act 77 = .ok (.iadd, 1) := by decide +kernel
theorem dX6_act_78 : decode cX6_act 78 = .ok (.aload_n 0, 1) := by decide +kernel
theorem dX6_act_79 : decode cX6_act 79 = .ok (.getfield 13, 3) := by decide +kernel
theorem dX6_act_82 : decode cX6_act 82 = .ok (.iload_n 2, 1) := by decide +kernel
theorem dX6_act_83 : decode cX6_act 83 = .ok (.iaload, 1) := by decide +kernel
theorem dX6_act_84 : decode cX6_act 84 = .ok (.iastore, 1) := by decide +kernel
theorem dX6_act_85 : decode cX6_act 85 = .ok (.iinc 2 1, 3) := by decide +kernel
theorem dX6_act_88 : decode cX6_act 88 = .ok (.goto (-31), 3) := by decide +kernel
theorem dX6_act_91 : decode cX6_act 91 = .ok (.aload_n 0, 1) := by decide +kernel
theorem dX6_act_92 : decode cX6_act 92 = .ok (.dup, 1) := by decide +kernel
theorem dX6_act_93 : decode cX6_act 93 = .ok (.getfield 40, 3) := by decide +kernel
theorem dX6_act_96 : decode cX6_act 96 = .ok (.iconst 1, 1) := by decide +kernel
theorem dX6_act_97 : decode cX6_act 97 = .ok (.iadd, 1) := by decide +kernel
theorem dX6_act_98 : decode cX6_act 98 = .ok (.putfield 40, 3) := by decide +kernel
theorem dX6_act_101 : decode cX6_act 101 = .ok (.iload_n 1, 1) := by decide +kernel
theorem dX6_act_102 : decode cX6_act 102 = .ok (.ireturn, 1) := by decide +kernel
theorem dX6_bitsOf_0 : decode cX6_bitsOf 0 = .ok (.iload_n 0, 1) := by decide +kernel
theorem dX6_bitsOf_1 : decode cX6_bitsOf 1 = .ok (.bipush (-5), 2) := by decide +kernel
theorem dX6_bitsOf_3 : decode cX6_bitsOf 3 = .ok (.if_icmp .ne 8, 3) := by decide +kernel
theorem dX6_bitsOf_6 : decode cX6_bitsOf 6 = .ok (.bipush 18, 2) := by decide +kernel
theorem dX6_bitsOf_8 : decode cX6_bitsOf 8 = .ok (.goto 5, 3) := by decide +kernel
theorem dX6_bitsOf_11 : decode cX6_bitsOf 11 = .ok (.bipush 27, 2) := by decide +kernel
theorem dX6_bitsOf_13 : decode cX6_bitsOf 13 = .ok (.ireturn, 1) := by decide +kernel
theorem dX6_isAnswer_0 : decode cX6_isAnswer 0 = .ok (.iload_n 0, 1) := by decide +kernel
theorem dX6_isAnswer_1 : decode cX6_isAnswer 1 = .ok (.bipush 9, 2) := by decide +kernel
theorem dX6_isAnswer_3 : decode cX6_isAnswer 3 = .ok (.irem, 1) := by decide +kernel
theorem dX6_isAnswer_4 : decode cX6_isAnswer 4 = .ok (.bipush 8, 2) := by decide +kernel
theorem dX6_isAnswer_6 : decode cX6_isAnswer 6 = .ok (.if_icmp .ne 7, 3) := by decide +kernel
theorem dX6_isAnswer_9 : decode cX6_isAnswer 9 = .ok (.iconst 1, 1) := by decide +kernel
theorem dX6_isAnswer_10 : decode cX6_isAnswer 10 = .ok (.goto 4, 3) := by decide +kernel
theorem dX6_isAnswer_13 : decode cX6_isAnswer 13 = .ok (.iconst 0, 1) := by decide +kernel
theorem dX6_isAnswer_14 : decode cX6_isAnswer 14 = .ok (.ireturn, 1) := by decide +kernel
theorem dX6_bitAt_0 : decode cX6_bitAt 0 = .ok (.iload_n 2, 1) := by decide +kernel
theorem dX6_bitAt_1 : decode cX6_bitAt 1 = .ok (.bipush 9, 2) := by decide +kernel
theorem dX6_bitAt_3 : decode cX6_bitAt 3 = .ok (.idiv, 1) := by decide +kernel
theorem dX6_bitAt_4 : decode cX6_bitAt 4 = .ok (.istore_n 3, 1) := by decide +kernel
theorem dX6_bitAt_5 : decode cX6_bitAt 5 = .ok (.iload_n 3, 1) := by decide +kernel
theorem dX6_bitAt_6 : decode cX6_bitAt 6 = .ok (.ifCond .ne 15, 3) := by decide +kernel
theorem dX6_bitAt_9 : decode cX6_bitAt 9 = .ok (.iconst 2, 1) := by decide +kernel
theorem dX6_bitAt_10 : decode cX6_bitAt 10 = .ok (.aload_n 0, 1) := by decide +kernel
theorem dX6_bitAt_11 : decode cX6_bitAt 11 = .ok (.iload_n 1, 1) := by decide +kernel
theorem dX6_bitAt_12 : decode cX6_bitAt 12 = .ok (.iconst 0, 1) := by decide +kernel
theorem dX6_bitAt_13 : decode cX6_bitAt 13 = .ok (.iconst 0, 1) := by decide +kernel
theorem dX6_bitAt_14 : decode cX6_bitAt 14 = .ok (.invokevirtual 43, 3) := by decide +kernel
theorem dX6_bitAt_17 : decode cX6_bitAt 17 = .ok (.imul, 1) := by decide +kernel
theorem dX6_bitAt_18 : decode cX6_bitAt 18 = .ok (.goto 10, 3) := by decide +kernel
theorem dX6_bitAt_21 : decode cX6_bitAt 21 = .ok (.aload_n 0, 1) := by decide +kernel
theorem dX6_bitAt_22 : decode cX6_bitAt 22 = .ok (.iload_n 1, 1) := by decide +kernel
theorem dX6_bitAt_23 : decode cX6_bitAt 23 = .ok (.iconst 0, 1) := by decide +kernel
theorem dX6_bitAt_24 : decode cX6_bitAt 24 = .ok (.iload_n 3, 1) := by decide +kernel
theorem dX6_bitAt_25 : decode cX6_bitAt 25 = .ok (.invokevirtual 43, 3) := by decide +kernel
theorem dX6_bitAt_28 : decode cX6_bitAt 28 = .ok (.istore 4, 2) := by decide +kernel
theorem dX6_bitAt_30 : decode cX6_bitAt 30 = .ok (.iload 4, 2) := by decide +kernel
theorem dX6_bitAt_32 : decode cX6_bitAt 32 = .ok (.bipush 7, 2) := by decide +kernel
theorem dX6_bitAt_34 : decode cX6_bitAt 34 = .ok (.iload_n 2, 1) := by decide +kernel
theorem dX6_bitAt_35 : decode cX6_bitAt 35 = .ok (.bipush 9, 2) := by decide +kernel
theorem dX6_bitAt_37 : decode cX6_bitAt 37 = .ok (.irem, 1) := by decide +kernel
theorem dX6_bitAt_38 : decode cX6_bitAt 38 = .ok (.isub, 1) := by decide +kernel
theorem dX6_bitAt_39 : decode cX6_bitAt 39 = .ok (.ishr, 1) := by decide +kernel
theorem dX6_bitAt_40 : decode cX6_bitAt 40 = .ok (.iconst 1, 1) := by decide +kernel
theorem dX6_bitAt_41 : decode cX6_bitAt 41 = .ok (.iand, 1) := by decide +kernel
theorem dX6_bitAt_42 : decode cX6_bitAt 42 = .ok (.ireturn, 1) := by decide +kernel
theorem dX6_dropFirst_0 : decode cX6_dropFirst 0 = .ok (.aload_n 0, 1) := by decide +kernel
theorem dX6_dropFirst_1 : decode cX6_dropFirst 1 = .ok (.getfield 7, 3) := by decide +kernel
theorem dX6_dropFirst_4 : decode cX6_dropFirst 4 = .ok (.iload_n 1, 1) := by decide +kernel
theorem dX6_dropFirst_5 : decode cX6_dropFirst 5 = .ok (.iconst 0, 1) := by decide +kernel
theorem dX6_dropFirst_6 : decode cX6_dropFirst 6 = .ok (.invokestatic 33, 3) := by decide +kernel
theorem dX6_dropFirst_9 : decode cX6_dropFirst 9 = .ok (.dup2, 1) := by decide +kernel
theorem dX6_dropFirst_10 : decode cX6_dropFirst 10 = .ok (.iaload, 1) := by decide +kernel
theorem dX6_dropFirst_11 : decode cX6_dropFirst 11 = .ok (.iconst 1, 1) := by decide +kernel
theorem dX6_dropFirst_12 : decode cX6_dropFirst 12 = .ok (.isub, 1) := by decide +kernel
theorem dX6_dropFirst_13 : decode cX6_dropFirst 13 = .ok (.iastore, 1) := by decide +kernel
theorem dX6_dropFirst_14 : decode cX6_dropFirst 14 = .ok (.iconst 0, 1) := by decide +kernel
theorem dX6_dropFirst_15 : decode cX6_dropFirst 15 = .ok (.istore_n 2, 1) := by decide +kernel
theorem dX6_dropFirst_16 : decode cX6_dropFirst 16 = .ok (.iload_n 2, 1) := by decide +kernel
theorem dX6_dropFirst_17 : decode cX6_dropFirst 17 = .ok (.iconst 3, 1) := by decide +kernel
theorem dX6_dropFirst_18 : decode cX6_dropFirst 18 = .ok (.aload_n 0, 1) := by decide +kernel
theorem dX6_dropFirst_19 : decode cX6_dropFirst 19 = .ok (.getfield 7, 3) := by decide +kernel
theorem dX6_dropFirst_22 : decode cX6_dropFirst 22 = .ok (.iload_n 1, 1) := by decide +kernel
theorem dX6_dropFirst_23 : decode cX6_dropFirst 23 = .ok (.iconst 0, 1) := by decide +kernel
theorem dX6_dropFirst_24 : decode cX6_dropFirst 24 = .ok (.invokestatic 33, 3) := by decide +kernel
theorem dX6_dropFirst_27 : decode cX6_dropFirst 27 = .ok (.iaload, 1) := by decide +kernel
theorem dX6_dropFirst_28 : decode cX6_dropFirst 28 = .ok (.imul, 1) := by decide +kernel
theorem dX6_dropFirst_29 : decode cX6_dropFirst 29 = .ok (.if_icmp .ge 37, 3) := by decide +kernel
theorem dX6_dropFirst_32 : decode cX6_dropFirst 32 = .ok (.aload_n 0, 1) := by decide +kernel
theorem dX6_dropFirst_33 : decode cX6_dropFirst 33 = .ok (.getfield 7, 3) := by decide +kernel
theorem dX6_dropFirst_36 : decode cX6_dropFirst 36 = .ok (.iload_n 1, 1) := by decide +kernel
theorem dX6_dropFirst_37 : decode cX6_dropFirst 37 = .ok (.bipush 7, 2) := by decide +kernel
theorem dX6_dropFirst_39 : decode cX6_dropFirst 39 = .ok (.iload_n 2, 1) := by decide +kernel
theorem dX6_dropFirst_40 : decode cX6_dropFirst 40 = .ok (.iadd, 1) := by decide +kernel
theorem dX6_dropFirst_41 : decode cX6_dropFirst 41 = .ok (.invokestatic 33, 3) := by decide +kernel
theorem dX6_dropFirst_44 : decode cX6_dropFirst 44 = .ok (.aload_n 0, 1) := by decide +kernel
theorem dX6_dropFirst_45 : decode cX6_dropFirst 45 = .ok (.getfield 7, 3) := by decide +kernel
theorem dX6_dropFirst_48 : decode cX6_dropFirst 48 = .ok (.iload_n 1, 1) := by decide +kernel
theorem dX6_dropFirst_49 : decode cX6_dropFirst 49 = .ok (.bipush 7, 2) := by decide +kernel
theorem dX6_dropFirst_51 : decode cX6_dropFirst 51 = .ok (.iload_n 2, 1) := by decide +kernel
theorem dX6_dropFirst_52 : decode cX6_dropFirst 52 = .ok (.iadd, 1) := by decide +kernel
theorem dX6_dropFirst_53 : decode cX6_dropFirst 53 = .ok (.iconst 3, 1) := by decide +kernel
theorem dX6_dropFirst_54 : decode cX6_dropFirst 54 = .ok (.iadd, 1) := by decide +kernel
theorem dX6_dropFirst_55 : decode cX6_dropFirst 55 = .ok (.invokestatic 33, 3) := by decide +kernel
theorem dX6_dropFirst_58 : decode cX6_dropFirst 58 = .ok (.iaload, 1) := by decide +kernel
theorem dX6_dropFirst_59 : decode cX6_dropFirst 59 = .ok (.iastore, 1) := by decide +kernel
theorem dX6_dropFirst_60 : decode cX6_dropFirst 60 = .ok (.iinc 2 1, 3) := by decide +kernel
theorem dX6_dropFirst_63 : decode cX6_dropFirst 63 = .ok (.goto (-47), 3) := by decide +kernel
theorem dX6_dropFirst_66 : decode cX6_dropFirst 66 = .ok (.aload_n 0, 1) := by decide +kernel
theorem dX6_dropFirst_67 : decode cX6_dropFirst 67 = .ok (.getfield 7, 3) := by decide +kernel
theorem dX6_dropFirst_70 : decode cX6_dropFirst 70 = .ok (.iload_n 1, 1) := by decide +kernel
theorem dX6_dropFirst_71 : decode cX6_dropFirst 71 = .ok (.bipush 6, 2) := by decide +kernel
theorem dX6_dropFirst_73 : decode cX6_dropFirst 73 = .ok (.invokestatic 33, 3) := by decide +kernel
theorem dX6_dropFirst_76 : decode cX6_dropFirst 76 = .ok (.iconst 0, 1) := by decide +kernel
theorem dX6_dropFirst_77 : decode cX6_dropFirst 77 = .ok (.iastore, 1) := by decide +kernel
theorem dX6_dropFirst_78 : decode cX6_dropFirst 78 = .ok (.return_, 1) := by decide +kernel
theorem dX6_isTalking_0 : decode cX6_isTalking 0 = .ok (.aload_n 0, 1) := by decide +kernel
theorem dX6_isTalking_1 : decode cX6_isTalking 1 = .ok (.getfield 7, 3) := by decide +kernel
theorem dX6_isTalking_4 : decode cX6_isTalking 4 = .ok (.iload_n 1, 1) := by decide +kernel
theorem dX6_isTalking_5 : decode cX6_isTalking 5 = .ok (.iconst 1, 1) := by decide +kernel
theorem dX6_isTalking_6 : decode cX6_isTalking 6 = .ok (.invokestatic 33, 3) := by decide +kernel
theorem dX6_isTalking_9 : decode cX6_isTalking 9 = .ok (.iaload, 1) := by decide +kernel
theorem dX6_isTalking_10 : decode cX6_isTalking 10 = .ok (.iconst 1, 1) := by decide +kernel
theorem dX6_isTalking_11 : decode cX6_isTalking 11 = .ok (.if_icmp .ne 7, 3) := by decide +kernel
theorem dX6_isTalking_14 : decode cX6_isTalking 14 = .ok (.iconst 1, 1) := by decide +kernel
theorem dX6_isTalking_15 : decode cX6_isTalking 15 = .ok (.goto 4, 3) := by decide +kernel
theorem dX6_isTalking_18 : decode cX6_isTalking 18 = .ok (.iconst 0, 1) := by decide +kernel
theorem dX6_isTalking_19 : decode cX6_isTalking 19 = .ok (.ireturn, 1) := by decide +kernel
theorem dX6_talking_0 : decode cX6_talking 0 = .ok (.iconst 0, 1) := by decide +kernel
theorem dX6_talking_1 : decode cX6_talking 1 = .ok (.istore_n 1, 1) := by decide +kernel
theorem dX6_talking_2 : decode cX6_talking 2 = .ok (.iconst 0, 1) := by decide +kernel
theorem dX6_talking_3 : decode cX6_talking 3 = .ok (.istore_n 2, 1) := by decide +kernel
theorem dX6_talking_4 : decode cX6_talking 4 = .ok (.iload_n 2, 1) := by decide +kernel
theorem dX6_talking_5 : decode cX6_talking 5 = .ok (.iconst 4, 1) := by decide +kernel
theorem dX6_talking_6 : decode cX6_talking 6 = .ok (.if_icmp .ge 25, 3) := by decide +kernel
theorem dX6_talking_9 : decode cX6_talking 9 = .ok (.iload_n 1, 1) := by decide +kernel
theorem dX6_talking_10 : decode cX6_talking 10 = .ok (.aload_n 0, 1) := by decide +kernel
theorem dX6_talking_11 : decode cX6_talking 11 = .ok (.iload_n 2, 1) := by decide +kernel
theorem dX6_talking_12 : decode cX6_talking 12 = .ok (.invokevirtual 47, 3) := by decide +kernel
theorem dX6_talking_15 : decode cX6_talking 15 = .ok (.ifCond .eq 7, 3) := by decide +kernel
theorem dX6_talking_18 : decode cX6_talking 18 = .ok (.iconst 1, 1) := by decide +kernel
theorem dX6_talking_19 : decode cX6_talking 19 = .ok (.goto 4, 3) := by decide +kernel
theorem dX6_talking_22 : decode cX6_talking 22 = .ok (.iconst 0, 1) := by decide +kernel
theorem dX6_talking_23 : decode cX6_talking 23 = .ok (.iadd, 1) := by decide +kernel
theorem dX6_talking_24 : decode cX6_talking 24 = .ok (.istore_n 1, 1) := by decide +kernel
theorem dX6_talking_25 : decode cX6_talking 25 = .ok (.iinc 2 1, 3) := by decide +kernel
theorem dX6_talking_28 : decode cX6_talking 28 = .ok (.goto (-24), 3) := by decide +kernel
theorem dX6_talking_31 : decode cX6_talking 31 = .ok (.iload_n 1, 1) := by decide +kernel
theorem dX6_talking_32 : decode cX6_talking 32 = .ok (.ireturn, 1) := by decide +kernel
theorem dX6_firstTalking_0 : decode cX6_firstTalking 0 = .ok (.iconst 0, 1) := by decide +kernel
theorem dX6_firstTalking_1 : decode cX6_firstTalking 1 = .ok (.istore_n 1, 1) := by decide +kernel
theorem dX6_firstTalking_2 : decode cX6_firstTalking 2 = .ok (.aload_n 0, 1) := by decide +kernel
theorem dX6_firstTalking_3 : decode cX6_firstTalking 3 = .ok (.iload_n 1, 1) := by decide +kernel
theorem dX6_firstTalking_4 : decode cX6_firstTalking 4 = .ok (.invokevirtual 47, 3) := by decide +kernel
theorem dX6_firstTalking_7 : decode cX6_firstTalking 7 = .ok (.ifCond .ne 9, 3) := by decide +kernel
theorem dX6_firstTalking_10 : decode cX6_firstTalking 10 = .ok (.iinc 1 1, 3) := by decide +kernel
theorem dX6_firstTalking_13 : decode cX6_firstTalking 13 = .ok (.goto (-11), 3) := by decide +kernel
theorem dX6_firstTalking_16 : decode cX6_firstTalking 16 = .ok (.iload_n 1, 1) := by decide +kernel
theorem dX6_firstTalking_17 : decode cX6_firstTalking 17 = .ok (.ireturn, 1) := by decide +kernel
theorem dX6_listenerOf_0 : decode cX6_listenerOf 0 = .ok (.iconst 0, 1) := by decide +kernel
theorem dX6_listenerOf_1 : decode cX6_listenerOf 1 = .ok (.istore_n 2, 1) := by decide +kernel
theorem dX6_listenerOf_2 : decode cX6_listenerOf 2 = .ok (.iload_n 2, 1) := by decide +kernel
theorem dX6_listenerOf_3 : decode cX6_listenerOf 3 = .ok (.iconst 4, 1) := by decide +kernel
theorem dX6_listenerOf_4 : decode cX6_listenerOf 4 = .ok (.if_icmp .ge 25, 3) := by decide +kernel
theorem dX6_listenerOf_7 : decode cX6_listenerOf 7 = .ok (.aload_n 0, 1) := by decide +kernel
theorem dX6_listenerOf_8 : decode cX6_listenerOf 8 = .ok (.getfield 7, 3) := by decide +kernel
theorem dX6_listenerOf_11 : decode cX6_listenerOf 11 = .ok (.iload_n 2, 1) := by decide +kernel
theorem dX6_listenerOf_12 : decode cX6_listenerOf 12 = .ok (.iconst 0, 1) := by decide +kernel
theorem dX6_listenerOf_13 : decode cX6_listenerOf 13 = .ok (.invokestatic 29, 3) := by decide +kernel
theorem dX6_listenerOf_16 : decode cX6_listenerOf 16 = .ok (.iaload, 1) := by decide +kernel
theorem dX6_listenerOf_17 : decode cX6_listenerOf 17 = .ok (.iload_n 1, 1) := by decide +kernel
theorem dX6_listenerOf_18 : decode cX6_listenerOf 18 = .ok (.if_icmp .ne 5, 3) := by decide +kernel
theorem dX6_listenerOf_21 : decode cX6_listenerOf 21 = .ok (.iload_n 2, 1) := by decide +kernel
theorem dX6_listenerOf_22 : decode cX6_listenerOf 22 = .ok (.ireturn, 1) := by decide +kernel
theorem dX6_listenerOf_23 : decode cX6_listenerOf 23 = .ok (.iinc 2 1, 3) := by decide +kernel
theorem dX6_listenerOf_26 : decode cX6_listenerOf 26 = .ok (.goto (-24), 3) := by decide +kernel
theorem dX6_listenerOf_29 : decode cX6_listenerOf 29 = .ok (.bipush (-5), 2) := by decide +kernel
theorem dX6_listenerOf_31 : decode cX6_listenerOf 31 = .ok (.ireturn, 1) := by decide +kernel
theorem dX6_logs_0 : decode cX6_logs 0 = .ok (.aload_n 0, 1) := by decide +kernel
theorem dX6_logs_1 : decode cX6_logs 1 = .ok (.getfield 7, 3) := by decide +kernel
theorem dX6_logs_4 : decode cX6_logs 4 = .ok (.bipush 118, 2) := by decide +kernel
theorem dX6_logs_6 : decode cX6_logs 6 = .ok (.iaload, 1) := by decide +kernel
theorem dX6_logs_7 : decode cX6_logs 7 = .ok (.bipush 64, 2) := by decide +kernel
theorem dX6_logs_9 : decode cX6_logs 9 = .ok (.if_icmp .ne 48, 3) := by decide +kernel
theorem dX6_logs_12 : decode cX6_logs 12 = .ok (.bipush 119, 2) := by decide +kernel
theorem dX6_logs_14 : decode cX6_logs 14 = .ok (.istore 4, 2) := by decide +kernel
theorem dX6_logs_16 : decode cX6_logs 16 = .ok (.iload 4, 2) := by decide +kernel
theorem dX6_logs_18 : decode cX6_logs 18 = .ok (.sipush 371, 3) := by decide +kernel
theorem dX6_logs_21 : decode cX6_logs 21 = .ok (.if_icmp .ge 25, 3) := by decide +kernel
theorem dX6_logs_24 : decode cX6_logs 24 = .ok (.aload_n 0, 1) := by decide +kernel
theorem dX6_logs_25 : decode cX6_logs 25 = .ok (.getfield 7, 3) := by decide +kernel
theorem dX6_logs_28 : decode cX6_logs 28 = .ok (.iload 4, 2) := by decide +kernel
theorem dX6_logs_30 : decode cX6_logs 30 = .ok (.aload_n 0, 1) := by decide +kernel
theorem dX6_logs_31 : decode cX6_logs 31 = .ok (.getfield 7, 3) := by decide +kernel
theorem dX6_logs_34 : decode cX6_logs 34 = .ok (.iload 4, 2) := by decide +kernel
theorem dX6_logs_36 : decode cX6_logs 36 = .ok (.iconst 4, 1) := by decide +kernel
theorem dX6_logs_37 : decode cX6_logs 37 = .ok (.iadd, 1) := by decide +kernel
theorem dX6_logs_38 : decode cX6_logs 38 = .ok (.iaload, 1) := by decide +kernel
theorem dX6_logs_39 : decode cX6_logs 39 = .ok (.iastore, 1) := by decide +kernel
theorem dX6_logs_40 : decode cX6_logs 40 = .ok (.iinc 4 1, 3) := by decide +kernel
theorem dX6_logs_43 : decode cX6_logs 43 = .ok (.goto (-27), 3) := by decide +kernel
theorem dX6_logs_46 : decode cX6_logs 46 = .ok (.aload_n 0, 1) := by decide +kernel
theorem dX6_logs_47 : decode cX6_logs 47 = .ok (.getfield 7, 3) := by decide +kernel
theorem dX6_logs_50 : decode cX6_logs 50 = .ok (.bipush 118, 2) := by decide +kernel
theorem dX6_logs_52 : decode cX6_logs 52 = .ok (.dup2, 1) := by decide +kernel
theorem dX6_logs_53 : decode cX6_logs 53 = .ok (.iaload, 1) := by decide +kernel
theorem dX6_logs_54 : decode cX6_logs 54 = .ok (.iconst 1, 1) := by decide +kernel
theorem dX6_logs_55 : decode cX6_logs 55 = .ok (.isub, 1) := by decide +kernel
theorem dX6_logs_56 : decode cX6_logs 56 = .ok (.iastore, 1) := by decide +kernel
theorem dX6_logs_57 : decode cX6_logs 57 = .ok (.bipush 119, 2) := by decide +kernel
theorem dX6_logs_59 : decode cX6_logs 59 = .ok (.iconst 4, 1) := by decide +kernel
theorem dX6_logs_60 : decode cX6_logs 60 = .ok (.aload_n 0, 1) := by decide +kernel
theorem dX6_logs_61 : decode cX6_logs 61 = .ok (.getfield 7, 3) := by decide +kernel
theorem dX6_logs_64 : decode cX6_logs 64 = .ok (.bipush 118, 2) := by decide +kernel
theorem dX6_logs_66 : decode cX6_logs 66 = .ok (.iaload, 1) := by decide +kernel
theorem dX6_logs_67 : decode cX6_logs 67 = .ok (.imul, 1) := by decide +kernel
theorem dX6_logs_68 : decode cX6_logs 68 = .ok (.iadd, 1) := by decide +kernel
theorem dX6_logs_69 : decode cX6_logs 69 = .ok (.istore 4, 2) := by decide +kernel
theorem dX6_logs_71 : decode cX6_logs 71 = .ok (.aload_n 0, 1) := by decide +kernel
theorem dX6_logs_72 : decode cX6_logs 72 = .ok (.getfield 7, 3) := by decide +kernel
theorem dX6_logs_75 : decode cX6_logs 75 = .ok (.iload 4, 2) := by decide +kernel
theorem dX6_logs_77 : decode cX6_logs 77 = .ok (.iload_n 1, 1) := by decide +kernel
theorem dX6_logs_78 : decode cX6_logs 78 = .ok (.iastore, 1) := by decide +kernel
theorem dX6_logs_79 : decode cX6_logs 79 = .ok (.aload_n 0, 1) := by decide +kernel
theorem dX6_logs_80 : decode cX6_logs 80 = .ok (.getfield 7, 3) := by decide +kernel
theorem dX6_logs_83 : decode cX6_logs 83 = .ok (.iload 4, 2) := by decide +kernel
theorem dX6_logs_85 : decode cX6_logs 85 = .ok (.iconst 1, 1) := by decide +kernel
theorem dX6_logs_86 : decode cX6_logs 86 = .ok (.iadd, 1) := by decide +kernel
theorem dX6_logs_87 : decode cX6_logs 87 = .ok (.iload_n 2, 1) := by decide +kernel
theorem dX6_logs_88 : decode cX6_logs 88 = .ok (.iastore, 1) := by decide +kernel
theorem dX6_logs_89 : decode cX6_logs 89 = .ok (.aload_n 0, 1) := by decide +kernel
theorem dX6_logs_90 : decode cX6_logs 90 = .ok (.getfield 7, 3) := by decide +kernel
theorem dX6_logs_93 : decode cX6_logs 93 = .ok (.iload 4, 2) := by decide +kernel
theorem dX6_logs_95 : decode cX6_logs 95 = .ok (.iconst 2, 1) := by decide +kernel
theorem dX6_logs_96 : decode cX6_logs 96 = .ok (.iadd, 1) := by decide +kernel
theorem dX6_logs_97 : decode cX6_logs 97 = .ok (.aload_n 0, 1) := by decide +kernel
theorem dX6_logs_98 : decode cX6_logs 98 = .ok (.getfield 7, 3) := by decide +kernel
theorem dX6_logs_101 : decode cX6_logs 101 = .ok (.iconst 3, 1) := by decide +kernel
theorem dX6_logs_102 : decode cX6_logs 102 = .ok (.iaload, 1) := by decide +kernel
theorem dX6_logs_103 : decode cX6_logs 103 = .ok (.iastore, 1) := by decide +kernel
theorem dX6_logs_104 : decode cX6_logs 104 = .ok (.aload_n 0, 1) := by decide +kernel
theorem dX6_logs_105 : decode cX6_logs 105 = .ok (.getfield 7, 3) := by decide +kernel
theorem dX6_logs_108 : decode cX6_logs 108 = .ok (.iload 4, 2) := by decide +kernel
theorem dX6_logs_110 : decode cX6_logs 110 = .ok (.iconst 3, 1) := by decide +kernel
theorem dX6_logs_111 : decode cX6_logs 111 = .ok (.iadd, 1) := by decide +kernel
theorem dX6_logs_112 : decode cX6_logs 112 = .ok (.iload_n 3, 1) := by decide +kernel
theorem dX6_logs_113 : decode cX6_logs 113 = .ok (.iastore, 1) := by decide +kernel
theorem dX6_logs_114 : decode cX6_logs 114 = .ok (.aload_n 0, 1) := by decide +kernel
theorem dX6_logs_115 : decode cX6_logs 115 = .ok (.getfield 7, 3) := by decide +kernel
theorem dX6_logs_118 : decode cX6_logs 118 = .ok (.bipush 118, 2) := by decide +kernel
theorem dX6_logs_120 : decode cX6_logs 120 = .ok (.dup2, 1) := by decide +kernel
theorem dX6_logs_121 : decode cX6_logs 121 = .ok (.iaload, 1) := by decide +kernel
theorem dX6_logs_122 : decode cX6_logs 122 = .ok (.iconst 1, 1) := by decide +kernel
theorem dX6_logs_123 : decode cX6_logs 123 = .ok (.iadd, 1) := by decide +kernel
theorem dX6_logs_124 : decode cX6_logs 124 = .ok (.iastore, 1) := by decide +kernel
theorem dX6_logs_125 : decode cX6_logs 125 = .ok (.return_, 1) := by decide +kernel
theorem dX6_lose_0 : decode cX6_lose 0 = .ok (.iconst 0, 1) := by decide +kernel
theorem dX6_lose_1 : decode cX6_lose 1 = .ok (.istore_n 1, 1) := by decide +kernel
theorem dX6_lose_2 : decode cX6_lose 2 = .ok (.iconst 0, 1) := by decide +kernel
theorem dX6_lose_3 : decode cX6_lose 3 = .ok (.istore_n 2, 1) := by decide +kernel
theorem dX6_lose_4 : decode cX6_lose 4 = .ok (.iload_n 2, 1) := by decide +kernel
theorem dX6_lose_5 : decode cX6_lose 5 = .ok (.iconst 4, 1) := by decide +kernel
theorem dX6_lose_6 : decode cX6_lose 6 = .ok (.if_icmp .ge 61, 3) := by decide +kernel
theorem dX6_lose_9 : decode cX6_lose 9 = .ok (.aload_n 0, 1) := by decide +kernel
theorem dX6_lose_10 : decode cX6_lose 10 = .ok (.iload_n 2, 1) := by decide +kernel
theorem dX6_lose_11 : decode cX6_lose 11 = .ok (.invokevirtual 47, 3) := by decide +kernel
theorem dX6_lose_14 : decode cX6_lose 14 = .ok (.ifCond .eq 47, 3) := by decide +kernel
theorem dX6_lose_17 : decode cX6_lose 17 = .ok (.aload_n 0, 1) := by decide +kernel
theorem dX6_lose_18 : decode cX6_lose 18 = .ok (.iload_n 2, 1) := by decide +kernel
theorem dX6_lose_19 : decode cX6_lose 19 = .ok (.aload_n 0, 1) := by decide +kernel
theorem dX6_lose_20 : decode cX6_lose 20 = .ok (.getfield 7, 3) := by decide +kernel
theorem dX6_lose_23 : decode cX6_lose 23 = .ok (.bipush 115, 2) := by decide +kernel
theorem dX6_lose_25 : decode cX6_lose 25 = .ok (.iaload, 1) := by decide +kernel
theorem dX6_lose_26 : decode cX6_lose 26 = .ok (.invokevirtual 51, 3) := by decide +kernel
theorem dX6_lose_29 : decode cX6_lose 29 = .ok (.iconst 1, 1) := by decide +kernel
theorem dX6_lose_30 : decode cX6_lose 30 = .ok (.if_icmp .ne 31, 3) := by decide +kernel
theorem dX6_lose_33 : decode cX6_lose 33 = .ok (.aload_n 0, 1) := by decide +kernel
theorem dX6_lose_34 : decode cX6_lose 34 = .ok (.getfield 7, 3) := by decide +kernel
theorem dX6_lose_37 : decode cX6_lose 37 = .ok (.iload_n 2, 1) := by decide +kernel
theorem dX6_lose_38 : decode cX6_lose 38 = .ok (.iconst 1, 1) := by decide +kernel
theorem dX6_lose_39 : decode cX6_lose 39 = .ok (.invokestatic 33, 3) := by decide +kernel
theorem dX6_lose_42 : decode cX6_lose 42 = .ok (.iconst 0, 1) := by decide +kernel
theorem dX6_lose_43 : decode cX6_lose 43 = .ok (.iastore, 1) := by decide +kernel
theorem dX6_lose_44 : decode cX6_lose 44 = .ok (.aload_n 0, 1) := by decide +kernel
theorem dX6_lose_45 : decode cX6_lose 45 = .ok (.getfield 7, 3) := by decide +kernel
theorem dX6_lose_48 : decode cX6_lose 48 = .ok (.iload_n 2, 1) := by decide +kernel
theorem dX6_lose_49 : decode cX6_lose 49 = .ok (.iconst 3, 1) := by decide +kernel
theorem dX6_lose_50 : decode cX6_lose 50 = .ok (.invokestatic 33, 3) := by decide +kernel
theorem dX6_lose_53 : decode cX6_lose 53 = .ok (.dup2, 1) := by decide +kernel
theorem dX6_lose_54 : decode cX6_lose 54 = .ok (.iaload, 1) := by decide +kernel
theorem dX6_lose_55 : decode cX6_lose 55 = .ok (.iconst 1, 1) := by decide +kernel
theorem dX6_lose_56 : decode cX6_lose 56 = .ok (.iadd, 1) := by decide +kernel
theorem dX6_lose_57 : decode cX6_lose 57 = .ok (.iastore, 1) := by decide +kernel
theorem dX6_lose_58 : decode cX6_lose 58 = .ok (.iinc 1 1, 3) := by decide +kernel
theorem dX6_lose_61 : decode cX6_lose 61 = .ok (.iinc 2 1, 3) := by decide +kernel
theorem dX6_lose_64 : decode cX6_lose 64 = .ok (.goto (-60), 3) := by decide +kernel
theorem dX6_lose_67 : decode cX6_lose 67 = .ok (.iload_n 1, 1) := by decide +kernel
theorem dX6_lose_68 : decode cX6_lose 68 = .ok (.ireturn, 1) := by decide +kernel
theorem dX6_endsIfEmpty_0 : decode cX6_endsIfEmpty 0 = .ok (.aload_n 0, 1) := by decide +kernel
theorem dX6_endsIfEmpty_1 : decode cX6_endsIfEmpty 1 = .ok (.invokevirtual 54, 3) := by decide +kernel
theorem dX6_endsIfEmpty_4 : decode cX6_endsIfEmpty 4 = .ok (.ifCond .ne 27, 3) := by decide +kernel
theorem dX6_endsIfEmpty_7 : decode cX6_endsIfEmpty 7 = .ok (.aload_n 0, 1) := by decide +kernel
theorem dX6_endsIfEmpty_8 : decode cX6_endsIfEmpty 8 = .ok (.getfield 7, 3) := by decide +kernel
theorem dX6_endsIfEmpty_11 : decode cX6_endsIfEmpty 11 = .ok (.bipush 115, 2) := by decide +kernel
theorem dX6_endsIfEmpty_13 : decode cX6_endsIfEmpty 13 = .ok (.iconst 0, 1) := by decide +kernel
theorem dX6_endsIfEmpty_14 : decode cX6_endsIfEmpty 14 = .ok (.iastore, 1) := by decide +kernel
theorem dX6_endsIfEmpty_15 : decode cX6_endsIfEmpty 15 = .ok (.aload_n 0, 1) := by decide +kernel
theorem dX6_endsIfEmpty_16 : decode cX6_endsIfEmpty 16 = .ok (.getfield 7, 3) := by decide +kernel
theorem dX6_endsIfEmpty_19 : decode cX6_endsIfEmpty 19 = .ok (.bipush 112, 2) := by decide +kernel
theorem dX6_endsIfEmpty_21 : decode cX6_endsIfEmpty 21 = .ok (.iconst 0, 1) := by decide +kernel
theorem dX6_endsIfEmpty_22 : decode cX6_endsIfEmpty 22 = .ok (.iastore, 1) := by decide +kernel
theorem dX6_endsIfEmpty_23 : decode cX6_endsIfEmpty 23 = .ok (.aload_n 0, 1) := by decide +kernel
theorem dX6_endsIfEmpty_24 : decode cX6_endsIfEmpty 24 = .ok (.getfield 7, 3) := by decide +kernel
theorem dX6_endsIfEmpty_27 : decode cX6_endsIfEmpty 27 = .ok (.bipush 113, 2) := by decide +kernel
theorem dX6_endsIfEmpty_29 : decode cX6_endsIfEmpty 29 = .ok (.iconst 0, 1) := by decide +kernel
theorem dX6_endsIfEmpty_30 : decode cX6_endsIfEmpty 30 = .ok (.iastore, 1) := by decide +kernel
theorem dX6_endsIfEmpty_31 : decode cX6_endsIfEmpty 31 = .ok (.return_, 1) := by decide +kernel
theorem dX6_stuck_0 : decode cX6_stuck 0 = .ok (.iconst 0, 1) := by decide +kernel
theorem dX6_stuck_1 : decode cX6_stuck 1 = .ok (.istore_n 1, 1) := by decide +kernel
theorem dX6_stuck_2 : decode cX6_stuck 2 = .ok (.iconst 0, 1) := by decide +kernel
theorem dX6_stuck_3 : decode cX6_stuck 3 = .ok (.istore_n 2, 1) := by decide +kernel
theorem dX6_stuck_4 : decode cX6_stuck 4 = .ok (.iload_n 2, 1) := by decide +kernel
theorem dX6_stuck_5 : decode cX6_stuck 5 = .ok (.iconst 4, 1) := by decide +kernel
theorem dX6_stuck_6 : decode cX6_stuck 6 = .ok (.if_icmp .ge 30, 3) := by decide +kernel
theorem dX6_stuck_9 : decode cX6_stuck 9 = .ok (.iload_n 1, 1) := by decide +kernel
theorem dX6_stuck_10 : decode cX6_stuck 10 = .ok (.aload_n 0, 1) := by decide +kernel
theorem dX6_stuck_11 : decode cX6_stuck 11 = .ok (.getfield 7, 3) := by decide +kernel
theorem dX6_stuck_14 : decode cX6_stuck 14 = .ok (.iload_n 2, 1) := by decide +kernel
theorem dX6_stuck_15 : decode cX6_stuck 15 = .ok (.iconst 2, 1) := by decide +kernel
theorem dX6_stuck_16 : decode cX6_stuck 16 = .ok (.invokestatic 29, 3) := by decide +kernel
theorem dX6_stuck_19 : decode cX6_stuck 19 = .ok (.iaload, 1) := by decide +kernel
theorem dX6_stuck_20 : decode cX6_stuck 20 = .ok (.ifCond .le 7, 3) := by decide +kernel
theorem dX6_stuck_23 : decode cX6_stuck 23 = .ok (.iconst 1, 1) := by decide +kernel
theorem dX6_stuck_24 : decode cX6_stuck 24 = .ok (.goto 4, 3) := by decide +kernel
theorem dX6_stuck_27 : decode cX6_stuck 27 = .ok (.iconst 0, 1) := by decide +kernel
theorem dX6_stuck_28 : decode cX6_stuck 28 = .ok (.iadd, 1) := by decide +kernel
theorem dX6_stuck_29 : decode cX6_stuck 29 = .ok (.istore_n 1, 1) := by decide +kernel
theorem dX6_stuck_30 : decode cX6_stuck 30 = .ok (.iinc 2 1, 3) := by decide +kernel
theorem dX6_stuck_33 : decode cX6_stuck 33 = .ok (.goto (-29), 3) := by decide +kernel
theorem dX6_stuck_36 : decode cX6_stuck 36 = .ok (.iload_n 1, 1) := by decide +kernel
theorem dX6_stuck_37 : decode cX6_stuck 37 = .ok (.ireturn, 1) := by decide +kernel
theorem dX6_tickStuck_0 : decode cX6_tickStuck 0 = .ok (.aload_n 0, 1) := by decide +kernel
theorem dX6_tickStuck_1 : decode cX6_tickStuck 1 = .ok (.invokevirtual 54, 3) := by decide +kernel
theorem dX6_tickStuck_4 : decode cX6_tickStuck 4 = .ok (.ifCond .ne 14, 3) := by decide +kernel
theorem dX6_tickStuck_7 : decode cX6_tickStuck 7 = .ok (.aload_n 0, 1) := by decide +kernel
theorem dX6_tickStuck_8 : decode cX6_tickStuck 8 = .ok (.getfield 7, 3) := by decide +kernel
theorem dX6_tickStuck_11 : decode cX6_tickStuck 11 = .ok (.bipush 113, 2) := by decide +kernel
theorem dX6_tickStuck_13 : decode cX6_tickStuck 13 = .ok (.iconst 0, 1) := by decide +kernel
theorem dX6_tickStuck_14 : decode cX6_tickStuck 14 = .ok (.iastore, 1) := by decide +kernel
theorem dX6_tickStuck_15 : decode cX6_tickStuck 15 = .ok (.goto 35, 3) := by decide +kernel
theorem dX6_tickStuck_18 : decode cX6_tickStuck 18 = .ok (.aload_n 0, 1) := by decide +kernel
theorem dX6_tickStuck_19 : decode cX6_tickStuck 19 = .ok (.getfield 7, 3) := by decide +kernel
theorem dX6_tickStuck_22 : decode cX6_tickStuck 22 = .ok (.bipush 112, 2) := by decide +kernel
theorem dX6_tickStuck_24 : decode cX6_tickStuck 24 = .ok (.iaload, 1) := by decide +kernel
theorem dX6_tickStuck_25 : decode cX6_tickStuck 25 = .ok (.ifCond .ne 25, 3) := by decide +kernel
theorem dX6_tickStuck_28 : decode cX6_tickStuck 28 = .ok (.aload_n 0, 1) := by decide +kernel
theorem dX6_tickStuck_29 : decode cX6_tickStuck 29 = .ok (.getfield 7, 3) := by decide +kernel
theorem dX6_tickStuck_32 : decode cX6_tickStuck 32 = .ok (.bipush 115, 2) := by decide +kernel
theorem dX6_tickStuck_34 : decode cX6_tickStuck 34 = .ok (.iaload, 1) := by decide +kernel
theorem dX6_tickStuck_35 : decode cX6_tickStuck 35 = .ok (.invokestatic 58, 3) := by decide +kernel
theorem dX6_tickStuck_38 : decode cX6_tickStuck 38 = .ok (.ifCond .ne 12, 3) := by decide +kernel
theorem dX6_tickStuck_41 : decode cX6_tickStuck 41 = .ok (.aload_n 0, 1) := by decide +kernel
theorem dX6_tickStuck_42 : decode cX6_tickStuck 42 = .ok (.invokevirtual 61, 3) := by decide +kernel
theorem dX6_tickStuck_45 : decode cX6_tickStuck 45 = .ok (.istore_n 1, 1) := by decide +kernel
theorem dX6_tickStuck_46 : decode cX6_tickStuck 46 = .ok (.aload_n 0, 1) := by decide +kernel
theorem dX6_tickStuck_47 : decode cX6_tickStuck 47 = .ok (.invokevirtual 64, 3) := by decide +kernel
theorem dX6_tickStuck_50 : decode cX6_tickStuck 50 = .ok (.aload_n 0, 1) := by decide +kernel
theorem dX6_tickStuck_51 : decode cX6_tickStuck 51 = .ok (.getfield 7, 3) := by decide +kernel
theorem dX6_tickStuck_54 : decode cX6_tickStuck 54 = .ok (.bipush 114, 2) := by decide +kernel
theorem dX6_tickStuck_56 : decode cX6_tickStuck 56 = .ok (.dup2, 1) := by decide +kernel
theorem dX6_tickStuck_57 : decode cX6_tickStuck 57 = .ok (.iaload, 1) := by decide +kernel
theorem dX6_tickStuck_58 : decode cX6_tickStuck 58 = .ok (.iconst 1, 1) := by decide +kernel
theorem dX6_tickStuck_59 : decode cX6_tickStuck 59 = .ok (.iadd, 1) := by decide +kernel
theorem dX6_tickStuck_60 : decode cX6_tickStuck 60 = .ok (.iastore, 1) := by decide +kernel
theorem dX6_tickStuck_61 : decode cX6_tickStuck 61 = .ok (.aload_n 0, 1) := by decide +kernel
theorem dX6_tickStuck_62 : decode cX6_tickStuck 62 = .ok (.getfield 7, 3) := by decide +kernel
theorem dX6_tickStuck_65 : decode cX6_tickStuck 65 = .ok (.bipush 114, 2) := by decide +kernel
theorem dX6_tickStuck_67 : decode cX6_tickStuck 67 = .ok (.iaload, 1) := by decide +kernel
theorem dX6_tickStuck_68 : decode cX6_tickStuck 68 = .ok (.aload_n 0, 1) := by decide +kernel
theorem dX6_tickStuck_69 : decode cX6_tickStuck 69 = .ok (.getfield 7, 3) := by decide +kernel
theorem dX6_tickStuck_72 : decode cX6_tickStuck 72 = .ok (.iconst 2, 1) := by decide +kernel
theorem dX6_tickStuck_73 : decode cX6_tickStuck 73 = .ok (.iaload, 1) := by decide +kernel
theorem dX6_tickStuck_74 : decode cX6_tickStuck 74 = .ok (.if_icmp .lt 7, 3) := by decide +kernel
theorem dX6_tickStuck_77 : decode cX6_tickStuck 77 = .ok (.iconst 1, 1) := by decide +kernel
theorem dX6_tickStuck_78 : decode cX6_tickStuck 78 = .ok (.goto 4, 3) := by decide +kernel
theorem dX6_tickStuck_81 : decode cX6_tickStuck 81 = .ok (.iconst 0, 1) := by decide +kernel
theorem dX6_tickStuck_82 : decode cX6_tickStuck 82 = .ok (.istore_n 1, 1) := by decide +kernel
theorem dX6_tickStuck_83 : decode cX6_tickStuck 83 = .ok (.iconst 0, 1) := by decide +kernel
theorem dX6_tickStuck_84 : decode cX6_tickStuck 84 = .ok (.istore_n 2, 1) := by decide +kernel
theorem dX6_tickStuck_85 : decode cX6_tickStuck 85 = .ok (.iload_n 2, 1) := by decide +kernel
theorem dX6_tickStuck_86 : decode cX6_tickStuck 86 = .ok (.iconst 4, 1) := by decide +kernel
theorem dX6_tickStuck_87 : decode cX6_tickStuck 87 = .ok (.if_icmp .ge 45, 3) := by decide +kernel
theorem dX6_tickStuck_90 : decode cX6_tickStuck 90 = .ok (.aload_n 0, 1) := by decide +kernel
theorem dX6_tickStuck_91 : decode cX6_tickStuck 91 = .ok (.getfield 7, 3) := by decide +kernel
theorem dX6_tickStuck_94 : decode cX6_tickStuck 94 = .ok (.iload_n 2, 1) := by decide +kernel
theorem dX6_tickStuck_95 : decode cX6_tickStuck 95 = .ok (.iconst 2, 1) := by decide +kernel
theorem dX6_tickStuck_96 : decode cX6_tickStuck 96 = .ok (.invokestatic 29, 3) := by decide +kernel
theorem dX6_tickStuck_99 : decode cX6_tickStuck 99 = .ok (.iaload, 1) := by decide +kernel
theorem dX6_tickStuck_100 : decode cX6_tickStuck 100 = .ok (.istore_n 3, 1) := by decide +kernel
theorem dX6_tickStuck_101 : decode cX6_tickStuck 101 = .ok (.aload_n 0, 1) := by decide +kernel
theorem dX6_tickStuck_102 : decode cX6_tickStuck 102 = .ok (.getfield 7, 3) := by decide +kernel
theorem dX6_tickStuck_105 : decode cX6_tickStuck 105 = .ok (.iload_n 2, 1) := by decide +kernel
theorem dX6_tickStuck_106 : decode cX6_tickStuck 106 = .ok (.iconst 2, 1) := by decide +kernel
theorem dX6_tickStuck_107 : decode cX6_tickStuck 107 = .ok (.invokestatic 29, 3) := by decide +kernel
theorem dX6_tickStuck_110 : decode cX6_tickStuck 110 = .ok (.iload_n 1, 1) := by decide +kernel
theorem dX6_tickStuck_111 : decode cX6_tickStuck 111 = .ok (.ifCond .ne 7, 3) := by decide +kernel
theorem dX6_tickStuck_114 : decode cX6_tickStuck 114 = .ok (.iload_n 3, 1) := by decide +kernel
theorem dX6_tickStuck_115 : decode cX6_tickStuck 115 = .ok (.ifCond .ne 7, 3) := by decide +kernel
theorem dX6_tickStuck_118 : decode cX6_tickStuck 118 = .ok (.iconst 0, 1) := by decide +kernel
theorem dX6_tickStuck_119 : decode cX6_tickStuck 119 = .ok (.goto 6, 3) := by decide +kernel
theorem dX6_tickStuck_122 : decode cX6_tickStuck 122 = .ok (.iload_n 3, 1) := by decide +kernel
theorem dX6_tickStuck_123 : decode cX6_tickStuck 123 = .ok (.iconst 1, 1) := by decide +kernel
theorem dX6_tickStuck_124 : decode cX6_tickStuck 124 = .ok (.isub, 1) := by decide +kernel
theorem dX6_tickStuck_125 : decode cX6_tickStuck 125 = .ok (.iastore, 1) := by decide +kernel
theorem dX6_tickStuck_126 : decode cX6_tickStuck 126 = .ok (.iinc 2 1, 3) := by decide +kernel
theorem dX6_tickStuck_129 : decode cX6_tickStuck 129 = .ok (.goto (-44), 3) := by decide +kernel
theorem dX6_tickStuck_132 : decode cX6_tickStuck 132 = .ok (.aload_n 0, 1) := by decide +kernel
theorem dX6_tickStuck_133 : decode cX6_tickStuck 133 = .ok (.getfield 7, 3) := by decide +kernel
theorem dX6_tickStuck_136 : decode cX6_tickStuck 136 = .ok (.bipush 117, 2) := by decide +kernel
theorem dX6_tickStuck_138 : decode cX6_tickStuck 138 = .ok (.dup2, 1) := by decide +kernel
theorem dX6_tickStuck_139 : decode cX6_tickStuck 139 = .ok (.iaload, 1) := by decide +kernel
theorem dX6_tickStuck_140 : decode cX6_tickStuck 140 = .ok (.iload_n 1, 1) := by decide +kernel
theorem dX6_tickStuck_141 : decode cX6_tickStuck 141 = .ok (.ifCond .eq 7, 3) := by decide +kernel
theorem dX6_tickStuck_144 : decode cX6_tickStuck 144 = .ok (.iconst 1, 1) := by decide +kernel
theorem dX6_tickStuck_145 : decode cX6_tickStuck 145 = .ok (.goto 4, 3) := by decide +kernel
theorem dX6_tickStuck_148 : decode cX6_tickStuck 148 = .ok (.iconst 0, 1) := by decide +kernel
theorem dX6_tickStuck_149 : decode cX6_tickStuck 149 = .ok (.iadd, 1) := by decide +kernel
theorem dX6_tickStuck_150 : decode cX6_tickStuck 150 = .ok (.iastore, 1) := by decide +kernel
theorem dX6_tickStuck_151 : decode cX6_tickStuck 151 = .ok (.aload_n 0, 1) := by decide +kernel
theorem dX6_tickStuck_152 : decode cX6_tickStuck 152 = .ok (.getfield 7, 3) := by decide +kernel
theorem dX6_tickStuck_155 : decode cX6_tickStuck 155 = .ok (.bipush 114, 2) := by decide +kernel
theorem dX6_tickStuck_157 : decode cX6_tickStuck 157 = .ok (.iload_n 1, 1) := by decide +kernel
theorem dX6_tickStuck_158 : decode cX6_tickStuck 158 = .ok (.ifCond .eq 7, 3) := by decide +kernel
theorem dX6_tickStuck_161 : decode cX6_tickStuck 161 = .ok (.iconst 0, 1) := by decide +kernel
theorem dX6_tickStuck_162 : decode cX6_tickStuck 162 = .ok (.goto 10, 3) := by decide +kernel
theorem dX6_tickStuck_165 : decode cX6_tickStuck 165 = .ok (.aload_n 0, 1) := by decide +kernel
theorem dX6_tickStuck_166 : decode cX6_tickStuck 166 = .ok (.getfield 7, 3) := by decide +kernel
theorem dX6_tickStuck_169 : decode cX6_tickStuck 169 = .ok (.bipush 114, 2) := by decide +kernel
theorem dX6_tickStuck_171 : decode cX6_tickStuck 171 = .ok (.iaload, 1) := by decide +kernel
theorem dX6_tickStuck_172 : decode cX6_tickStuck 172 = .ok (.iastore, 1) := by decide +kernel
theorem dX6_tickStuck_173 : decode cX6_tickStuck 173 = .ok (.return_, 1) := by decide +kernel
theorem dX6_tickBit_0 : decode cX6_tickBit 0 = .ok (.iconst 1, 1) := by decide +kernel
theorem dX6_tickBit_1 : decode cX6_tickBit 1 = .ok (.istore_n 1, 1) := by decide +kernel
theorem dX6_tickBit_2 : decode cX6_tickBit 2 = .ok (.iconst 0, 1) := by decide +kernel
theorem dX6_tickBit_3 : decode cX6_tickBit 3 = .ok (.istore_n 2, 1) := by decide +kernel
theorem dX6_tickBit_4 : decode cX6_tickBit 4 = .ok (.iload_n 2, 1) := by decide +kernel
theorem dX6_tickBit_5 : decode cX6_tickBit 5 = .ok (.iconst 4, 1) := by decide +kernel
theorem dX6_tickBit_6 : decode cX6_tickBit 6 = .ok (.if_icmp .ge 38, 3) := by decide +kernel
theorem dX6_tickBit_9 : decode cX6_tickBit 9 = .ok (.aload_n 0, 1) := by decide +kernel
theorem dX6_tickBit_10 : decode cX6_tickBit 10 = .ok (.iload_n 2, 1) := by decide +kernel
theorem dX6_tickBit_11 : decode cX6_tickBit 11 = .ok (.invokevirtual 47, 3) := by decide +kernel
theorem dX6_tickBit_14 : decode cX6_tickBit 14 = .ok (.ifCond .eq 22, 3) := by decide +kernel
theorem dX6_tickBit_17 : decode cX6_tickBit 17 = .ok (.aload_n 0, 1) := by decide +kernel
theorem dX6_tickBit_18 : decode cX6_tickBit 18 = .ok (.iload_n 2, 1) := by decide +kernel
theorem dX6_tickBit_19 : decode cX6_tickBit 19 = .ok (.aload_n 0, 1) := by decide +kernel
theorem dX6_tickBit_20 : decode cX6_tickBit 20 = .ok (.getfield 7, 3) := by decide +kernel
theorem dX6_tickBit_23 : decode cX6_tickBit 23 = .ok (.bipush 115, 2) := by decide +kernel
theorem dX6_tickBit_25 : decode cX6_tickBit 25 = .ok (.iaload, 1) := by decide +kernel
theorem dX6_tickBit_26 : decode cX6_tickBit 26 = .ok (.invokevirtual 51, 3) := by decide +kernel
theorem dX6_tickBit_29 : decode cX6_tickBit 29 = .ok (.ifCond .ne 7, 3) := by decide +kernel
theorem dX6_tickBit_32 : decode cX6_tickBit 32 = .ok (.iconst 0, 1) := by decide +kernel
theorem dX6_tickBit_33 : decode cX6_tickBit 33 = .ok (.goto 4, 3) := by decide +kernel
theorem dX6_tickBit_36 : decode cX6_tickBit 36 = .ok (.iload_n 1, 1) := by decide +kernel
theorem dX6_tickBit_37 : decode cX6_tickBit 37 = .ok (.istore_n 1, 1) := by decide +kernel
theorem dX6_tickBit_38 : decode cX6_tickBit 38 = .ok (.iinc 2 1, 3) := by decide +kernel
theorem dX6_tickBit_41 : decode cX6_tickBit 41 = .ok (.goto (-37), 3) := by decide +kernel
theorem dX6_tickBit_44 : decode cX6_tickBit 44 = .ok (.iload_n 1, 1) := by decide +kernel
theorem dX6_tickBit_45 : decode cX6_tickBit 45 = .ok (.ifCond .ne 10, 3) := by decide +kernel
theorem dX6_tickBit_48 : decode cX6_tickBit 48 = .ok (.aload_n 0, 1) := by decide +kernel
theorem dX6_tickBit_49 : decode cX6_tickBit 49 = .ok (.invokevirtual 61, 3) := by decide +kernel
theorem dX6_tickBit_52 : decode cX6_tickBit 52 = .ok (.goto 4, 3) := by decide +kernel
theorem dX6_tickBit_55 : decode cX6_tickBit 55 = .ok (.iconst 0, 1) := by decide +kernel
theorem dX6_tickBit_56 : decode cX6_tickBit 56 = .ok (.istore_n 2, 1) := by decide +kernel
theorem dX6_tickBit_57 : decode cX6_tickBit 57 = .ok (.aload_n 0, 1) := by decide +kernel
theorem dX6_tickBit_58 : decode cX6_tickBit 58 = .ok (.iload_n 1, 1) := by decide +kernel
theorem dX6_tickBit_59 : decode cX6_tickBit 59 = .ok (.iconst 0, 1) := by decide +kernel
theorem dX6_tickBit_60 : decode cX6_tickBit 60 = .ok (.iload_n 2, 1) := by decide +kernel
theorem dX6_tickBit_61 : decode cX6_tickBit 61 = .ok (.invokevirtual 67, 3) := by decide +kernel
theorem dX6_tickBit_64 : decode cX6_tickBit 64 = .ok (.aload_n 0, 1) := by decide +kernel
theorem dX6_tickBit_65 : decode cX6_tickBit 65 = .ok (.getfield 7, 3) := by decide +kernel
theorem dX6_tickBit_68 : decode cX6_tickBit 68 = .ok (.bipush 115, 2) := by decide +kernel
theorem dX6_tickBit_70 : decode cX6_tickBit 70 = .ok (.dup2, 1) := by decide +kernel
theorem dX6_tickBit_71 : decode cX6_tickBit 71 = .ok (.iaload, 1) := by decide +kernel
theorem dX6_tickBit_72 : decode cX6_tickBit 72 = .ok (.iconst 1, 1) := by decide +kernel
theorem dX6_tickBit_73 : decode cX6_tickBit 73 = .ok (.iadd, 1) := by decide +kernel
theorem dX6_tickBit_74 : decode cX6_tickBit 74 = .ok (.iastore, 1) := by decide +kernel
theorem dX6_tickBit_75 : decode cX6_tickBit 75 = .ok (.aload_n 0, 1) := by decide +kernel
theorem dX6_tickBit_76 : decode cX6_tickBit 76 = .ok (.getfield 7, 3) := by decide +kernel
theorem dX6_tickBit_79 : decode cX6_tickBit 79 = .ok (.bipush 115, 2) := by decide +kernel
theorem dX6_tickBit_81 : decode cX6_tickBit 81 = .ok (.iaload, 1) := by decide +kernel
theorem dX6_tickBit_82 : decode cX6_tickBit 82 = .ok (.invokestatic 58, 3) := by decide +kernel
theorem dX6_tickBit_85 : decode cX6_tickBit 85 = .ok (.ifCond .eq 45, 3) := by decide +kernel
theorem dX6_tickBit_88 : decode cX6_tickBit 88 = .ok (.aload_n 0, 1) := by decide +kernel
theorem dX6_tickBit_89 : decode cX6_tickBit 89 = .ok (.aload_n 0, 1) := by decide +kernel
theorem dX6_tickBit_90 : decode cX6_tickBit 90 = .ok (.aload_n 0, 1) := by decide +kernel
theorem dX6_tickBit_91 : decode cX6_tickBit 91 = .ok (.invokevirtual 71, 3) := by decide +kernel
theorem dX6_tickBit_94 : decode cX6_tickBit 94 = .ok (.iconst 0, 1) := by decide +kernel
theorem dX6_tickBit_95 : decode cX6_tickBit 95 = .ok (.iconst 0, 1) := by decide +kernel
theorem dX6_tickBit_96 : decode cX6_tickBit 96 = .ok (.invokevirtual 43, 3) := by decide +kernel
theorem dX6_tickBit_99 : decode cX6_tickBit 99 = .ok (.invokevirtual 74, 3) := by decide +kernel
theorem dX6_tickBit_102 : decode cX6_tickBit 102 = .ok (.istore_n 3, 1) := by decide +kernel
theorem dX6_tickBit_103 : decode cX6_tickBit 103 = .ok (.aload_n 0, 1) := by decide +kernel
theorem dX6_tickBit_104 : decode cX6_tickBit 104 = .ok (.getfield 7, 3) := by decide +kernel
theorem dX6_tickBit_107 : decode cX6_tickBit 107 = .ok (.bipush 112, 2) := by decide +kernel
theorem dX6_tickBit_109 : decode cX6_tickBit 109 = .ok (.iload_n 3, 1) := by decide +kernel
theorem dX6_tickBit_110 : decode cX6_tickBit 110 = .ok (.bipush (-5), 2) := by decide +kernel
theorem dX6_tickBit_112 : decode cX6_tickBit 112 = .ok (.if_icmp .ne 7, 3) := by decide +kernel
theorem dX6_tickBit_115 : decode cX6_tickBit 115 = .ok (.iconst 0, 1) := by decide +kernel
theorem dX6_tickBit_116 : decode cX6_tickBit 116 = .ok (.goto 13, 3) := by decide +kernel
theorem dX6_tickBit_119 : decode cX6_tickBit 119 = .ok (.aload_n 0, 1) := by decide +kernel
theorem dX6_tickBit_120 : decode cX6_tickBit 120 = .ok (.getfield 7, 3) := by decide +kernel
theorem dX6_tickBit_123 : decode cX6_tickBit 123 = .ok (.iload_n 3, 1) := by decide +kernel
theorem dX6_tickBit_124 : decode cX6_tickBit 124 = .ok (.iconst 1, 1) := by decide +kernel
theorem dX6_tickBit_125 : decode cX6_tickBit 125 = .ok (.invokestatic 29, 3) := by decide +kernel
theorem dX6_tickBit_128 : decode cX6_tickBit 128 = .ok (.iaload, 1) := by decide +kernel
theorem dX6_tickBit_129 : decode cX6_tickBit 129 = .ok (.iastore, 1) := by decide +kernel
theorem dX6_tickBit_130 : decode cX6_tickBit 130 = .ok (.return_, 1) := by decide +kernel
theorem dX6_tickAnswered_0 : decode cX6_tickAnswered 0 = .ok (.aload_n 0, 1) := by decide +kernel
theorem dX6_tickAnswered_1 : decode cX6_tickAnswered 1 = .ok (.getfield 7, 3) := by decide +kernel
theorem dX6_tickAnswered_4 : decode cX6_tickAnswered 4 = .ok (.bipush 115, 2) := by decide +kernel
theorem dX6_tickAnswered_6 : decode cX6_tickAnswered 6 = .ok (.iaload, 1) := by decide +kernel
theorem dX6_tickAnswered_7 : decode cX6_tickAnswered 7 = .ok (.bipush 9, 2) := by decide +kernel
theorem dX6_tickAnswered_9 : decode cX6_tickAnswered 9 = .ok (.idiv, 1) := by decide +kernel
theorem dX6_tickAnswered_10 : decode cX6_tickAnswered 10 = .ok (.istore_n 2, 1) := by decide +kernel
theorem dX6_tickAnswered_11 : decode cX6_tickAnswered 11 = .ok (.iload_n 2, 1) := by decide +kernel
theorem dX6_tickAnswered_12 : decode cX6_tickAnswered 12 = .ok (.ifCond .le 37, 3) := by decide +kernel
theorem dX6_tickAnswered_15 : decode cX6_tickAnswered 15 = .ok (.aload_n 0, 1) := by decide +kernel
theorem dX6_tickAnswered_16 : decode cX6_tickAnswered 16 = .ok (.getfield 7, 3) := by decide +kernel
theorem dX6_tickAnswered_19 : decode cX6_tickAnswered 19 = .ok (.iload_n 1, 1) := by decide +kernel
theorem dX6_tickAnswered_20 : decode cX6_tickAnswered 20 = .ok (.iconst 3, 1) := by decide +kernel
theorem dX6_tickAnswered_21 : decode cX6_tickAnswered 21 = .ok (.invokestatic 29, 3) := by decide +kernel
theorem dX6_tickAnswered_24 : decode cX6_tickAnswered 24 = .ok (.dup2, 1) := by decide +kernel
theorem dX6_tickAnswered_25 : decode cX6_tickAnswered 25 = .ok (.iaload, 1) := by decide +kernel
theorem dX6_tickAnswered_26 : decode cX6_tickAnswered 26 = .ok (.iconst 1, 1) := by decide +kernel
theorem dX6_tickAnswered_27 : decode cX6_tickAnswered 27 = .ok (.iadd, 1) := by decide +kernel
theorem dX6_tickAnswered_28 : decode cX6_tickAnswered 28 = .ok (.iastore, 1) := by decide +kernel
theorem dX6_tickAnswered_29 : decode cX6_tickAnswered 29 = .ok (.aload_n 0, 1) := by decide +kernel
theorem dX6_tickAnswered_30 : decode cX6_tickAnswered 30 = .ok (.getfield 7, 3) := by decide +kernel
theorem dX6_tickAnswered_33 : decode cX6_tickAnswered 33 = .ok (.iload_n 1, 1) := by decide +kernel
theorem dX6_tickAnswered_34 : decode cX6_tickAnswered 34 = .ok (.iconst 4, 1) := by decide +kernel
theorem dX6_tickAnswered_35 : decode cX6_tickAnswered 35 = .ok (.invokestatic 29, 3) := by decide +kernel
theorem dX6_tickAnswered_38 : decode cX6_tickAnswered 38 = .ok (.aload_n 0, 1) := by decide +kernel
theorem dX6_tickAnswered_39 : decode cX6_tickAnswered 39 = .ok (.aload_n 0, 1) := by decide +kernel
theorem dX6_tickAnswered_40 : decode cX6_tickAnswered 40 = .ok (.invokevirtual 71, 3) := by decide +kernel
theorem dX6_tickAnswered_43 : decode cX6_tickAnswered 43 = .ok (.iconst 0, 1) := by decide +kernel
theorem dX6_tickAnswered_44 : decode cX6_tickAnswered 44 = .ok (.iload_n 2, 1) := by decide +kernel
theorem dX6_tickAnswered_45 : decode cX6_tickAnswered 45 = .ok (.invokevirtual 43, 3) := by decide +kernel
theorem dX6_tickAnswered_48 : decode cX6_tickAnswered 48 = .ok (.iastore, 1) := by decide +kernel
theorem dX6_tickAnswered_49 : decode cX6_tickAnswered 49 = .ok (.aload_n 0, 1) := by decide +kernel
theorem dX6_tickAnswered_50 : decode cX6_tickAnswered 50 = .ok (.iconst 0, 1) := by decide +kernel
theorem dX6_tickAnswered_51 : decode cX6_tickAnswered 51 = .ok (.iconst 1, 1) := by decide +kernel
theorem dX6_tickAnswered_52 : decode cX6_tickAnswered 52 = .ok (.iconst 0, 1) := by decide +kernel
theorem dX6_tickAnswered_53 : decode cX6_tickAnswered 53 = .ok (.invokevirtual 67, 3) := by decide +kernel
theorem dX6_tickAnswered_56 : decode cX6_tickAnswered 56 = .ok (.aload_n 0, 1) := by decide +kernel
theorem dX6_tickAnswered_57 : decode cX6_tickAnswered 57 = .ok (.getfield 7, 3) := by decide +kernel
theorem dX6_tickAnswered_60 : decode cX6_tickAnswered 60 = .ok (.bipush 115, 2) := by decide +kernel
theorem dX6_tickAnswered_62 : decode cX6_tickAnswered 62 = .ok (.dup2, 1) := by decide +kernel
theorem dX6_tickAnswered_63 : decode cX6_tickAnswered 63 = .ok (.iaload, 1) := by decide +kernel
theorem dX6_tickAnswered_64 : decode cX6_tickAnswered 64 = .ok (.iconst 1, 1) := by decide +kernel
theorem dX6_tickAnswered_65 : decode cX6_tickAnswered 65 = .ok (.iadd, 1) := by decide +kernel
theorem dX6_tickAnswered_66 : decode cX6_tickAnswered 66 = .ok (.iastore, 1) := by decide +kernel
theorem dX6_tickAnswered_67 : decode cX6_tickAnswered 67 = .ok (.iconst 0, 1) := by decide +kernel
theorem dX6_tickAnswered_68 : decode cX6_tickAnswered 68 = .ok (.istore_n 3, 1) := by decide +kernel
theorem dX6_tickAnswered_69 : decode cX6_tickAnswered 69 = .ok (.iload_n 3, 1) := by decide +kernel
theorem dX6_tickAnswered_70 : decode cX6_tickAnswered 70 = .ok (.iconst 4, 1) := by decide +kernel
theorem dX6_tickAnswered_71 : decode cX6_tickAnswered 71 = .ok (.if_icmp .ge 67, 3) := by decide +kernel
theorem dX6_tickAnswered_74 : decode cX6_tickAnswered 74 = .ok (.aload_n 0, 1) := by decide +kernel
theorem dX6_tickAnswered_75 : decode cX6_tickAnswered 75 = .ok (.iload_n 3, 1) := by decide +kernel
theorem dX6_tickAnswered_76 : decode cX6_tickAnswered 76 = .ok (.invokevirtual 47, 3) := by decide +kernel
theorem dX6_tickAnswered_79 : decode cX6_tickAnswered 79 = .ok (.ifCond .eq 53, 3) := by decide +kernel
theorem dX6_tickAnswered_82 : decode cX6_tickAnswered 82 = .ok (.aload_n 0, 1) := by decide +kernel
theorem dX6_tickAnswered_83 : decode cX6_tickAnswered 83 = .ok (.getfield 7, 3) := by decide +kernel
theorem dX6_tickAnswered_86 : decode cX6_tickAnswered 86 = .ok (.bipush 115, 2) := by decide +kernel
theorem dX6_tickAnswered_88 : decode cX6_tickAnswered 88 = .ok (.iaload, 1) := by decide +kernel
theorem dX6_tickAnswered_89 : decode cX6_tickAnswered 89 = .ok (.aload_n 0, 1) := by decide +kernel
theorem dX6_tickAnswered_90 : decode cX6_tickAnswered 90 = .ok (.iload_n 3, 1) := by decide +kernel
theorem dX6_tickAnswered_91 : decode cX6_tickAnswered 91 = .ok (.iconst 0, 1) := by decide +kernel
theorem dX6_tickAnswered_92 : decode cX6_tickAnswered 92 = .ok (.iconst 2, 1) := by decide +kernel
theorem dX6_tickAnswered_93 : decode cX6_tickAnswered 93 = .ok (.invokevirtual 43, 3) := by decide +kernel
theorem dX6_tickAnswered_96 : decode cX6_tickAnswered 96 = .ok (.invokestatic 78, 3) := by decide +kernel
theorem dX6_tickAnswered_99 : decode cX6_tickAnswered 99 = .ok (.if_icmp .ne 33, 3) := by decide +kernel
theorem dX6_tickAnswered_102 : decode cX6_tickAnswered 102 = .ok (.aload_n 0, 1) := by decide +kernel
theorem dX6_tickAnswered_103 : decode cX6_tickAnswered 103 = .ok (.getfield 7, 3) := by decide +kernel
theorem dX6_tickAnswered_106 : decode cX6_tickAnswered 106 = .ok (.iload_n 3, 1) := by decide +kernel
theorem dX6_tickAnswered_107 : decode cX6_tickAnswered 107 = .ok (.iconst 1, 1) := by decide +kernel
theorem dX6_tickAnswered_108 : decode cX6_tickAnswered 108 = .ok (.invokestatic 33, 3) := by decide +kernel
theorem dX6_tickAnswered_111 : decode cX6_tickAnswered 111 = .ok (.iconst 0, 1) := by decide +kernel
theorem dX6_tickAnswered_112 : decode cX6_tickAnswered 112 = .ok (.iastore, 1) := by decide +kernel
theorem dX6_tickAnswered_113 : decode cX6_tickAnswered 113 = .ok (.aload_n 0, 1) := by decide +kernel
theorem dX6_tickAnswered_114 : decode cX6_tickAnswered 114 = .ok (.getfield 7, 3) := by decide +kernel
theorem dX6_tickAnswered_117 : decode cX6_tickAnswered 117 = .ok (.iload_n 3, 1) := by decide +kernel
theorem dX6_tickAnswered_118 : decode cX6_tickAnswered 118 = .ok (.iconst 2, 1) := by decide +kernel
theorem dX6_tickAnswered_119 : decode cX6_tickAnswered 119 = .ok (.invokestatic 33, 3) := by decide +kernel
theorem dX6_tickAnswered_122 : decode cX6_tickAnswered 122 = .ok (.dup2, 1) := by decide +kernel
theorem dX6_tickAnswered_123 : decode cX6_tickAnswered 123 = .ok (.iaload, 1) := by decide +kernel
theorem dX6_tickAnswered_124 : decode cX6_tickAnswered 124 = .ok (.iconst 1, 1) := by decide +kernel
theorem dX6_tickAnswered_125 : decode cX6_tickAnswered 125 = .ok (.iadd, 1) := by decide +kernel
theorem dX6_tickAnswered_126 : decode cX6_tickAnswered 126 = .ok (.iastore, 1) := by decide +kernel
theorem dX6_tickAnswered_127 : decode cX6_tickAnswered 127 = .ok (.aload_n 0, 1) := by decide +kernel
theorem dX6_tickAnswered_128 : decode cX6_tickAnswered 128 = .ok (.iload_n 3, 1) := by decide +kernel
theorem dX6_tickAnswered_129 : decode cX6_tickAnswered 129 = .ok (.invokevirtual 81, 3) := by decide +kernel
theorem dX6_tickAnswered_132 : decode cX6_tickAnswered 132 = .ok (.iinc 3 1, 3) := by decide +kernel
theorem dX6_tickAnswered_135 : decode cX6_tickAnswered 135 = .ok (.goto (-66), 3) := by decide +kernel
theorem dX6_tickAnswered_138 : decode cX6_tickAnswered 138 = .ok (.aload_n 0, 1) := by decide +kernel
theorem dX6_tickAnswered_139 : decode cX6_tickAnswered 139 = .ok (.invokevirtual 64, 3) := by decide +kernel
theorem dX6_tickAnswered_142 : decode cX6_tickAnswered 142 = .ok (.return_, 1) := by decide +kernel
theorem dX6_tickUnanswered_0 : decode cX6_tickUnanswered 0 = .ok (.aload_n 0, 1) := by decide +kernel
theorem dX6_tickUnanswered_1 : decode cX6_tickUnanswered 1 = .ok (.iconst 1, 1) := by decide +kernel
theorem dX6_tickUnanswered_2 : decode cX6_tickUnanswered 2 = .ok (.iconst 1, 1) := by decide +kernel
theorem dX6_tickUnanswered_3 : decode cX6_tickUnanswered 3 = .ok (.iconst 0, 1) := by decide +kernel
theorem dX6_tickUnanswered_4 : decode cX6_tickUnanswered 4 = .ok (.invokevirtual 67, 3) := by decide +kernel
