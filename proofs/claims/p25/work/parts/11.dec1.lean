theorem dX4_stuckTick_69 : decode cX4_stuckTick 69 = .ok (.iconst 0, 1) := by decide +kernel
theorem dX4_stuckTick_70 : decode cX4_stuckTick 70 = .ok (.istore_n 1, 1) := by decide +kernel
theorem dX4_stuckTick_71 : decode cX4_stuckTick 71 = .ok (.aload_n 0, 1) := by decide +kernel
theorem dX4_stuckTick_72 : decode cX4_stuckTick 72 = .ok (.getfield 19, 3) := by decide +kernel
theorem dX4_stuckTick_75 : decode cX4_stuckTick 75 = .ok (.astore_n 2, 1) := by decide +kernel
theorem dX4_stuckTick_76 : decode cX4_stuckTick 76 = .ok (.aload_n 2, 1) := by decide +kernel
theorem dX4_stuckTick_77 : decode cX4_stuckTick 77 = .ok (.arraylength, 1) := by decide +kernel
theorem dX4_stuckTick_78 : decode cX4_stuckTick 78 = .ok (.istore_n 3, 1) := by decide +kernel
theorem dX4_stuckTick_79 : decode cX4_stuckTick 79 = .ok (.iconst 0, 1) := by decide +kernel
theorem dX4_stuckTick_80 : decode cX4_stuckTick 80 = .ok (.istore 4, 2) := by decide +kernel
theorem dX4_stuckTick_82 : decode cX4_stuckTick 82 = .ok (.iload 4, 2) := by decide +kernel
theorem dX4_stuckTick_84 : decode cX4_stuckTick 84 = .ok (.iload_n 3, 1) := by decide +kernel
theorem dX4_stuckTick_85 : decode cX4_stuckTick 85 = .ok (.if_icmp .ge 39, 3) := by decide +kernel
theorem dX4_stuckTick_88 : decode cX4_stuckTick 88 = .ok (.aload_n 2, 1) := by decide +kernel
theorem dX4_stuckTick_89 : decode cX4_stuckTick 89 = .ok (.iload 4, 2) := by decide +kernel
theorem dX4_stuckTick_91 : decode cX4_stuckTick 91 = .ok (.aaload, 1) := by decide +kernel
theorem dX4_stuckTick_92 : decode cX4_stuckTick 92 = .ok (.astore 5, 2) := by decide +kernel
theorem dX4_stuckTick_94 : decode cX4_stuckTick 94 = .ok (.aload 5, 2) := by decide +kernel
theorem dX4_stuckTick_96 : decode cX4_stuckTick 96 = .ok (.iload_n 1, 1) := by decide +kernel
theorem dX4_stuckTick_97 : decode cX4_stuckTick 97 = .ok (.ifCond .eq 7, 3) := by decide +kernel
theorem dX4_stuckTick_100 : decode cX4_stuckTick 100 = .ok (.iconst 0, 1) := by decide +kernel
theorem dX4_stuckTick_101 : decode cX4_stuckTick 101 = .ok (.goto 14, 3) := by decide +kernel
theorem dX4_stuckTick_104 : decode cX4_stuckTick 104 = .ok (.aload 5, 2) := by decide +kernel
theorem dX4_stuckTick_106 : decode cX4_stuckTick 106 = .ok (.getfield 113, 3) := by decide +kernel
theorem dX4_stuckTick_109 : decode cX4_stuckTick 109 = .ok (.iconst 1, 1) := by decide +kernel
theorem dX4_stuckTick_110 : decode cX4_stuckTick 110 = .ok (.isub, 1) := by decide +kernel
theorem dX4_stuckTick_111 : decode cX4_stuckTick 111 = .ok (.iconst 0, 1) := by decide +kernel
theorem dX4_stuckTick_112 : decode cX4_stuckTick 112 = .ok (.invokestatic 166, 3) := by decide +kernel
theorem dX4_stuckTick_115 : decode cX4_stuckTick 115 = .ok (.putfield 113, 3) := by decide +kernel
theorem dX4_stuckTick_118 : decode cX4_stuckTick 118 = .ok (.iinc 4 1, 3) := by decide +kernel
theorem dX4_stuckTick_121 : decode cX4_stuckTick 121 = .ok (.goto (-39), 3) := by decide +kernel
theorem dX4_stuckTick_124 : decode cX4_stuckTick 124 = .ok (.iload_n 1, 1) := by decide +kernel
theorem dX4_stuckTick_125 : decode cX4_stuckTick 125 = .ok (.ifCond .eq 18, 3) := by decide +kernel
theorem dX4_stuckTick_128 : decode cX4_stuckTick 128 = .ok (.aload_n 0, 1) := by decide +kernel
theorem dX4_stuckTick_129 : decode cX4_stuckTick 129 = .ok (.iconst 0, 1) := by decide +kernel
theorem dX4_stuckTick_130 : decode cX4_stuckTick 130 = .ok (.putfield 65, 3) := by decide +kernel
theorem dX4_stuckTick_133 : decode cX4_stuckTick 133 = .ok (.aload_n 0, 1) := by decide +kernel
theorem dX4_stuckTick_134 : decode cX4_stuckTick 134 = .ok (.dup, 1) := by decide +kernel
theorem dX4_stuckTick_135 : decode cX4_stuckTick 135 = .ok (.getfield 71, 3) := by decide +kernel
theorem dX4_stuckTick_138 : decode cX4_stuckTick 138 = .ok (.iconst 1, 1) := by decide +kernel
theorem dX4_stuckTick_139 : decode cX4_stuckTick 139 = .ok (.iadd, 1) := by decide +kernel
theorem dX4_stuckTick_140 : decode cX4_stuckTick 140 = .ok (.putfield 71, 3) := by decide +kernel
theorem dX4_stuckTick_143 : decode cX4_stuckTick 143 = .ok (.return_, 1) := by decide +kernel
theorem dX4_sendBit_0 : decode cX4_sendBit 0 = .ok (.aload_n 0, 1) := by decide +kernel
theorem dX4_sendBit_1 : decode cX4_sendBit 1 = .ok (.invokevirtual 129, 3) := by decide +kernel
theorem dX4_sendBit_4 : decode cX4_sendBit 4 = .ok (.istore_n 1, 1) := by decide +kernel
theorem dX4_sendBit_5 : decode cX4_sendBit 5 = .ok (.aload_n 0, 1) := by decide +kernel
theorem dX4_sendBit_6 : decode cX4_sendBit 6 = .ok (.iload_n 1, 1) := by decide +kernel
theorem dX4_sendBit_7 : decode cX4_sendBit 7 = .ok (.aload_n 0, 1) := by decide +kernel
theorem dX4_sendBit_8 : decode cX4_sendBit 8 = .ok (.getfield 56, 3) := by decide +kernel
theorem dX4_sendBit_11 : decode cX4_sendBit 11 = .ok (.iconst 0, 1) := by decide +kernel
theorem dX4_sendBit_12 : decode cX4_sendBit 12 = .ok (.invokevirtual 151, 3) := by decide +kernel
theorem dX4_sendBit_15 : decode cX4_sendBit 15 = .ok (.ifCond .eq 7, 3) := by decide +kernel
theorem dX4_sendBit_18 : decode cX4_sendBit 18 = .ok (.iconst 1, 1) := by decide +kernel
theorem dX4_sendBit_19 : decode cX4_sendBit 19 = .ok (.goto 4, 3) := by decide +kernel
theorem dX4_sendBit_22 : decode cX4_sendBit 22 = .ok (.iconst 0, 1) := by decide +kernel
theorem dX4_sendBit_23 : decode cX4_sendBit 23 = .ok (.istore_n 2, 1) := by decide +kernel
theorem dX4_sendBit_24 : decode cX4_sendBit 24 = .ok (.iload_n 2, 1) := by decide +kernel
theorem dX4_sendBit_25 : decode cX4_sendBit 25 = .ok (.ifCond .eq 16, 3) := by decide +kernel
theorem dX4_sendBit_28 : decode cX4_sendBit 28 = .ok (.aload_n 0, 1) := by decide +kernel
theorem dX4_sendBit_29 : decode cX4_sendBit 29 = .ok (.iload_n 1, 1) := by decide +kernel
theorem dX4_sendBit_30 : decode cX4_sendBit 30 = .ok (.aload_n 0, 1) := by decide +kernel
theorem dX4_sendBit_31 : decode cX4_sendBit 31 = .ok (.getfield 56, 3) := by decide +kernel
theorem dX4_sendBit_34 : decode cX4_sendBit 34 = .ok (.iconst 1, 1) := by decide +kernel
theorem dX4_sendBit_35 : decode cX4_sendBit 35 = .ok (.invokevirtual 151, 3) := by decide +kernel
theorem dX4_sendBit_38 : decode cX4_sendBit 38 = .ok (.goto 4, 3) := by decide +kernel
theorem dX4_sendBit_41 : decode cX4_sendBit 41 = .ok (.iconst 0, 1) := by decide +kernel
theorem dX4_sendBit_42 : decode cX4_sendBit 42 = .ok (.istore_n 3, 1) := by decide +kernel
theorem dX4_sendBit_43 : decode cX4_sendBit 43 = .ok (.aload_n 0, 1) := by decide +kernel
theorem dX4_sendBit_44 : decode cX4_sendBit 44 = .ok (.iload_n 3, 1) := by decide +kernel
theorem dX4_sendBit_45 : decode cX4_sendBit 45 = .ok (.invokevirtual 155, 3) := by decide +kernel
theorem dX4_sendBit_48 : decode cX4_sendBit 48 = .ok (.aload_n 0, 1) := by decide +kernel
theorem dX4_sendBit_49 : decode cX4_sendBit 49 = .ok (.getfield 30, 3) := by decide +kernel
theorem dX4_sendBit_52 : decode cX4_sendBit 52 = .ok (.iload_n 2, 1) := by decide +kernel
theorem dX4_sendBit_53 : decode cX4_sendBit 53 = .ok (.ifCond .eq 7, 3) := by decide +kernel
theorem dX4_sendBit_56 : decode cX4_sendBit 56 = .ok (.iconst 0, 1) := by decide +kernel
theorem dX4_sendBit_57 : decode cX4_sendBit 57 = .ok (.goto 4, 3) := by decide +kernel
theorem dX4_sendBit_60 : decode cX4_sendBit 60 = .ok (.iconst 1, 1) := by decide +kernel
theorem dX4_sendBit_61 : decode cX4_sendBit 61 = .ok (.iconst 0, 1) := by decide +kernel
theorem dX4_sendBit_62 : decode cX4_sendBit 62 = .ok (.aload_n 0, 1) := by decide +kernel
theorem dX4_sendBit_63 : decode cX4_sendBit 63 = .ok (.getfield 52, 3) := by decide +kernel
theorem dX4_sendBit_66 : decode cX4_sendBit 66 = .ok (.iload_n 3, 1) := by decide +kernel
theorem dX4_sendBit_67 : decode cX4_sendBit 67 = .ok (.invokestatic 172, 3) := by decide +kernel
theorem dX4_sendBit_70 : decode cX4_sendBit 70 = .ok (.invokevirtual 177, 3) := by decide +kernel
theorem dX4_sendBit_73 : decode cX4_sendBit 73 = .ok (.aload_n 0, 1) := by decide +kernel
theorem dX4_sendBit_74 : decode cX4_sendBit 74 = .ok (.dup, 1) := by decide +kernel
theorem dX4_sendBit_75 : decode cX4_sendBit 75 = .ok (.getfield 56, 3) := by decide +kernel
theorem dX4_sendBit_78 : decode cX4_sendBit 78 = .ok (.iconst 1, 1) := by decide +kernel
theorem dX4_sendBit_79 : decode cX4_sendBit 79 = .ok (.iadd, 1) := by decide +kernel
theorem dX4_sendBit_80 : decode cX4_sendBit 80 = .ok (.putfield 56, 3) := by decide +kernel
theorem dX4_sendBit_83 : decode cX4_sendBit 83 = .ok (.aload_n 0, 1) := by decide +kernel
theorem dX4_sendBit_84 : decode cX4_sendBit 84 = .ok (.getfield 56, 3) := by decide +kernel
theorem dX4_sendBit_87 : decode cX4_sendBit 87 = .ok (.invokestatic 132, 3) := by decide +kernel
theorem dX4_sendBit_90 : decode cX4_sendBit 90 = .ok (.ifCond .eq 18, 3) := by decide +kernel
theorem dX4_sendBit_93 : decode cX4_sendBit 93 = .ok (.aload_n 0, 1) := by decide +kernel
theorem dX4_sendBit_94 : decode cX4_sendBit 94 = .ok (.aload_n 0, 1) := by decide +kernel
theorem dX4_sendBit_95 : decode cX4_sendBit 95 = .ok (.aload_n 0, 1) := by decide +kernel
theorem dX4_sendBit_96 : decode cX4_sendBit 96 = .ok (.iconst 0, 1) := by decide +kernel
theorem dX4_sendBit_97 : decode cX4_sendBit 97 = .ok (.invokevirtual 181, 3) := by decide +kernel
theorem dX4_sendBit_100 : decode cX4_sendBit 100 = .ok (.iconst 1, 1) := by decide +kernel
theorem dX4_sendBit_101 : decode cX4_sendBit 101 = .ok (.ishr, 1) := by decide +kernel
theorem dX4_sendBit_102 : decode cX4_sendBit 102 = .ok (.invokevirtual 184, 3) := by decide +kernel
theorem dX4_sendBit_105 : decode cX4_sendBit 105 = .ok (.putfield 59, 3) := by decide +kernel
theorem dX4_sendBit_108 : decode cX4_sendBit 108 = .ok (.return_, 1) := by decide +kernel
theorem dX4_awaitAnswer_0 : decode cX4_awaitAnswer 0 = .ok (.aload_n 0, 1) := by decide +kernel
theorem dX4_awaitAnswer_1 : decode cX4_awaitAnswer 1 = .ok (.aload_n 0, 1) := by decide +kernel
theorem dX4_awaitAnswer_2 : decode cX4_awaitAnswer 2 = .ok (.iconst 0, 1) := by decide +kernel
theorem dX4_awaitAnswer_3 : decode cX4_awaitAnswer 3 = .ok (.invokevirtual 181, 3) := by decide +kernel
theorem dX4_awaitAnswer_6 : decode cX4_awaitAnswer 6 = .ok (.iconst 1, 1) := by decide +kernel
theorem dX4_awaitAnswer_7 : decode cX4_awaitAnswer 7 = .ok (.ishr, 1) := by decide +kernel
theorem dX4_awaitAnswer_8 : decode cX4_awaitAnswer 8 = .ok (.invokevirtual 100, 3) := by decide +kernel
theorem dX4_awaitAnswer_11 : decode cX4_awaitAnswer 11 = .ok (.astore_n 1, 1) := by decide +kernel
theorem dX4_awaitAnswer_12 : decode cX4_awaitAnswer 12 = .ok (.aload_n 0, 1) := by decide +kernel
theorem dX4_awaitAnswer_13 : decode cX4_awaitAnswer 13 = .ok (.getfield 30, 3) := by decide +kernel
theorem dX4_awaitAnswer_16 : decode cX4_awaitAnswer 16 = .ok (.aload_n 1, 1) := by decide +kernel
theorem dX4_awaitAnswer_17 : decode cX4_awaitAnswer 17 = .ok (.ifnonnull 7, 3) := by decide +kernel
theorem dX4_awaitAnswer_20 : decode cX4_awaitAnswer 20 = .ok (.iconst 1, 1) := by decide +kernel
theorem dX4_awaitAnswer_21 : decode cX4_awaitAnswer 21 = .ok (.goto 4, 3) := by decide +kernel
theorem dX4_awaitAnswer_24 : decode cX4_awaitAnswer 24 = .ok (.iconst 0, 1) := by decide +kernel
theorem dX4_awaitAnswer_25 : decode cX4_awaitAnswer 25 = .ok (.iconst 1, 1) := by decide +kernel
theorem dX4_awaitAnswer_26 : decode cX4_awaitAnswer 26 = .ok (.aload_n 0, 1) := by decide +kernel
theorem dX4_awaitAnswer_27 : decode cX4_awaitAnswer 27 = .ok (.getfield 52, 3) := by decide +kernel
theorem dX4_awaitAnswer_30 : decode cX4_awaitAnswer 30 = .ok (.iconst 0, 1) := by decide +kernel
theorem dX4_awaitAnswer_31 : decode cX4_awaitAnswer 31 = .ok (.invokevirtual 177, 3) := by decide +kernel
theorem dX4_awaitAnswer_34 : decode cX4_awaitAnswer 34 = .ok (.aload_n 1, 1) := by decide +kernel
theorem dX4_awaitAnswer_35 : decode cX4_awaitAnswer 35 = .ok (.ifnull 27, 3) := by decide +kernel
theorem dX4_awaitAnswer_38 : decode cX4_awaitAnswer 38 = .ok (.aload_n 0, 1) := by decide +kernel
theorem dX4_awaitAnswer_39 : decode cX4_awaitAnswer 39 = .ok (.getfield 56, 3) := by decide +kernel
theorem dX4_awaitAnswer_42 : decode cX4_awaitAnswer 42 = .ok (.bipush 8, 2) := by decide +kernel
theorem dX4_awaitAnswer_44 : decode cX4_awaitAnswer 44 = .ok (.if_icmp .le 18, 3) := by decide +kernel
theorem dX4_awaitAnswer_47 : decode cX4_awaitAnswer 47 = .ok (.aload_n 1, 1) := by decide +kernel
theorem dX4_awaitAnswer_48 : decode cX4_awaitAnswer 48 = .ok (.aload_n 0, 1) := by decide +kernel
theorem dX4_awaitAnswer_49 : decode cX4_awaitAnswer 49 = .ok (.aload_n 0, 1) := by decide +kernel
theorem dX4_awaitAnswer_50 : decode cX4_awaitAnswer 50 = .ok (.getfield 56, 3) := by decide +kernel
theorem dX4_awaitAnswer_53 : decode cX4_awaitAnswer 53 = .ok (.bipush 9, 2) := by decide +kernel
theorem dX4_awaitAnswer_55 : decode cX4_awaitAnswer 55 = .ok (.idiv, 1) := by decide +kernel
theorem dX4_awaitAnswer_56 : decode cX4_awaitAnswer 56 = .ok (.invokevirtual 181, 3) := by decide +kernel
theorem dX4_awaitAnswer_59 : decode cX4_awaitAnswer 59 = .ok (.invokevirtual 187, 3) := by decide +kernel
theorem dX4_awaitAnswer_62 : decode cX4_awaitAnswer 62 = .ok (.aload_n 0, 1) := by decide +kernel
theorem dX4_awaitAnswer_63 : decode cX4_awaitAnswer 63 = .ok (.getfield 11, 3) := by decide +kernel
theorem dX4_awaitAnswer_66 : decode cX4_awaitAnswer 66 = .ok (.astore_n 2, 1) := by decide +kernel
theorem dX4_awaitAnswer_67 : decode cX4_awaitAnswer 67 = .ok (.aload_n 2, 1) := by decide +kernel
theorem dX4_awaitAnswer_68 : decode cX4_awaitAnswer 68 = .ok (.arraylength, 1) := by decide +kernel
theorem dX4_awaitAnswer_69 : decode cX4_awaitAnswer 69 = .ok (.istore_n 3, 1) := by decide +kernel
theorem dX4_awaitAnswer_70 : decode cX4_awaitAnswer 70 = .ok (.iconst 0, 1) := by decide +kernel
theorem dX4_awaitAnswer_71 : decode cX4_awaitAnswer 71 = .ok (.istore 4, 2) := by decide +kernel
theorem dX4_awaitAnswer_73 : decode cX4_awaitAnswer 73 = .ok (.iload 4, 2) := by decide +kernel
theorem dX4_awaitAnswer_75 : decode cX4_awaitAnswer 75 = .ok (.iload_n 3, 1) := by decide +kernel
theorem dX4_awaitAnswer_76 : decode cX4_awaitAnswer 76 = .ok (.if_icmp .ge 65, 3) := by decide +kernel
theorem dX4_awaitAnswer_79 : decode cX4_awaitAnswer 79 = .ok (.aload_n 2, 1) := by decide +kernel
theorem dX4_awaitAnswer_80 : decode cX4_awaitAnswer 80 = .ok (.iload 4, 2) := by decide +kernel
theorem dX4_awaitAnswer_82 : decode cX4_awaitAnswer 82 = .ok (.aaload, 1) := by decide +kernel
theorem dX4_awaitAnswer_83 : decode cX4_awaitAnswer 83 = .ok (.astore 5, 2) := by decide +kernel
theorem dX4_awaitAnswer_85 : decode cX4_awaitAnswer 85 = .ok (.aload 5, 2) := by decide +kernel
theorem dX4_awaitAnswer_87 : decode cX4_awaitAnswer 87 = .ok (.getfield 89, 3) := by decide +kernel
theorem dX4_awaitAnswer_90 : decode cX4_awaitAnswer 90 = .ok (.ifCond .eq 20, 3) := by decide +kernel
theorem dX4_awaitAnswer_93 : decode cX4_awaitAnswer 93 = .ok (.aload_n 1, 1) := by decide +kernel
theorem dX4_awaitAnswer_94 : decode cX4_awaitAnswer 94 = .ok (.ifnonnull 16, 3) := by decide +kernel
theorem dX4_awaitAnswer_97 : decode cX4_awaitAnswer 97 = .ok (.aload 5, 2) := by decide +kernel
theorem dX4_awaitAnswer_99 : decode cX4_awaitAnswer 99 = .ok (.aload_n 0, 1) := by decide +kernel
theorem dX4_awaitAnswer_100 : decode cX4_awaitAnswer 100 = .ok (.iconst 1, 1) := by decide +kernel
theorem dX4_awaitAnswer_101 : decode cX4_awaitAnswer 101 = .ok (.invokevirtual 162, 3) := by decide +kernel
theorem dX4_awaitAnswer_104 : decode cX4_awaitAnswer 104 = .ok (.invokevirtual 190, 3) := by decide +kernel
theorem dX4_awaitAnswer_107 : decode cX4_awaitAnswer 107 = .ok (.goto 28, 3) := by decide +kernel
theorem dX4_awaitAnswer_110 : decode cX4_awaitAnswer 110 = .ok (.aload 5, 2) := by decide +kernel
theorem dX4_awaitAnswer_112 : decode cX4_awaitAnswer 112 = .ok (.getfield 89, 3) := by decide +kernel
theorem dX4_awaitAnswer_115 : decode cX4_awaitAnswer 115 = .ok (.ifCond .eq 20, 3) := by decide +kernel
theorem dX4_awaitAnswer_118 : decode cX4_awaitAnswer 118 = .ok (.aload 5, 2) := by decide +kernel
theorem dX4_awaitAnswer_120 : decode cX4_awaitAnswer 120 = .ok (.aload_n 0, 1) := by decide +kernel
theorem dX4_awaitAnswer_121 : decode cX4_awaitAnswer 121 = .ok (.getfield 56, 3) := by decide +kernel
theorem dX4_awaitAnswer_124 : decode cX4_awaitAnswer 124 = .ok (.invokestatic 193, 3) := by decide +kernel
theorem dX4_awaitAnswer_127 : decode cX4_awaitAnswer 127 = .ok (.ifCond .eq 8, 3) := by decide +kernel
theorem dX4_awaitAnswer_130 : decode cX4_awaitAnswer 130 = .ok (.aload 5, 2) := by decide +kernel
theorem dX4_awaitAnswer_132 : decode cX4_awaitAnswer 132 = .ok (.invokevirtual 197, 3) := by decide +kernel
theorem dX4_awaitAnswer_135 : decode cX4_awaitAnswer 135 = .ok (.iinc 4 1, 3) := by decide +kernel
theorem dX4_awaitAnswer_138 : decode cX4_awaitAnswer 138 = .ok (.goto (-65), 3) := by decide +kernel
theorem dX4_awaitAnswer_141 : decode cX4_awaitAnswer 141 = .ok (.aload_n 0, 1) := by decide +kernel
theorem dX4_awaitAnswer_142 : decode cX4_awaitAnswer 142 = .ok (.dup, 1) := by decide +kernel
theorem dX4_awaitAnswer_143 : decode cX4_awaitAnswer 143 = .ok (.getfield 56, 3) := by decide +kernel
theorem dX4_awaitAnswer_146 : decode cX4_awaitAnswer 146 = .ok (.iconst 1, 1) := by decide +kernel
theorem dX4_awaitAnswer_147 : decode cX4_awaitAnswer 147 = .ok (.iadd, 1) := by decide +kernel
theorem dX4_awaitAnswer_148 : decode cX4_awaitAnswer 148 = .ok (.putfield 56, 3) := by decide +kernel
theorem dX4_awaitAnswer_151 : decode cX4_awaitAnswer 151 = .ok (.aload_n 0, 1) := by decide +kernel
theorem dX4_awaitAnswer_152 : decode cX4_awaitAnswer 152 = .ok (.invokevirtual 159, 3) := by decide +kernel
theorem dX4_awaitAnswer_155 : decode cX4_awaitAnswer 155 = .ok (.return_, 1) := by decide +kernel
theorem dX4_freeTick_0 : decode cX4_freeTick 0 = .ok (.aload_n 0, 1) := by decide +kernel
theorem dX4_freeTick_1 : decode cX4_freeTick 1 = .ok (.dup, 1) := by decide +kernel
theorem dX4_freeTick_2 : decode cX4_freeTick 2 = .ok (.getfield 62, 3) := by decide +kernel
theorem dX4_freeTick_5 : decode cX4_freeTick 5 = .ok (.iconst 1, 1) := by decide +kernel
theorem dX4_freeTick_6 : decode cX4_freeTick 6 = .ok (.iadd, 1) := by decide +kernel
theorem dX4_freeTick_7 : decode cX4_freeTick 7 = .ok (.putfield 62, 3) := by decide +kernel
theorem dX4_freeTick_10 : decode cX4_freeTick 10 = .ok (.aload_n 0, 1) := by decide +kernel
theorem dX4_freeTick_11 : decode cX4_freeTick 11 = .ok (.invokevirtual 200, 3) := by decide +kernel
theorem dX4_freeTick_14 : decode cX4_freeTick 14 = .ok (.istore_n 1, 1) := by decide +kernel
theorem dX4_freeTick_15 : decode cX4_freeTick 15 = .ok (.aload_n 0, 1) := by decide +kernel
theorem dX4_freeTick_16 : decode cX4_freeTick 16 = .ok (.getfield 62, 3) := by decide +kernel
theorem dX4_freeTick_19 : decode cX4_freeTick 19 = .ok (.aload_n 0, 1) := by decide +kernel
theorem dX4_freeTick_20 : decode cX4_freeTick 20 = .ok (.iconst 0, 1) := by decide +kernel
theorem dX4_freeTick_21 : decode cX4_freeTick 21 = .ok (.invokevirtual 162, 3) := by decide +kernel
theorem dX4_freeTick_24 : decode cX4_freeTick 24 = .ok (.if_icmp .lt 7, 3) := by decide +kernel
theorem dX4_freeTick_27 : decode cX4_freeTick 27 = .ok (.iload_n 1, 1) := by decide +kernel
theorem dX4_freeTick_28 : decode cX4_freeTick 28 = .ok (.ifCond .ne 4, 3) := by decide +kernel
theorem dX4_freeTick_31 : decode cX4_freeTick 31 = .ok (.return_, 1) := by decide +kernel
theorem dX4_freeTick_32 : decode cX4_freeTick 32 = .ok (.iconst 0, 1) := by decide +kernel
theorem dX4_freeTick_33 : decode cX4_freeTick 33 = .ok (.istore_n 2, 1) := by decide +kernel
theorem dX4_freeTick_34 : decode cX4_freeTick 34 = .ok (.iload_n 2, 1) := by decide +kernel
theorem dX4_freeTick_35 : decode cX4_freeTick 35 = .ok (.aload_n 0, 1) := by decide +kernel
theorem dX4_freeTick_36 : decode cX4_freeTick 36 = .ok (.getfield 11, 3) := by decide +kernel
theorem dX4_freeTick_39 : decode cX4_freeTick 39 = .ok (.arraylength, 1) := by decide +kernel
theorem dX4_freeTick_40 : decode cX4_freeTick 40 = .ok (.if_icmp .ge 23, 3) := by decide +kernel
theorem dX4_freeTick_43 : decode cX4_freeTick 43 = .ok (.aload_n 0, 1) := by decide +kernel
theorem dX4_freeTick_44 : decode cX4_freeTick 44 = .ok (.getfield 11, 3) := by decide +kernel
theorem dX4_freeTick_47 : decode cX4_freeTick 47 = .ok (.iload_n 2, 1) := by decide +kernel
theorem dX4_freeTick_48 : decode cX4_freeTick 48 = .ok (.aaload, 1) := by decide +kernel
theorem dX4_freeTick_49 : decode cX4_freeTick 49 = .ok (.iload_n 1, 1) := by decide +kernel
theorem dX4_freeTick_50 : decode cX4_freeTick 50 = .ok (.iload_n 2, 1) := by decide +kernel
theorem dX4_freeTick_51 : decode cX4_freeTick 51 = .ok (.invokestatic 203, 3) := by decide +kernel
theorem dX4_freeTick_54 : decode cX4_freeTick 54 = .ok (.putfield 89, 3) := by decide +kernel
theorem dX4_freeTick_57 : decode cX4_freeTick 57 = .ok (.iinc 2 1, 3) := by decide +kernel
theorem dX4_freeTick_60 : decode cX4_freeTick 60 = .ok (.goto (-26), 3) := by decide +kernel
theorem dX4_freeTick_63 : decode cX4_freeTick 63 = .ok (.aload_n 0, 1) := by decide +kernel
theorem dX4_freeTick_64 : decode cX4_freeTick 64 = .ok (.iconst 0, 1) := by decide +kernel
theorem dX4_freeTick_65 : decode cX4_freeTick 65 = .ok (.putfield 62, 3) := by decide +kernel
theorem dX4_freeTick_68 : decode cX4_freeTick 68 = .ok (.aload_n 0, 1) := by decide +kernel
theorem dX4_freeTick_69 : decode cX4_freeTick 69 = .ok (.dup, 1) := by decide +kernel
theorem dX4_freeTick_70 : decode cX4_freeTick 70 = .ok (.getfield 68, 3) := by decide +kernel
theorem dX4_freeTick_73 : decode cX4_freeTick 73 = .ok (.iconst 1, 1) := by decide +kernel
theorem dX4_freeTick_74 : decode cX4_freeTick 74 = .ok (.iadd, 1) := by decide +kernel
theorem dX4_freeTick_75 : decode cX4_freeTick 75 = .ok (.putfield 68, 3) := by decide +kernel
theorem dX4_freeTick_78 : decode cX4_freeTick 78 = .ok (.return_, 1) := by decide +kernel
theorem dX4_lose_0 : decode cX4_lose 0 = .ok (.iconst 0, 1) := by decide +kernel
theorem dX4_lose_1 : decode cX4_lose 1 = .ok (.istore_n 2, 1) := by decide +kernel
theorem dX4_lose_2 : decode cX4_lose 2 = .ok (.iload_n 2, 1) := by decide +kernel
theorem dX4_lose_3 : decode cX4_lose 3 = .ok (.aload_n 0, 1) := by decide +kernel
theorem dX4_lose_4 : decode cX4_lose 4 = .ok (.getfield 11, 3) := by decide +kernel
theorem dX4_lose_7 : decode cX4_lose 7 = .ok (.arraylength, 1) := by decide +kernel
theorem dX4_lose_8 : decode cX4_lose 8 = .ok (.if_icmp .ge 26, 3) := by decide +kernel
theorem dX4_lose_11 : decode cX4_lose 11 = .ok (.iload_n 1, 1) := by decide +kernel
theorem dX4_lose_12 : decode cX4_lose 12 = .ok (.iload_n 2, 1) := by decide +kernel
theorem dX4_lose_13 : decode cX4_lose 13 = .ok (.invokestatic 203, 3) := by decide +kernel
theorem dX4_lose_16 : decode cX4_lose 16 = .ok (.ifCond .eq 12, 3) := by decide +kernel
theorem dX4_lose_19 : decode cX4_lose 19 = .ok (.aload_n 0, 1) := by decide +kernel
theorem dX4_lose_20 : decode cX4_lose 20 = .ok (.getfield 11, 3) := by decide +kernel
theorem dX4_lose_23 : decode cX4_lose 23 = .ok (.iload_n 2, 1) := by decide +kernel
theorem dX4_lose_24 : decode cX4_lose 24 = .ok (.aaload, 1) := by decide +kernel
theorem dX4_lose_25 : decode cX4_lose 25 = .ok (.invokevirtual 206, 3) := by decide +kernel
theorem dX4_lose_28 : decode cX4_lose 28 = .ok (.iinc 2 1, 3) := by decide +kernel
theorem dX4_lose_31 : decode cX4_lose 31 = .ok (.goto (-29), 3) := by decide +kernel
theorem dX4_lose_34 : decode cX4_lose 34 = .ok (.return_, 1) := by decide +kernel
theorem dX4_endTalkIfEmpty_0 : decode cX4_endTalkIfEmpty 0 = .ok (.aload_n 0, 1) := by decide +kernel
theorem dX4_endTalkIfEmpty_1 : decode cX4_endTalkIfEmpty 1 = .ok (.invokevirtual 129, 3) := by decide +kernel
theorem dX4_endTalkIfEmpty_4 : decode cX4_endTalkIfEmpty 4 = .ok (.ifCond .ne 8, 3) := by decide +kernel
theorem dX4_endTalkIfEmpty_7 : decode cX4_endTalkIfEmpty 7 = .ok (.aload_n 0, 1) := by decide +kernel
theorem dX4_endTalkIfEmpty_8 : decode cX4_endTalkIfEmpty 8 = .ok (.iconst 0, 1) := by decide +kernel
theorem dX4_endTalkIfEmpty_9 : decode cX4_endTalkIfEmpty 9 = .ok (.putfield 56, 3) := by decide +kernel
theorem dX4_endTalkIfEmpty_12 : decode cX4_endTalkIfEmpty 12 = .ok (.return_, 1) := by decide +kernel
theorem dX4_speakerAt_0 : decode cX4_speakerAt 0 = .ok (.iload_n 1, 1) := by decide +kernel
theorem dX4_speakerAt_1 : decode cX4_speakerAt 1 = .ok (.aload_n 0, 1) := by decide +kernel
theorem dX4_speakerAt_2 : decode cX4_speakerAt 2 = .ok (.getfield 11, 3) := by decide +kernel
theorem dX4_speakerAt_5 : decode cX4_speakerAt 5 = .ok (.arraylength, 1) := by decide +kernel
theorem dX4_speakerAt_6 : decode cX4_speakerAt 6 = .ok (.invokestatic 78, 3) := by decide +kernel
theorem dX4_speakerAt_9 : decode cX4_speakerAt 9 = .ok (.ifCond .eq 12, 3) := by decide +kernel
theorem dX4_speakerAt_12 : decode cX4_speakerAt 12 = .ok (.aload_n 0, 1) := by decide +kernel
theorem dX4_speakerAt_13 : decode cX4_speakerAt 13 = .ok (.getfield 11, 3) := by decide +kernel
theorem dX4_speakerAt_16 : decode cX4_speakerAt 16 = .ok (.iload_n 1, 1) := by decide +kernel
theorem dX4_speakerAt_17 : decode cX4_speakerAt 17 = .ok (.aaload, 1) := by decide +kernel
theorem dX4_speakerAt_18 : decode cX4_speakerAt 18 = .ok (.goto 4, 3) := by decide +kernel
theorem dX4_speakerAt_21 : decode cX4_speakerAt 21 = .ok (.aconst_null, 1) := by decide +kernel
theorem dX4_speakerAt_22 : decode cX4_speakerAt 22 = .ok (.areturn, 1) := by decide +kernel
theorem dX4_listenerAt_0 : decode cX4_listenerAt 0 = .ok (.iload_n 1, 1) := by decide +kernel
theorem dX4_listenerAt_1 : decode cX4_listenerAt 1 = .ok (.aload_n 0, 1) := by decide +kernel
theorem dX4_listenerAt_2 : decode cX4_listenerAt 2 = .ok (.getfield 19, 3) := by decide +kernel
theorem dX4_listenerAt_5 : decode cX4_listenerAt 5 = .ok (.arraylength, 1) := by decide +kernel
theorem dX4_listenerAt_6 : decode cX4_listenerAt 6 = .ok (.invokestatic 78, 3) := by decide +kernel
theorem dX4_listenerAt_9 : decode cX4_listenerAt 9 = .ok (.ifCond .eq 12, 3) := by decide +kernel
theorem dX4_listenerAt_12 : decode cX4_listenerAt 12 = .ok (.aload_n 0, 1) := by decide +kernel
theorem dX4_listenerAt_13 : decode cX4_listenerAt 13 = .ok (.getfield 19, 3) := by decide +kernel
theorem dX4_listenerAt_16 : decode cX4_listenerAt 16 = .ok (.iload_n 1, 1) := by decide +kernel
theorem dX4_listenerAt_17 : decode cX4_listenerAt 17 = .ok (.aaload, 1) := by decide +kernel
theorem dX4_listenerAt_18 : decode cX4_listenerAt 18 = .ok (.goto 4, 3) := by decide +kernel
theorem dX4_listenerAt_21 : decode cX4_listenerAt 21 = .ok (.aconst_null, 1) := by decide +kernel
theorem dX4_listenerAt_22 : decode cX4_listenerAt 22 = .ok (.areturn, 1) := by decide +kernel
theorem dX4_listenerWith_0 : decode cX4_listenerWith 0 = .ok (.aload_n 0, 1) := by decide +kernel
theorem dX4_listenerWith_1 : decode cX4_listenerWith 1 = .ok (.getfield 19, 3) := by decide +kernel
theorem dX4_listenerWith_4 : decode cX4_listenerWith 4 = .ok (.astore_n 2, 1) := by decide +kernel
theorem dX4_listenerWith_5 : decode cX4_listenerWith 5 = .ok (.aload_n 2, 1) := by decide +kernel
theorem dX4_listenerWith_6 : decode cX4_listenerWith 6 = .ok (.arraylength, 1) := by decide +kernel
theorem dX4_listenerWith_7 : decode cX4_listenerWith 7 = .ok (.istore_n 3, 1) := by decide +kernel
theorem dX4_listenerWith_8 : decode cX4_listenerWith 8 = .ok (.iconst 0, 1) := by decide +kernel
theorem dX4_listenerWith_9 : decode cX4_listenerWith 9 = .ok (.istore 4, 2) := by decide +kernel
theorem dX4_listenerWith_11 : decode cX4_listenerWith 11 = .ok (.iload 4, 2) := by decide +kernel
theorem dX4_listenerWith_13 : decode cX4_listenerWith 13 = .ok (.iload_n 3, 1) := by decide +kernel
theorem dX4_listenerWith_14 : decode cX4_listenerWith 14 = .ok (.if_icmp .ge 33, 3) := by decide +kernel
theorem dX4_listenerWith_17 : decode cX4_listenerWith 17 = .ok (.aload_n 2, 1) := by decide +kernel
theorem dX4_listenerWith_18 : decode cX4_listenerWith 18 = .ok (.iload 4, 2) := by decide +kernel
theorem dX4_listenerWith_20 : decode cX4_listenerWith 20 = .ok (.aaload, 1) := by decide +kernel
theorem dX4_listenerWith_21 : decode cX4_listenerWith 21 = .ok (.astore 5, 2) := by decide +kernel
theorem dX4_listenerWith_23 : decode cX4_listenerWith 23 = .ok (.iload_n 1, 1) := by decide +kernel
theorem dX4_listenerWith_24 : decode cX4_listenerWith 24 = .ok (.bipush (-5), 2) := by decide +kernel
theorem dX4_listenerWith_26 : decode cX4_listenerWith 26 = .ok (.if_icmp .eq 15, 3) := by decide +kernel
theorem dX4_listenerWith_29 : decode cX4_listenerWith 29 = .ok (.aload 5, 2) := by decide +kernel
theorem dX4_listenerWith_31 : decode cX4_listenerWith 31 = .ok (.getfield 103, 3) := by decide +kernel
theorem dX4_listenerWith_34 : decode cX4_listenerWith 34 = .ok (.iload_n 1, 1) := by decide +kernel
theorem dX4_listenerWith_35 : decode cX4_listenerWith 35 = .ok (.if_icmp .ne 6, 3) := by decide +kernel
theorem dX4_listenerWith_38 : decode cX4_listenerWith 38 = .ok (.aload 5, 2) := by decide +kernel
theorem dX4_listenerWith_40 : decode cX4_listenerWith 40 = .ok (.areturn, 1) := by decide +kernel
theorem dX4_listenerWith_41 : decode cX4_listenerWith 41 = .ok (.iinc 4 1, 3) := by decide +kernel
theorem dX4_listenerWith_44 : decode cX4_listenerWith 44 = .ok (.goto (-33), 3) := by decide +kernel
theorem dX4_listenerWith_47 : decode cX4_listenerWith 47 = .ok (.aconst_null, 1) := by decide +kernel
theorem dX4_listenerWith_48 : decode cX4_listenerWith 48 = .ok (.areturn, 1) := by decide +kernel
theorem dX4_listenersWithAddress_0 : decode cX4_listenersWithAddress 0 = .ok (.iconst 0, 1) := by decide +kernel
theorem dX4_listenersWithAddress_1 : decode cX4_listenersWithAddress 1 = .ok (.istore_n 1, 1) := by decide +kernel
theorem dX4_listenersWithAddress_2 : decode cX4_listenersWithAddress 2 = .ok (.aload_n 0, 1) := by decide +kernel
theorem dX4_listenersWithAddress_3 : decode cX4_listenersWithAddress 3 = .ok (.getfield 19, 3) := by decide +kernel
theorem dX4_listenersWithAddress_6 : decode cX4_listenersWithAddress 6 = .ok (.astore_n 2, 1) := by decide +kernel
theorem dX4_listenersWithAddress_7 : decode cX4_listenersWithAddress 7 = .ok (.aload_n 2, 1) := by decide +kernel
theorem dX4_listenersWithAddress_8 : decode cX4_listenersWithAddress 8 = .ok (.arraylength, 1) := by decide +kernel
theorem dX4_listenersWithAddress_9 : decode cX4_listenersWithAddress 9 = .ok (.istore_n 3, 1) := by decide +kernel
theorem dX4_listenersWithAddress_10 : decode cX4_listenersWithAddress 10 = .ok (.iconst 0, 1) := by decide +kernel
theorem dX4_listenersWithAddress_11 : decode cX4_listenersWithAddress 11 = .ok (.istore 4, 2) := by decide +kernel
theorem dX4_listenersWithAddress_13 : decode cX4_listenersWithAddress 13 = .ok (.iload 4, 2) := by decide +kernel
theorem dX4_listenersWithAddress_15 : decode cX4_listenersWithAddress 15 = .ok (.iload_n 3, 1) := by decide +kernel
theorem dX4_listenersWithAddress_16 : decode cX4_listenersWithAddress 16 = .ok (.if_icmp .ge 33, 3) := by decide +kernel
theorem dX4_listenersWithAddress_19 : decode cX4_listenersWithAddress 19 = .ok (.aload_n 2, 1) := by decide +kernel
theorem dX4_listenersWithAddress_20 : decode cX4_listenersWithAddress 20 = .ok (.iload 4, 2) := by decide +kernel
theorem dX4_listenersWithAddress_22 : decode cX4_listenersWithAddress 22 = .ok (.aaload, 1) := by decide +kernel
theorem dX4_listenersWithAddress_23 : decode cX4_listenersWithAddress 23 = .ok (.astore 5, 2) := by decide +kernel
theorem dX4_listenersWithAddress_25 : decode cX4_listenersWithAddress 25 = .ok (.iload_n 1, 1) := by decide +kernel
theorem dX4_listenersWithAddress_26 : decode cX4_listenersWithAddress 26 = .ok (.aload 5, 2) := by decide +kernel
theorem dX4_listenersWithAddress_28 : decode cX4_listenersWithAddress 28 = .ok (.getfield 103, 3) := by decide +kernel
theorem dX4_listenersWithAddress_31 : decode cX4_listenersWithAddress 31 = .ok (.bipush (-5), 2) := by decide +kernel
theorem dX4_listenersWithAddress_33 : decode cX4_listenersWithAddress 33 = .ok (.if_icmp .ne 7, 3) := by decide +kernel
theorem dX4_listenersWithAddress_36 : decode cX4_listenersWithAddress 36 = .ok (.iconst 0, 1) := by decide +kernel
theorem dX4_listenersWithAddress_37 : decode cX4_listenersWithAddress 37 = .ok (.goto 4, 3) := by decide +kernel
theorem dX4_listenersWithAddress_40 : decode cX4_listenersWithAddress 40 = .ok (.iconst 1, 1) := by decide +kernel
theorem dX4_listenersWithAddress_41 : decode cX4_listenersWithAddress 41 = .ok (.iadd, 1) := by decide +kernel
theorem dX4_listenersWithAddress_42 : decode cX4_listenersWithAddress 42 = .ok (.istore_n 1, 1) := by decide +kernel
theorem dX4_listenersWithAddress_43 : decode cX4_listenersWithAddress 43 = .ok (.iinc 4 1, 3) := by decide +kernel
theorem dX4_listenersWithAddress_46 : decode cX4_listenersWithAddress 46 = .ok (.goto (-33), 3) := by decide +kernel
theorem dX4_listenersWithAddress_49 : decode cX4_listenersWithAddress 49 = .ok (.iload_n 1, 1) := by decide +kernel
theorem dX4_listenersWithAddress_50 : decode cX4_listenersWithAddress 50 = .ok (.ireturn, 1) := by decide +kernel
theorem dX4_stuckListeners_0 : decode cX4_stuckListeners 0 = .ok (.iconst 0, 1) := by decide +kernel
theorem dX4_stuckListeners_1 : decode cX4_stuckListeners 1 = .ok (.istore_n 1, 1) := by decide +kernel
theorem dX4_stuckListeners_2 : decode cX4_stuckListeners 2 = .ok (.aload_n 0, 1) := by decide +kernel
theorem dX4_stuckListeners_3 : decode cX4_stuckListeners 3 = .ok (.getfield 19, 3) := by decide +kernel
theorem dX4_stuckListeners_6 : decode cX4_stuckListeners 6 = .ok (.astore_n 2, 1) := by decide +kernel
theorem dX4_stuckListeners_7 : decode cX4_stuckListeners 7 = .ok (.aload_n 2, 1) := by decide +kernel
theorem dX4_stuckListeners_8 : decode cX4_stuckListeners 8 = .ok (.arraylength, 1) := by decide +kernel
theorem dX4_stuckListeners_9 : decode cX4_stuckListeners 9 = .ok (.istore_n 3, 1) := by decide +kernel
theorem dX4_stuckListeners_10 : decode cX4_stuckListeners 10 = .ok (.iconst 0, 1) := by decide +kernel
theorem dX4_stuckListeners_11 : decode cX4_stuckListeners 11 = .ok (.istore 4, 2) := by decide +kernel
theorem dX4_stuckListeners_13 : decode cX4_stuckListeners 13 = .ok (.iload 4, 2) := by decide +kernel
theorem dX4_stuckListeners_15 : decode cX4_stuckListeners 15 = .ok (.iload_n 3, 1) := by decide +kernel
theorem dX4_stuckListeners_16 : decode cX4_stuckListeners 16 = .ok (.if_icmp .ge 31, 3) := by decide +kernel
theorem dX4_stuckListeners_19 : decode cX4_stuckListeners 19 = .ok (.aload_n 2, 1) := by decide +kernel
theorem dX4_stuckListeners_20 : decode cX4_stuckListeners 20 = .ok (.iload 4, 2) := by decide +kernel
theorem dX4_stuckListeners_22 : decode cX4_stuckListeners 22 = .ok (.aaload, 1) := by decide +kernel
theorem dX4_stuckListeners_23 : decode cX4_stuckListeners 23 = .ok (.astore 5, 2) := by decide +kernel
theorem dX4_stuckListeners_25 : decode cX4_stuckListeners 25 = .ok (.iload_n 1, 1) := by decide +kernel
theorem dX4_stuckListeners_26 : decode cX4_stuckListeners 26 = .ok (.aload 5, 2) := by decide +kernel
theorem dX4_stuckListeners_28 : decode cX4_stuckListeners 28 = .ok (.getfield 113, 3) := by decide +kernel
theorem dX4_stuckListeners_31 : decode cX4_stuckListeners 31 = .ok (.ifCond .le 7, 3) := by decide +kernel
theorem dX4_stuckListeners_34 : decode cX4_stuckListeners 34 = .ok (.iconst 1, 1) := by decide +kernel
theorem dX4_stuckListeners_35 : decode cX4_stuckListeners 35 = .ok (.goto 4, 3) := by decide +kernel
theorem dX4_stuckListeners_38 : decode cX4_stuckListeners 38 = .ok (.iconst 0, 1) := by decide +kernel
theorem dX4_stuckListeners_39 : decode cX4_stuckListeners 39 = .ok (.iadd, 1) := by decide +kernel
theorem dX4_stuckListeners_40 : decode cX4_stuckListeners 40 = .ok (.istore_n 1, 1) := by decide +kernel
theorem dX4_stuckListeners_41 : decode cX4_stuckListeners 41 = .ok (.iinc 4 1, 3) := by decide +kernel
theorem dX4_stuckListeners_44 : decode cX4_stuckListeners 44 = .ok (.goto (-31), 3) := by decide +kernel
theorem dX4_stuckListeners_47 : decode cX4_stuckListeners 47 = .ok (.iload_n 1, 1) := by decide +kernel
theorem dX4_stuckListeners_48 : decode cX4_stuckListeners 48 = .ok (.ireturn, 1) := by decide +kernel
theorem dX4_holdFor_0 : decode cX4_holdFor 0 = .ok (.aload_n 0, 1) := by decide +kernel
theorem dX4_holdFor_1 : decode cX4_holdFor 1 = .ok (.iload_n 1, 1) := by decide +kernel
theorem dX4_holdFor_2 : decode cX4_holdFor 2 = .ok (.invokevirtual 100, 3) := by decide +kernel
theorem dX4_holdFor_5 : decode cX4_holdFor 5 = .ok (.astore_n 2, 1) := by decide +kernel
theorem dX4_holdFor_6 : decode cX4_holdFor 6 = .ok (.aload_n 2, 1) := by decide +kernel
theorem dX4_holdFor_7 : decode cX4_holdFor 7 = .ok (.ifnonnull 7, 3) := by decide +kernel
theorem dX4_holdFor_10 : decode cX4_holdFor 10 = .ok (.iconst 0, 1) := by decide +kernel
theorem dX4_holdFor_11 : decode cX4_holdFor 11 = .ok (.goto 7, 3) := by decide +kernel
theorem dX4_holdFor_14 : decode cX4_holdFor 14 = .ok (.aload_n 2, 1) := by decide +kernel
theorem dX4_holdFor_15 : decode cX4_holdFor 15 = .ok (.getfield 110, 3) := by decide +kernel
theorem dX4_holdFor_18 : decode cX4_holdFor 18 = .ok (.ireturn, 1) := by decide +kernel
theorem dX4_setting_0 : decode cX4_setting 0 = .ok (.iload_n 1, 1) := by decide +kernel
theorem dX4_setting_1 : decode cX4_setting 1 = .ok (.aload_n 0, 1) := by decide +kernel
theorem dX4_setting_2 : decode cX4_setting 2 = .ok (.getfield 23, 3) := by decide +kernel
theorem dX4_setting_5 : decode cX4_setting 5 = .ok (.arraylength, 1) := by decide +kernel
theorem dX4_setting_6 : decode cX4_setting 6 = .ok (.invokestatic 78, 3) := by decide +kernel
theorem dX4_setting_9 : decode cX4_setting 9 = .ok (.ifCond .eq 12, 3) := by decide +kernel
theorem dX4_setting_12 : decode cX4_setting 12 = .ok (.aload_n 0, 1) := by decide +kernel
theorem dX4_setting_13 : decode cX4_setting 13 = .ok (.getfield 23, 3) := by decide +kernel
theorem dX4_setting_16 : decode cX4_setting 16 = .ok (.iload_n 1, 1) := by decide +kernel
theorem dX4_setting_17 : decode cX4_setting 17 = .ok (.iaload, 1) := by decide +kernel
theorem dX4_setting_18 : decode cX4_setting 18 = .ok (.goto 4, 3) := by decide +kernel
theorem dX4_setting_21 : decode cX4_setting 21 = .ok (.iconst (-1), 1) := by decide +kernel
theorem dX4_setting_22 : decode cX4_setting 22 = .ok (.ireturn, 1) := by decide +kernel
theorem dX4_messagesInLines_0 : decode cX4_messagesInLines 0 = .ok (.iconst 0, 1) := by decide +kernel
theorem dX4_messagesInLines_1 : decode cX4_messagesInLines 1 = .ok (.istore_n 1, 1) := by decide +kernel
theorem dX4_messagesInLines_2 : decode cX4_messagesInLines 2 = .ok (.aload_n 0, 1) := by decide +kernel
theorem dX4_messagesInLines_3 : decode cX4_messagesInLines 3 = .ok (.getfield 11, 3) := by decide +kernel
theorem dX4_messagesInLines_6 : decode cX4_messagesInLines 6 = .ok (.astore_n 2, 1) := by decide +kernel
theorem dX4_messagesInLines_7 : decode cX4_messagesInLines 7 = .ok (.aload_n 2, 1) := by decide +kernel
theorem dX4_messagesInLines_8 : decode cX4_messagesInLines 8 = .ok (.arraylength, 1) := by decide +kernel
theorem dX4_messagesInLines_9 : decode cX4_messagesInLines 9 = .ok (.istore_n 3, 1) := by decide +kernel
theorem dX4_messagesInLines_10 : decode cX4_messagesInLines 10 = .ok (.iconst 0, 1) := by decide +kernel
theorem dX4_messagesInLines_11 : decode cX4_messagesInLines 11 = .ok (.istore 4, 2) := by decide +kernel
theorem dX4_messagesInLines_13 : decode cX4_messagesInLines 13 = .ok (.iload 4, 2) := by decide +kernel
theorem dX4_messagesInLines_15 : decode cX4_messagesInLines 15 = .ok (.iload_n 3, 1) := by decide +kernel
theorem dX4_messagesInLines_16 : decode cX4_messagesInLines 16 = .ok (.if_icmp .ge 23, 3) := by decide +kernel
theorem dX4_messagesInLines_19 : decode cX4_messagesInLines 19 = .ok (.aload_n 2, 1) := by decide +kernel
theorem dX4_messagesInLines_20 : decode cX4_messagesInLines 20 = .ok (.iload 4, 2) := by decide +kernel
theorem dX4_messagesInLines_22 : decode cX4_messagesInLines 22 = .ok (.aaload, 1) := by decide +kernel
theorem dX4_messagesInLines_23 : decode cX4_messagesInLines 23 = .ok (.astore 5, 2) := by decide +kernel
theorem dX4_messagesInLines_25 : decode cX4_messagesInLines 25 = .ok (.iload_n 1, 1) := by decide +kernel
theorem dX4_messagesInLines_26 : decode cX4_messagesInLines 26 = .ok (.aload 5, 2) := by decide +kernel
theorem dX4_messagesInLines_28 : decode cX4_messagesInLines 28 = .ok (.getfield 82, 3) := by decide +kernel
theorem dX4_messagesInLines_31 : decode cX4_messagesInLines 31 = .ok (.iadd, 1) := by decide +kernel
theorem dX4_messagesInLines_32 : decode cX4_messagesInLines 32 = .ok (.istore_n 1, 1) := by decide +kernel
theorem dX4_messagesInLines_33 : decode cX4_messagesInLines 33 = .ok (.iinc 4 1, 3) := by decide +kernel
theorem dX4_messagesInLines_36 : decode cX4_messagesInLines 36 = .ok (.goto (-23), 3) := by decide +kernel
theorem dX4_messagesInLines_39 : decode cX4_messagesInLines 39 = .ok (.iload_n 1, 1) := by decide +kernel
theorem dX4_messagesInLines_40 : decode cX4_messagesInLines 40 = .ok (.ireturn, 1) := by decide +kernel
theorem dX4_messagesThatCame_0 : decode cX4_messagesThatCame 0 = .ok (.iconst 0, 1) := by decide +kernel
theorem dX4_messagesThatCame_1 : decode cX4_messagesThatCame 1 = .ok (.istore_n 1, 1) := by decide +kernel
theorem dX4_messagesThatCame_2 : decode cX4_messagesThatCame 2 = .ok (.aload_n 0, 1) := by decide +kernel
theorem dX4_messagesThatCame_3 : decode cX4_messagesThatCame 3 = .ok (.getfield 11, 3) := by decide +kernel
theorem dX4_messagesThatCame_6 : decode cX4_messagesThatCame 6 = .ok (.astore_n 2, 1) := by decide +kernel
theorem dX4_messagesThatCame_7 : decode cX4_messagesThatCame 7 = .ok (.aload_n 2, 1) := by decide +kernel
theorem dX4_messagesThatCame_8 : decode cX4_messagesThatCame 8 = .ok (.arraylength, 1) := by decide +kernel
theorem dX4_messagesThatCame_9 : decode cX4_messagesThatCame 9 = .ok (.istore_n 3, 1) := by decide +kernel
theorem dX4_messagesThatCame_10 : decode cX4_messagesThatCame 10 = .ok (.iconst 0, 1) := by decide +kernel
theorem dX4_messagesThatCame_11 : decode cX4_messagesThatCame 11 = .ok (.istore 4, 2) := by decide +kernel
theorem dX4_messagesThatCame_13 : decode cX4_messagesThatCame 13 = .ok (.iload 4, 2) := by decide +kernel
theorem dX4_messagesThatCame_15 : decode cX4_messagesThatCame 15 = .ok (.iload_n 3, 1) := by decide +kernel
theorem dX4_messagesThatCame_16 : decode cX4_messagesThatCame 16 = .ok (.if_icmp .ge 23, 3) := by decide +kernel
theorem dX4_messagesThatCame_19 : decode cX4_messagesThatCame 19 = .ok (.aload_n 2, 1) := by decide +kernel
theorem dX4_messagesThatCame_20 : decode cX4_messagesThatCame 20 = .ok (.iload 4, 2) := by decide +kernel
theorem dX4_messagesThatCame_22 : decode cX4_messagesThatCame 22 = .ok (.aaload, 1) := by decide +kernel
theorem dX4_messagesThatCame_23 : decode cX4_messagesThatCame 23 = .ok (.astore 5, 2) := by decide +kernel
theorem dX4_messagesThatCame_25 : decode cX4_messagesThatCame 25 = .ok (.iload_n 1, 1) := by decide +kernel
theorem dX4_messagesThatCame_26 : decode cX4_messagesThatCame 26 = .ok (.aload 5, 2) := by decide +kernel
theorem dX4_messagesThatCame_28 : decode cX4_messagesThatCame 28 = .ok (.getfield 208, 3) := by decide +kernel
theorem dX4_messagesThatCame_31 : decode cX4_messagesThatCame 31 = .ok (.iadd, 1) := by decide +kernel
theorem dX4_messagesThatCame_32 : decode cX4_messagesThatCame 32 = .ok (.istore_n 1, 1) := by decide +kernel
theorem dX4_messagesThatCame_33 : decode cX4_messagesThatCame 33 = .ok (.iinc 4 1, 3) := by decide +kernel
theorem dX4_messagesThatCame_36 : decode cX4_messagesThatCame 36 = .ok (.goto (-23), 3) := by decide +kernel
theorem dX4_messagesThatCame_39 : decode cX4_messagesThatCame 39 = .ok (.iload_n 1, 1) := by decide +kernel
theorem dX4_messagesThatCame_40 : decode cX4_messagesThatCame 40 = .ok (.ireturn, 1) := by decide +kernel
theorem dX4_cameFrom_0 : decode cX4_cameFrom 0 = .ok (.iload_n 1, 1) := by decide +kernel
theorem dX4_cameFrom_1 : decode cX4_cameFrom 1 = .ok (.aload_n 0, 1) := by decide +kernel
theorem dX4_cameFrom_2 : decode cX4_cameFrom 2 = .ok (.getfield 11, 3) := by decide +kernel
theorem dX4_cameFrom_5 : decode cX4_cameFrom 5 = .ok (.arraylength, 1) := by decide +kernel
theorem dX4_cameFrom_6 : decode cX4_cameFrom 6 = .ok (.invokestatic 78, 3) := by decide +kernel
theorem dX4_cameFrom_9 : decode cX4_cameFrom 9 = .ok (.ifCond .eq 15, 3) := by decide +kernel
theorem dX4_cameFrom_12 : decode cX4_cameFrom 12 = .ok (.aload_n 0, 1) := by decide +kernel
theorem dX4_cameFrom_13 : decode cX4_cameFrom 13 = .ok (.getfield 11, 3) := by decide +kernel
theorem dX4_cameFrom_16 : decode cX4_cameFrom 16 = .ok (.iload_n 1, 1) := by decide +kernel
theorem dX4_cameFrom_17 : decode cX4_cameFrom 17 = .ok (.aaload, 1) := by decide +kernel
theorem dX4_cameFrom_18 : decode cX4_cameFrom 18 = .ok (.getfield 208, 3) := by decide +kernel
theorem dX4_cameFrom_21 : decode cX4_cameFrom 21 = .ok (.goto 4, 3) := by decide +kernel
theorem dX4_cameFrom_24 : decode cX4_cameFrom 24 = .ok (.iconst 0, 1) := by decide +kernel
theorem dX4_cameFrom_25 : decode cX4_cameFrom 25 = .ok (.ireturn, 1) := by decide +kernel
theorem dX4_isIn_0 : decode cX4_isIn 0 = .ok (.iload_n 0, 1) := by decide +kernel
theorem dX4_isIn_1 : decode cX4_isIn 1 = .ok (.iload_n 1, 1) := by decide +kernel
theorem dX4_isIn_2 : decode cX4_isIn 2 = .ok (.ishr, 1) := by decide +kernel
theorem dX4_isIn_3 : decode cX4_isIn 3 = .ok (.iconst 1, 1) := by decide +kernel
theorem dX4_isIn_4 : decode cX4_isIn 4 = .ok (.iand, 1) := by decide +kernel
theorem dX4_isIn_5 : decode cX4_isIn 5 = .ok (.iconst 1, 1) := by decide +kernel
theorem dX4_isIn_6 : decode cX4_isIn 6 = .ok (.if_icmp .ne 7, 3) := by decide +kernel
theorem dX4_isIn_9 : decode cX4_isIn 9 = .ok (.iconst 1, 1) := by decide +kernel
theorem dX4_isIn_10 : decode cX4_isIn 10 = .ok (.goto 4, 3) := by decide +kernel
theorem dX4_isIn_13 : decode cX4_isIn 13 = .ok (.iconst 0, 1) := by decide +kernel
theorem dX4_isIn_14 : decode cX4_isIn 14 = .ok (.ireturn, 1) := by decide +kernel
theorem dX4_talkers_0 : decode cX4_talkers 0 = .ok (.iconst 0, 1) := by decide +kernel
theorem dX4_talkers_1 : decode cX4_talkers 1 = .ok (.istore_n 1, 1) := by decide +kernel
theorem dX4_talkers_2 : decode cX4_talkers 2 = .ok (.iconst 0, 1) := by decide +kernel
theorem dX4_talkers_3 : decode cX4_talkers 3 = .ok (.istore_n 2, 1) := by decide +kernel
theorem dX4_talkers_4 : decode cX4_talkers 4 = .ok (.iload_n 2, 1) := by decide +kernel
theorem dX4_talkers_5 : decode cX4_talkers 5 = .ok (.aload_n 0, 1) := by decide +kernel
theorem dX4_talkers_6 : decode cX4_talkers 6 = .ok (.getfield 11, 3) := by decide +kernel
theorem dX4_talkers_9 : decode cX4_talkers 9 = .ok (.arraylength, 1) := by decide +kernel
theorem dX4_talkers_10 : decode cX4_talkers 10 = .ok (.if_icmp .ge 31, 3) := by decide +kernel
theorem dX4_talkers_13 : decode cX4_talkers 13 = .ok (.iload_n 1, 1) := by decide +kernel
theorem dX4_talkers_14 : decode cX4_talkers 14 = .ok (.aload_n 0, 1) := by decide +kernel
theorem dX4_talkers_15 : decode cX4_talkers 15 = .ok (.getfield 11, 3) := by decide +kernel
theorem dX4_talkers_18 : decode cX4_talkers 18 = .ok (.iload_n 2, 1) := by decide +kernel
theorem dX4_talkers_19 : decode cX4_talkers 19 = .ok (.aaload, 1) := by decide +kernel
theorem dX4_talkers_20 : decode cX4_talkers 20 = .ok (.getfield 89, 3) := by decide +kernel
theorem dX4_talkers_23 : decode cX4_talkers 23 = .ok (.ifCond .eq 9, 3) := by decide +kernel
theorem dX4_talkers_26 : decode cX4_talkers 26 = .ok (.iconst 1, 1) := by decide +kernel
theorem dX4_talkers_27 : decode cX4_talkers 27 = .ok (.iload_n 2, 1) := by decide +kernel
theorem dX4_talkers_28 : decode cX4_talkers 28 = .ok (.ishl, 1) := by decide +kernel
theorem dX4_talkers_29 : decode cX4_talkers 29 = .ok (.goto 4, 3) := by decide +kernel
theorem dX4_talkers_32 : decode cX4_talkers 32 = .ok (.iconst 0, 1) := by decide +kernel
theorem dX4_talkers_33 : decode cX4_talkers 33 = .ok (.ior, 1) := by decide +kernel
theorem dX4_talkers_34 : decode cX4_talkers 34 = .ok (.istore_n 1, 1) := by decide +kernel
theorem dX4_talkers_35 : decode cX4_talkers 35 = .ok (.iinc 2 1, 3) := by decide +kernel
theorem dX4_talkers_38 : decode cX4_talkers 38 = .ok (.goto (-34), 3) := by decide +kernel
theorem dX4_talkers_41 : decode cX4_talkers 41 = .ok (.iload_n 1, 1) := by decide +kernel
theorem dX4_talkers_42 : decode cX4_talkers 42 = .ok (.ireturn, 1) := by decide +kernel
theorem dX4_speakersWithMessage_0 : decode cX4_speakersWithMessage 0 = .ok (.iconst 0, 1) := by decide +kernel
theorem dX4_speakersWithMessage_1 : decode cX4_speakersWithMessage 1 = .ok (.istore_n 1, 1) := by decide +kernel
theorem dX4_speakersWithMessage_2 : decode cX4_speakersWithMessage 2 = .ok (.iconst 0, 1) := by decide +kernel
theorem dX4_speakersWithMessage_3 : decode cX4_speakersWithMessage 3 = .ok (.istore_n 2, 1) := by decide +kernel
theorem dX4_speakersWithMessage_4 : decode cX4_speakersWithMessage 4 = .ok (.iload_n 2, 1) := by decide +kernel
theorem dX4_speakersWithMessage_5 : decode cX4_speakersWithMessage 5 = .ok (.aload_n 0, 1) := by decide +kernel
theorem dX4_speakersWithMessage_6 : decode cX4_speakersWithMessage 6 = .ok (.getfield 11, 3) := by decide +kernel
theorem dX4_speakersWithMessage_9 : decode cX4_speakersWithMessage 9 = .ok (.arraylength, 1) := by decide +kernel
theorem dX4_speakersWithMessage_10 : decode cX4_speakersWithMessage 10 = .ok (.if_icmp .ge 31, 3) := by decide +kernel
theorem dX4_speakersWithMessage_13 : decode cX4_speakersWithMessage 13 = .ok (.iload_n 1, 1) := by decide +kernel
theorem dX4_speakersWithMessage_14 : decode cX4_speakersWithMessage 14 = .ok (.aload_n 0, 1) := by decide +kernel
theorem dX4_speakersWithMessage_15 : decode cX4_speakersWithMessage 15 = .ok (.getfield 11, 3) := by decide +kernel
theorem dX4_speakersWithMessage_18 : decode cX4_speakersWithMessage 18 = .ok (.iload_n 2, 1) := by decide +kernel
theorem dX4_speakersWithMessage_19 : decode cX4_speakersWithMessage 19 = .ok (.aaload, 1) := by decide +kernel
theorem dX4_speakersWithMessage_20 : decode cX4_speakersWithMessage 20 = .ok (.getfield 82, 3) := by decide +kernel
theorem dX4_speakersWithMessage_23 : decode cX4_speakersWithMessage 23 = .ok (.ifCond .le 9, 3) := by decide +kernel
theorem dX4_speakersWithMessage_26 : decode cX4_speakersWithMessage 26 = .ok (.iconst 1, 1) := by decide +kernel
theorem dX4_speakersWithMessage_27 : decode cX4_speakersWithMessage 27 = .ok (.iload_n 2, 1) := by decide +kernel
theorem dX4_speakersWithMessage_28 : decode cX4_speakersWithMessage 28 = .ok (.ishl, 1) := by decide +kernel
theorem dX4_speakersWithMessage_29 : decode cX4_speakersWithMessage 29 = .ok (.goto 4, 3) := by decide +kernel
theorem dX4_speakersWithMessage_32 : decode cX4_speakersWithMessage 32 = .ok (.iconst 0, 1) := by decide +kernel
theorem dX4_speakersWithMessage_33 : decode cX4_speakersWithMessage 33 = .ok (.ior, 1) := by decide +kernel
theorem dX4_speakersWithMessage_34 : decode cX4_speakersWithMessage 34 = .ok (.istore_n 1, 1) := by decide +kernel
theorem dX4_speakersWithMessage_35 : decode cX4_speakersWithMessage 35 = .ok (.iinc 2 1, 3) := by decide +kernel
theorem dX4_speakersWithMessage_38 : decode cX4_speakersWithMessage 38 = .ok (.goto (-34), 3) := by decide +kernel
theorem dX4_speakersWithMessage_41 : decode cX4_speakersWithMessage 41 = .ok (.iload_n 1, 1) := by decide +kernel
theorem dX4_speakersWithMessage_42 : decode cX4_speakersWithMessage 42 = .ok (.ireturn, 1) := by decide +kernel
theorem dX4_sendersOf_0 : decode cX4_sendersOf 0 = .ok (.iload_n 2, 1) := by decide +kernel
theorem dX4_sendersOf_1 : decode cX4_sendersOf 1 = .ok (.bipush 9, 2) := by decide +kernel
theorem dX4_sendersOf_3 : decode cX4_sendersOf 3 = .ok (.idiv, 1) := by decide +kernel
theorem dX4_sendersOf_4 : decode cX4_sendersOf 4 = .ok (.istore 4, 2) := by decide +kernel
theorem dX4_sendersOf_6 : decode cX4_sendersOf 6 = .ok (.bipush 7, 2) := by decide +kernel
theorem dX4_sendersOf_8 : decode cX4_sendersOf 8 = .ok (.iload_n 2, 1) := by decide +kernel
theorem dX4_sendersOf_9 : decode cX4_sendersOf 9 = .ok (.bipush 9, 2) := by decide +kernel
theorem dX4_sendersOf_11 : decode cX4_sendersOf 11 = .ok (.irem, 1) := by decide +kernel
theorem dX4_sendersOf_12 : decode cX4_sendersOf 12 = .ok (.isub, 1) := by decide +kernel
theorem dX4_sendersOf_13 : decode cX4_sendersOf 13 = .ok (.istore 5, 2) := by decide +kernel
theorem dX4_sendersOf_15 : decode cX4_sendersOf 15 = .ok (.iconst 0, 1) := by decide +kernel
theorem dX4_sendersOf_16 : decode cX4_sendersOf 16 = .ok (.istore 6, 2) := by decide +kernel
theorem dX4_sendersOf_18 : decode cX4_sendersOf 18 = .ok (.iconst 0, 1) := by decide +kernel
theorem dX4_sendersOf_19 : decode cX4_sendersOf 19 = .ok (.istore 7, 2) := by decide +kernel
theorem dX4_sendersOf_21 : decode cX4_sendersOf 21 = .ok (.iload 7, 2) := by decide +kernel
theorem dX4_sendersOf_23 : decode cX4_sendersOf 23 = .ok (.aload_n 0, 1) := by decide +kernel
theorem dX4_sendersOf_24 : decode cX4_sendersOf 24 = .ok (.getfield 11, 3) := by decide +kernel
theorem dX4_sendersOf_27 : decode cX4_sendersOf 27 = .ok (.arraylength, 1) := by decide +kernel
theorem dX4_sendersOf_28 : decode cX4_sendersOf 28 = .ok (.if_icmp .ge 57, 3) := by decide +kernel
theorem dX4_sendersOf_31 : decode cX4_sendersOf 31 = .ok (.aload_n 0, 1) := by decide +kernel
theorem dX4_sendersOf_32 : decode cX4_sendersOf 32 = .ok (.getfield 11, 3) := by decide +kernel
theorem dX4_sendersOf_35 : decode cX4_sendersOf 35 = .ok (.iload 7, 2) := by decide +kernel
theorem dX4_sendersOf_37 : decode cX4_sendersOf 37 = .ok (.aaload, 1) := by decide +kernel
theorem dX4_sendersOf_38 : decode cX4_sendersOf 38 = .ok (.iconst 0, 1) := by decide +kernel
theorem dX4_sendersOf_39 : decode cX4_sendersOf 39 = .ok (.iload 4, 2) := by decide +kernel
theorem dX4_sendersOf_41 : decode cX4_sendersOf 41 = .ok (.invokevirtual 211, 3) := by decide +kernel
theorem dX4_sendersOf_44 : decode cX4_sendersOf 44 = .ok (.iload 5, 2) := by decide +kernel
theorem dX4_sendersOf_46 : decode cX4_sendersOf 46 = .ok (.ishr, 1) := by decide +kernel
theorem dX4_sendersOf_47 : decode cX4_sendersOf 47 = .ok (.iconst 1, 1) := by decide +kernel
theorem dX4_sendersOf_48 : decode cX4_sendersOf 48 = .ok (.iand, 1) := by decide +kernel
theorem dX4_sendersOf_49 : decode cX4_sendersOf 49 = .ok (.istore 8, 2) := by decide +kernel
theorem dX4_sendersOf_51 : decode cX4_sendersOf 51 = .ok (.iload 6, 2) := by decide +kernel
theorem dX4_sendersOf_53 : decode cX4_sendersOf 53 = .ok (.iload_n 1, 1) := by decide +kernel
theorem dX4_sendersOf_54 : decode cX4_sendersOf 54 = .ok (.iload 7, 2) := by decide +kernel
theorem dX4_sendersOf_56 : decode cX4_sendersOf 56 = .ok (.invokestatic 203, 3) := by decide +kernel
theorem dX4_sendersOf_59 : decode cX4_sendersOf 59 = .ok (.ifCond .eq 16, 3) := by decide +kernel
theorem dX4_sendersOf_62 : decode cX4_sendersOf 62 = .ok (.iload 8, 2) := by decide +kernel
theorem dX4_sendersOf_64 : decode cX4_sendersOf 64 = .ok (.iload_n 3, 1) := by decide +kernel
theorem dX4_sendersOf_65 : decode cX4_sendersOf 65 = .ok (.if_icmp .ne 10, 3) := by decide +kernel
theorem dX4_sendersOf_68 : decode cX4_sendersOf 68 = .ok (.iconst 1, 1) := by decide +kernel
theorem dX4_sendersOf_69 : decode cX4_sendersOf 69 = .ok (.iload 7, 2) := by decide +kernel
theorem dX4_sendersOf_71 : decode cX4_sendersOf 71 = .ok (.ishl, 1) := by decide +kernel
theorem dX4_sendersOf_72 : decode cX4_sendersOf 72 = .ok (.goto 4, 3) := by decide +kernel
theorem dX4_sendersOf_75 : decode cX4_sendersOf 75 = .ok (.iconst 0, 1) := by decide +kernel
theorem dX4_sendersOf_76 : decode cX4_sendersOf 76 = .ok (.ior, 1) := by decide +kernel
theorem dX4_sendersOf_77 : decode cX4_sendersOf 77 = .ok (.istore 6, 2) := by decide +kernel
theorem dX4_sendersOf_79 : decode cX4_sendersOf 79 = .ok (.iinc 7 1, 3) := by decide +kernel
theorem dX4_sendersOf_82 : decode cX4_sendersOf 82 = .ok (.goto (-61), 3) := by decide +kernel
theorem dX4_sendersOf_85 : decode cX4_sendersOf 85 = .ok (.iload 6, 2) := by decide +kernel
theorem dX4_sendersOf_87 : decode cX4_sendersOf 87 = .ok (.ireturn, 1) := by decide +kernel
theorem dX4_endsAt_0 : decode cX4_endsAt 0 = .ok (.aload_n 0, 1) := by decide +kernel
theorem dX4_endsAt_1 : decode cX4_endsAt 1 = .ok (.iconst 0, 1) := by decide +kernel
theorem dX4_endsAt_2 : decode cX4_endsAt 2 = .ok (.invokevirtual 214, 3) := by decide +kernel
theorem dX4_endsAt_5 : decode cX4_endsAt 5 = .ok (.bipush 9, 2) := by decide +kernel
theorem dX4_endsAt_7 : decode cX4_endsAt 7 = .ok (.imul, 1) := by decide +kernel
theorem dX4_endsAt_8 : decode cX4_endsAt 8 = .ok (.iload_n 1, 1) := by decide +kernel
theorem dX4_endsAt_9 : decode cX4_endsAt 9 = .ok (.iconst 1, 1) := by decide +kernel
theorem dX4_endsAt_10 : decode cX4_endsAt 10 = .ok (.iadd, 1) := by decide +kernel
theorem dX4_endsAt_11 : decode cX4_endsAt 11 = .ok (.if_icmp .ne 7, 3) := by decide +kernel
theorem dX4_endsAt_14 : decode cX4_endsAt 14 = .ok (.iconst 1, 1) := by decide +kernel
theorem dX4_endsAt_15 : decode cX4_endsAt 15 = .ok (.goto 4, 3) := by decide +kernel
theorem dX4_endsAt_18 : decode cX4_endsAt 18 = .ok (.iconst 0, 1) := by decide +kernel
theorem dX4_endsAt_19 : decode cX4_endsAt 19 = .ok (.ireturn, 1) := by decide +kernel
theorem dX4_endingAt_0 : decode cX4_endingAt 0 = .ok (.iconst 0, 1) := by decide +kernel
theorem dX4_endingAt_1 : decode cX4_endingAt 1 = .ok (.istore_n 3, 1) := by decide +kernel
theorem dX4_endingAt_2 : decode cX4_endingAt 2 = .ok (.iconst 0, 1) := by decide +kernel
theorem dX4_endingAt_3 : decode cX4_endingAt 3 = .ok (.istore 4, 2) := by decide +kernel
theorem dX4_endingAt_5 : decode cX4_endingAt 5 = .ok (.iload 4, 2) := by decide +kernel
theorem dX4_endingAt_7 : decode cX4_endingAt 7 = .ok (.aload_n 0, 1) := by decide +kernel
theorem dX4_endingAt_8 : decode cX4_endingAt 8 = .ok (.getfield 11, 3) := by decide +kernel
theorem dX4_endingAt_11 : decode cX4_endingAt 11 = .ok (.arraylength, 1) := by decide +kernel
theorem dX4_endingAt_12 : decode cX4_endingAt 12 = .ok (.if_icmp .ge 43, 3) := by decide +kernel
theorem dX4_endingAt_15 : decode cX4_endingAt 15 = .ok (.iload_n 3, 1) := by decide +kernel
theorem dX4_endingAt_16 : decode cX4_endingAt 16 = .ok (.iload_n 1, 1) := by decide +kernel
theorem dX4_endingAt_17 : decode cX4_endingAt 17 = .ok (.iload 4, 2) := by decide +kernel
theorem dX4_endingAt_19 : decode cX4_endingAt 19 = .ok (.invokestatic 203, 3) := by decide +kernel
theorem dX4_endingAt_22 : decode cX4_endingAt 22 = .ok (.ifCond .eq 24, 3) := by decide +kernel
theorem dX4_endingAt_25 : decode cX4_endingAt 25 = .ok (.aload_n 0, 1) := by decide +kernel
theorem dX4_endingAt_26 : decode cX4_endingAt 26 = .ok (.getfield 11, 3) := by decide +kernel
theorem dX4_endingAt_29 : decode cX4_endingAt 29 = .ok (.iload 4, 2) := by decide +kernel
theorem dX4_endingAt_31 : decode cX4_endingAt 31 = .ok (.aaload, 1) := by decide +kernel
theorem dX4_endingAt_32 : decode cX4_endingAt 32 = .ok (.iload_n 2, 1) := by decide +kernel
theorem dX4_endingAt_33 : decode cX4_endingAt 33 = .ok (.invokestatic 193, 3) := by decide +kernel
theorem dX4_endingAt_36 : decode cX4_endingAt 36 = .ok (.ifCond .eq 10, 3) := by decide +kernel
theorem dX4_endingAt_39 : decode cX4_endingAt 39 = .ok (.iconst 1, 1) := by decide +kernel
theorem dX4_endingAt_40 : decode cX4_endingAt 40 = .ok (.iload 4, 2) := by decide +kernel
theorem dX4_endingAt_42 : decode cX4_endingAt 42 = .ok (.ishl, 1) := by decide +kernel
theorem dX4_endingAt_43 : decode cX4_endingAt 43 = .ok (.goto 4, 3) := by decide +kernel
theorem dX4_endingAt_46 : decode cX4_endingAt 46 = .ok (.iconst 0, 1) := by decide +kernel
theorem dX4_endingAt_47 : decode cX4_endingAt 47 = .ok (.ior, 1) := by decide +kernel
theorem dX4_endingAt_48 : decode cX4_endingAt 48 = .ok (.istore_n 3, 1) := by decide +kernel
theorem dX4_endingAt_49 : decode cX4_endingAt 49 = .ok (.iinc 4 1, 3) := by decide +kernel
theorem dX4_endingAt_52 : decode cX4_endingAt 52 = .ok (.goto (-47), 3) := by decide +kernel
theorem dX4_endingAt_55 : decode cX4_endingAt 55 = .ok (.iload_n 3, 1) := by decide +kernel
theorem dX4_endingAt_56 : decode cX4_endingAt 56 = .ok (.ireturn, 1) := by decide +kernel
theorem dX4_partOfTalk_0 : decode cX4_partOfTalk 0 = .ok (.aload_n 0, 1) := by decide +kernel
theorem dX4_partOfTalk_1 : decode cX4_partOfTalk 1 = .ok (.getfield 11, 3) := by decide +kernel
theorem dX4_partOfTalk_4 : decode cX4_partOfTalk 4 = .ok (.astore_n 2, 1) := by decide +kernel
theorem dX4_partOfTalk_5 : decode cX4_partOfTalk 5 = .ok (.aload_n 2, 1) := by decide +kernel
theorem dX4_partOfTalk_6 : decode cX4_partOfTalk 6 = .ok (.arraylength, 1) := by decide +kernel
theorem dX4_partOfTalk_7 : decode cX4_partOfTalk 7 = .ok (.istore_n 3, 1) := by decide +kernel
theorem dX4_partOfTalk_8 : decode cX4_partOfTalk 8 = .ok (.iconst 0, 1) := by decide +kernel
theorem dX4_partOfTalk_9 : decode cX4_partOfTalk 9 = .ok (.istore 4, 2) := by decide +kernel
theorem dX4_partOfTalk_11 : decode cX4_partOfTalk 11 = .ok (.iload 4, 2) := by decide +kernel
theorem dX4_partOfTalk_13 : decode cX4_partOfTalk 13 = .ok (.iload_n 3, 1) := by decide +kernel
theorem dX4_partOfTalk_14 : decode cX4_partOfTalk 14 = .ok (.if_icmp .ge 31, 3) := by decide +kernel
theorem dX4_partOfTalk_17 : decode cX4_partOfTalk 17 = .ok (.aload_n 2, 1) := by decide +kernel
theorem dX4_partOfTalk_18 : decode cX4_partOfTalk 18 = .ok (.iload 4, 2) := by decide +kernel
theorem dX4_partOfTalk_20 : decode cX4_partOfTalk 20 = .ok (.aaload, 1) := by decide +kernel
theorem dX4_partOfTalk_21 : decode cX4_partOfTalk 21 = .ok (.astore 5, 2) := by decide +kernel
theorem dX4_partOfTalk_23 : decode cX4_partOfTalk 23 = .ok (.aload 5, 2) := by decide +kernel
theorem dX4_partOfTalk_25 : decode cX4_partOfTalk 25 = .ok (.getfield 89, 3) := by decide +kernel
theorem dX4_partOfTalk_28 : decode cX4_partOfTalk 28 = .ok (.ifCond .eq 11, 3) := by decide +kernel
theorem dX4_partOfTalk_31 : decode cX4_partOfTalk 31 = .ok (.aload 5, 2) := by decide +kernel
theorem dX4_partOfTalk_33 : decode cX4_partOfTalk 33 = .ok (.iconst 0, 1) := by decide +kernel
theorem dX4_partOfTalk_34 : decode cX4_partOfTalk 34 = .ok (.iload_n 1, 1) := by decide +kernel
theorem dX4_partOfTalk_35 : decode cX4_partOfTalk 35 = .ok (.invokevirtual 211, 3) := by decide +kernel
theorem dX4_partOfTalk_38 : decode cX4_partOfTalk 38 = .ok (.ireturn, 1) := by decide +kernel
theorem dX4_partOfTalk_39 : decode cX4_partOfTalk 39 = .ok (.iinc 4 1, 3) := by decide +kernel
theorem dX4_partOfTalk_42 : decode cX4_partOfTalk 42 = .ok (.goto (-31), 3) := by decide +kernel
theorem dX4_partOfTalk_45 : decode cX4_partOfTalk 45 = .ok (.bipush (-5), 2) := by decide +kernel
theorem dX4_partOfTalk_47 : decode cX4_partOfTalk 47 = .ok (.ireturn, 1) := by decide +kernel
theorem dX5_init_0 : decode cX5_init 0 = .ok (.aload_n 0, 1) := by decide +kernel
theorem dX5_init_1 : decode cX5_init 1 = .ok (.invokespecial 1, 3) := by decide +kernel
theorem dX5_init_4 : decode cX5_init 4 = .ok (.aload_n 0, 1) := by decide +kernel
theorem dX5_init_5 : decode cX5_init 5 = .ok (.new 7, 3) := by decide +kernel
theorem dX5_init_8 : decode cX5_init 8 = .ok (.dup, 1) := by decide +kernel
theorem dX5_init_9 : decode cX5_init 9 = .ok (.invokespecial 9, 3) := by decide +kernel
theorem dX5_init_12 : decode cX5_init 12 = .ok (.putfield 10, 3) := by decide +kernel
theorem dX5_init_15 : decode cX5_init 15 = .ok (.aload_n 0, 1) := by decide +kernel
theorem dX5_init_16 : decode cX5_init 16 = .ok (.new 7, 3) := by decide +kernel
theorem dX5_init_19 : decode cX5_init 19 = .ok (.dup, 1) := by decide +kernel
theorem dX5_init_20 : decode cX5_init 20 = .ok (.invokespecial 9, 3) := by decide +kernel
theorem dX5_init_23 : decode cX5_init 23 = .ok (.putfield 16, 3) := by decide +kernel
theorem dX5_init_26 : decode cX5_init 26 = .ok (.aload_n 0, 1) := by decide +kernel
theorem dX5_init_27 : decode cX5_init 27 = .ok (.iconst 4, 1) := by decide +kernel
theorem dX5_init_28 : decode cX5_init 28 = .ok (.anewarray 7, 3) := by decide +kernel
theorem dX5_init_31 : decode cX5_init 31 = .ok (.putfield 19, 3) := by decide +kernel
theorem dX5_init_34 : decode cX5_init 34 = .ok (.aload_n 0, 1) := by decide +kernel
theorem dX5_init_35 : decode cX5_init 35 = .ok (.new 23, 3) := by decide +kernel
theorem dX5_init_38 : decode cX5_init 38 = .ok (.dup, 1) := by decide +kernel
theorem dX5_init_39 : decode cX5_init 39 = .ok (.invokespecial 25, 3) := by decide +kernel
theorem dX5_init_42 : decode cX5_init 42 = .ok (.putfield 26, 3) := by decide +kernel
theorem dX5_init_45 : decode cX5_init 45 = .ok (.aload_n 0, 1) := by decide +kernel
theorem dX5_init_46 : decode cX5_init 46 = .ok (.new 7, 3) := by decide +kernel
theorem dX5_init_49 : decode cX5_init 49 = .ok (.dup, 1) := by decide +kernel
theorem dX5_init_50 : decode cX5_init 50 = .ok (.invokespecial 9, 3) := by decide +kernel
theorem dX5_init_53 : decode cX5_init 53 = .ok (.putfield 30, 3) := by decide +kernel
theorem dX5_init_56 : decode cX5_init 56 = .ok (.aload_n 0, 1) := by decide +kernel
theorem dX5_init_57 : decode cX5_init 57 = .ok (.bipush (-5), 2) := by decide +kernel
theorem dX5_init_59 : decode cX5_init 59 = .ok (.putfield 33, 3) := by decide +kernel
theorem dX5_init_62 : decode cX5_init 62 = .ok (.aload_n 0, 1) := by decide +kernel
theorem dX5_init_63 : decode cX5_init 63 = .ok (.bipush (-5), 2) := by decide +kernel
theorem dX5_init_65 : decode cX5_init 65 = .ok (.putfield 37, 3) := by decide +kernel
theorem dX5_init_68 : decode cX5_init 68 = .ok (.iconst 0, 1) := by decide +kernel
theorem dX5_init_69 : decode cX5_init 69 = .ok (.istore_n 1, 1) := by decide +kernel
theorem dX5_init_70 : decode cX5_init 70 = .ok (.iload_n 1, 1) := by decide +kernel
theorem dX5_init_71 : decode cX5_init 71 = .ok (.aload_n 0, 1) := by decide +kernel
theorem dX5_init_72 : decode cX5_init 72 = .ok (.getfield 19, 3) := by decide +kernel
theorem dX5_init_75 : decode cX5_init 75 = .ok (.arraylength, 1) := by decide +kernel
theorem dX5_init_76 : decode cX5_init 76 = .ok (.if_icmp .ge 22, 3) := by decide +kernel
theorem dX5_init_79 : decode cX5_init 79 = .ok (.aload_n 0, 1) := by decide +kernel
theorem dX5_init_80 : decode cX5_init 80 = .ok (.getfield 19, 3) := by decide +kernel
theorem dX5_init_83 : decode cX5_init 83 = .ok (.iload_n 1, 1) := by decide +kernel
theorem dX5_init_84 : decode cX5_init 84 = .ok (.new 7, 3) := by decide +kernel
theorem dX5_init_87 : decode cX5_init 87 = .ok (.dup, 1) := by decide +kernel
theorem dX5_init_88 : decode cX5_init 88 = .ok (.invokespecial 9, 3) := by decide +kernel
theorem dX5_init_91 : decode cX5_init 91 = .ok (.aastore, 1) := by decide +kernel
theorem dX5_init_92 : decode cX5_init 92 = .ok (.iinc 1 1, 3) := by decide +kernel
theorem dX5_init_95 : decode cX5_init 95 = .ok (.goto (-25), 3) := by decide +kernel
theorem dX5_init_98 : decode cX5_init 98 = .ok (.return_, 1) := by decide +kernel
theorem dX5_say_0 : decode cX5_say 0 = .ok (.aload_n 0, 1) := by decide +kernel
theorem dX5_say_1 : decode cX5_say 1 = .ok (.getfield 30, 3) := by decide +kernel
theorem dX5_say_4 : decode cX5_say 4 = .ok (.aload_n 0, 1) := by decide +kernel
theorem dX5_say_5 : decode cX5_say 5 = .ok (.getfield 10, 3) := by decide +kernel
theorem dX5_say_8 : decode cX5_say 8 = .ok (.invokevirtual 40, 3) := by decide +kernel
theorem dX5_say_11 : decode cX5_say 11 = .ok (.aload_n 0, 1) := by decide +kernel
theorem dX5_say_12 : decode cX5_say 12 = .ok (.aload_n 0, 1) := by decide +kernel
theorem dX5_say_13 : decode cX5_say 13 = .ok (.getfield 10, 3) := by decide +kernel
theorem dX5_say_16 : decode cX5_say 16 = .ok (.iload_n 1, 1) := by decide +kernel
theorem dX5_say_17 : decode cX5_say 17 = .ok (.iload_n 2, 1) := by decide +kernel
theorem dX5_say_18 : decode cX5_say 18 = .ok (.iload_n 3, 1) := by decide +kernel
theorem dX5_say_19 : decode cX5_say 19 = .ok (.iload 4, 2) := by decide +kernel
theorem dX5_say_21 : decode cX5_say 21 = .ok (.invokevirtual 44, 3) := by decide +kernel
theorem dX5_say_24 : decode cX5_say 24 = .ok (.invokevirtual 48, 3) := by decide +kernel
theorem dX5_say_27 : decode cX5_say 27 = .ok (.ireturn, 1) := by decide +kernel
theorem dX5_takeBack_0 : decode cX5_takeBack 0 = .ok (.aload_n 0, 1) := by decide +kernel
theorem dX5_takeBack_1 : decode cX5_takeBack 1 = .ok (.getfield 30, 3) := by decide +kernel
theorem dX5_takeBack_4 : decode cX5_takeBack 4 = .ok (.aload_n 0, 1) := by decide +kernel
theorem dX5_takeBack_5 : decode cX5_takeBack 5 = .ok (.getfield 10, 3) := by decide +kernel
theorem dX5_takeBack_8 : decode cX5_takeBack 8 = .ok (.invokevirtual 40, 3) := by decide +kernel
theorem dX5_takeBack_11 : decode cX5_takeBack 11 = .ok (.aload_n 0, 1) := by decide +kernel
theorem dX5_takeBack_12 : decode cX5_takeBack 12 = .ok (.aload_n 0, 1) := by decide +kernel
theorem dX5_takeBack_13 : decode cX5_takeBack 13 = .ok (.getfield 10, 3) := by decide +kernel
theorem dX5_takeBack_16 : decode cX5_takeBack 16 = .ok (.iload_n 1, 1) := by decide +kernel
theorem dX5_takeBack_17 : decode cX5_takeBack 17 = .ok (.invokevirtual 52, 3) := by decide +kernel
theorem dX5_takeBack_20 : decode cX5_takeBack 20 = .ok (.invokevirtual 48, 3) := by decide +kernel
theorem dX5_takeBack_23 : decode cX5_takeBack 23 = .ok (.ireturn, 1) := by decide +kernel
theorem dX5_hear_0 : decode cX5_hear 0 = .ok (.aload_n 0, 1) := by decide +kernel
theorem dX5_hear_1 : decode cX5_hear 1 = .ok (.getfield 30, 3) := by decide +kernel
theorem dX5_hear_4 : decode cX5_hear 4 = .ok (.aload_n 0, 1) := by decide +kernel
theorem dX5_hear_5 : decode cX5_hear 5 = .ok (.getfield 10, 3) := by decide +kernel
theorem dX5_hear_8 : decode cX5_hear 8 = .ok (.invokevirtual 40, 3) := by decide +kernel
theorem dX5_hear_11 : decode cX5_hear 11 = .ok (.aload_n 0, 1) := by decide +kernel
theorem dX5_hear_12 : decode cX5_hear 12 = .ok (.aload_n 0, 1) := by decide +kernel
theorem dX5_hear_13 : decode cX5_hear 13 = .ok (.getfield 10, 3) := by decide +kernel
theorem dX5_hear_16 : decode cX5_hear 16 = .ok (.iload_n 1, 1) := by decide +kernel
theorem dX5_hear_17 : decode cX5_hear 17 = .ok (.iload_n 2, 1) := by decide +kernel
theorem dX5_hear_18 : decode cX5_hear 18 = .ok (.invokevirtual 55, 3) := by decide +kernel
theorem dX5_hear_21 : decode cX5_hear 21 = .ok (.invokevirtual 48, 3) := by decide +kernel
theorem dX5_hear_24 : decode cX5_hear 24 = .ok (.ireturn, 1) := by decide +kernel
theorem dX5_hold_0 : decode cX5_hold 0 = .ok (.aload_n 0, 1) := by decide +kernel
theorem dX5_hold_1 : decode cX5_hold 1 = .ok (.getfield 30, 3) := by decide +kernel
theorem dX5_hold_4 : decode cX5_hold 4 = .ok (.aload_n 0, 1) := by decide +kernel
theorem dX5_hold_5 : decode cX5_hold 5 = .ok (.getfield 10, 3) := by decide +kernel
theorem dX5_hold_8 : decode cX5_hold 8 = .ok (.invokevirtual 40, 3) := by decide +kernel
theorem dX5_hold_11 : decode cX5_hold 11 = .ok (.aload_n 0, 1) := by decide +kernel
theorem dX5_hold_12 : decode cX5_hold 12 = .ok (.aload_n 0, 1) := by decide +kernel
theorem dX5_hold_13 : decode cX5_hold 13 = .ok (.getfield 10, 3) := by decide +kernel
theorem dX5_hold_16 : decode cX5_hold 16 = .ok (.iload_n 1, 1) := by decide +kernel
theorem dX5_hold_17 : decode cX5_hold 17 = .ok (.iload_n 2, 1) := by decide +kernel
theorem dX5_hold_18 : decode cX5_hold 18 = .ok (.invokevirtual 59, 3) := by decide +kernel
theorem dX5_hold_21 : decode cX5_hold 21 = .ok (.invokevirtual 48, 3) := by decide +kernel
theorem dX5_hold_24 : decode cX5_hold 24 = .ok (.ireturn, 1) := by decide +kernel
theorem dX5_stick_0 : decode cX5_stick 0 = .ok (.aload_n 0, 1) := by decide +kernel
theorem dX5_stick_1 : decode cX5_stick 1 = .ok (.getfield 30, 3) := by decide +kernel
theorem dX5_stick_4 : decode cX5_stick 4 = .ok (.aload_n 0, 1) := by decide +kernel
theorem dX5_stick_5 : decode cX5_stick 5 = .ok (.getfield 10, 3) := by decide +kernel
theorem dX5_stick_8 : decode cX5_stick 8 = .ok (.invokevirtual 40, 3) := by decide +kernel
theorem dX5_stick_11 : decode cX5_stick 11 = .ok (.aload_n 0, 1) := by decide +kernel
theorem dX5_stick_12 : decode cX5_stick 12 = .ok (.aload_n 0, 1) := by decide +kernel
theorem dX5_stick_13 : decode cX5_stick 13 = .ok (.getfield 10, 3) := by decide +kernel
theorem dX5_stick_16 : decode cX5_stick 16 = .ok (.iload_n 1, 1) := by decide +kernel
theorem dX5_stick_17 : decode cX5_stick 17 = .ok (.iload_n 2, 1) := by decide +kernel
theorem dX5_stick_18 : decode cX5_stick 18 = .ok (.invokevirtual 62, 3) := by decide +kernel
theorem dX5_stick_21 : decode cX5_stick 21 = .ok (.invokevirtual 48, 3) := by decide +kernel
theorem dX5_stick_24 : decode cX5_stick 24 = .ok (.ireturn, 1) := by decide +kernel
theorem dX5_set_0 : decode cX5_set 0 = .ok (.aload_n 0, 1) := by decide +kernel
theorem dX5_set_1 : decode cX5_set 1 = .ok (.getfield 30, 3) := by decide +kernel
theorem dX5_set_4 : decode cX5_set 4 = .ok (.aload_n 0, 1) := by decide +kernel
theorem dX5_set_5 : decode cX5_set 5 = .ok (.getfield 10, 3) := by decide +kernel
theorem dX5_set_8 : decode cX5_set 8 = .ok (.invokevirtual 40, 3) := by decide +kernel
theorem dX5_set_11 : decode cX5_set 11 = .ok (.aload_n 0, 1) := by decide +kernel
theorem dX5_set_12 : decode cX5_set 12 = .ok (.aload_n 0, 1) := by decide +kernel
theorem dX5_set_13 : decode cX5_set 13 = .ok (.getfield 10, 3) := by decide +kernel
theorem dX5_set_16 : decode cX5_set 16 = .ok (.iload_n 1, 1) := by decide +kernel
theorem dX5_set_17 : decode cX5_set 17 = .ok (.iload_n 2, 1) := by decide +kernel
theorem dX5_set_18 : decode cX5_set 18 = .ok (.invokevirtual 65, 3) := by decide +kernel
theorem dX5_set_21 : decode cX5_set 21 = .ok (.invokevirtual 48, 3) := by decide +kernel
theorem dX5_set_24 : decode cX5_set 24 = .ok (.ireturn, 1) := by decide +kernel
theorem dX5_run_0 : decode cX5_run 0 = .ok (.aload_n 0, 1) := by decide +kernel
theorem dX5_run_1 : decode cX5_run 1 = .ok (.getfield 30, 3) := by decide +kernel
theorem dX5_run_4 : decode cX5_run 4 = .ok (.aload_n 0, 1) := by decide +kernel
theorem dX5_run_5 : decode cX5_run 5 = .ok (.getfield 10, 3) := by decide +kernel
theorem dX5_run_8 : decode cX5_run 8 = .ok (.invokevirtual 40, 3) := by decide +kernel
theorem dX5_run_11 : decode cX5_run 11 = .ok (.aload_n 0, 1) := by decide +kernel
theorem dX5_run_12 : decode cX5_run 12 = .ok (.aload_n 0, 1) := by decide +kernel
theorem dX5_run_13 : decode cX5_run 13 = .ok (.getfield 10, 3) := by decide +kernel
theorem dX5_run_16 : decode cX5_run 16 = .ok (.iload_n 1, 1) := by decide +kernel
theorem dX5_run_17 : decode cX5_run 17 = .ok (.invokevirtual 68, 3) := by decide +kernel
theorem dX5_run_20 : decode cX5_run 20 = .ok (.invokevirtual 48, 3) := by decide +kernel
theorem dX5_run_23 : decode cX5_run 23 = .ok (.ireturn, 1) := by decide +kernel
theorem dX5_undo_0 : decode cX5_undo 0 = .ok (.aload_n 0, 1) := by decide +kernel
theorem dX5_undo_1 : decode cX5_undo 1 = .ok (.getfield 95, 3) := by decide +kernel
theorem dX5_undo_4 : decode cX5_undo 4 = .ok (.iconst 1, 1) := by decide +kernel
theorem dX5_undo_5 : decode cX5_undo 5 = .ok (.if_icmp .lt 15, 3) := by decide +kernel
theorem dX5_undo_8 : decode cX5_undo 8 = .ok (.aload_n 0, 1) := by decide +kernel
theorem dX5_undo_9 : decode cX5_undo 9 = .ok (.getfield 95, 3) := by decide +kernel
theorem dX5_undo_12 : decode cX5_undo 12 = .ok (.aload_n 0, 1) := by decide +kernel
theorem dX5_undo_13 : decode cX5_undo 13 = .ok (.getfield 19, 3) := by decide +kernel
theorem dX5_undo_16 : decode cX5_undo 16 = .ok (.arraylength, 1) := by decide +kernel
theorem dX5_undo_17 : decode cX5_undo 17 = .ok (.if_icmp .le 6, 3) := by decide +kernel
theorem dX5_undo_20 : decode cX5_undo 20 = .ok (.bipush (-5), 2) := by decide +kernel
theorem dX5_undo_22 : decode cX5_undo 22 = .ok (.ireturn, 1) := by decide +kernel
theorem dX5_undo_23 : decode cX5_undo 23 = .ok (.aload_n 0, 1) := by decide +kernel
theorem dX5_undo_24 : decode cX5_undo 24 = .ok (.dup, 1) := by decide +kernel
theorem dX5_undo_25 : decode cX5_undo 25 = .ok (.getfield 95, 3) := by decide +kernel
theorem dX5_undo_28 : decode cX5_undo 28 = .ok (.iconst 1, 1) := by decide +kernel
theorem dX5_undo_29 : decode cX5_undo 29 = .ok (.isub, 1) := by decide +kernel
theorem dX5_undo_30 : decode cX5_undo 30 = .ok (.putfield 95, 3) := by decide +kernel
theorem dX5_undo_33 : decode cX5_undo 33 = .ok (.aload_n 0, 1) := by decide +kernel
theorem dX5_undo_34 : decode cX5_undo 34 = .ok (.getfield 10, 3) := by decide +kernel
theorem dX5_undo_37 : decode cX5_undo 37 = .ok (.aload_n 0, 1) := by decide +kernel
theorem dX5_undo_38 : decode cX5_undo 38 = .ok (.getfield 19, 3) := by decide +kernel
theorem dX5_undo_41 : decode cX5_undo 41 = .ok (.aload_n 0, 1) := by decide +kernel
theorem dX5_undo_42 : decode cX5_undo 42 = .ok (.getfield 95, 3) := by decide +kernel
theorem dX5_undo_45 : decode cX5_undo 45 = .ok (.aaload, 1) := by decide +kernel
theorem dX5_undo_46 : decode cX5_undo 46 = .ok (.invokevirtual 40, 3) := by decide +kernel
theorem dX5_undo_49 : decode cX5_undo 49 = .ok (.aload_n 0, 1) := by decide +kernel
theorem dX5_undo_50 : decode cX5_undo 50 = .ok (.getfield 95, 3) := by decide +kernel
theorem dX5_undo_53 : decode cX5_undo 53 = .ok (.ireturn, 1) := by decide +kernel
theorem dX5_speaker_0 : decode cX5_speaker 0 = .ok (.aload_n 0, 1) := by decide +kernel
theorem dX5_speaker_1 : decode cX5_speaker 1 = .ok (.getfield 10, 3) := by decide +kernel
theorem dX5_speaker_4 : decode cX5_speaker 4 = .ok (.iload_n 1, 1) := by decide +kernel
theorem dX5_speaker_5 : decode cX5_speaker 5 = .ok (.invokevirtual 105, 3) := by decide +kernel
theorem dX5_speaker_8 : decode cX5_speaker 8 = .ok (.astore_n 3, 1) := by decide +kernel
theorem dX5_speaker_9 : decode cX5_speaker 9 = .ok (.aload_n 3, 1) := by decide +kernel
theorem dX5_speaker_10 : decode cX5_speaker 10 = .ok (.ifnonnull 5, 3) := by decide +kernel
theorem dX5_speaker_13 : decode cX5_speaker 13 = .ok (.iconst (-1), 1) := by decide +kernel
theorem dX5_speaker_14 : decode cX5_speaker 14 = .ok (.ireturn, 1) := by decide +kernel
theorem dX5_speaker_15 : decode cX5_speaker 15 = .ok (.iload_n 2, 1) := by decide +kernel
theorem dX5_speaker_16 : decode cX5_speaker 16 = .ok (.tableswitch 87 0 6 #[44, 49, 62, 67, 72, 77, 82], 44) := by decide +kernel
theorem dX5_speaker_60 : decode cX5_speaker 60 = .ok (.aload_n 3, 1) := by decide +kernel
theorem dX5_speaker_61 : decode cX5_speaker 61 = .ok (.getfield 109, 3) := by decide +kernel
theorem dX5_speaker_64 : decode cX5_speaker 64 = .ok (.ireturn, 1) := by decide +kernel
theorem dX5_speaker_65 : decode cX5_speaker 65 = .ok (.aload_n 3, 1) := by decide +kernel
theorem dX5_speaker_66 : decode cX5_speaker 66 = .ok (.getfield 114, 3) := by decide +kernel
theorem dX5_speaker_69 : decode cX5_speaker 69 = .ok (.ifCond .eq 7, 3) := by decide +kernel
theorem dX5_speaker_72 : decode cX5_speaker 72 = .ok (.iconst 1, 1) := by decide +kernel
theorem dX5_speaker_73 : decode cX5_speaker 73 = .ok (.goto 4, 3) := by decide +kernel
theorem dX5_speaker_76 : decode cX5_speaker 76 = .ok (.iconst 0, 1) := by decide +kernel
theorem dX5_speaker_77 : decode cX5_speaker 77 = .ok (.ireturn, 1) := by decide +kernel
theorem dX5_speaker_78 : decode cX5_speaker 78 = .ok (.aload_n 3, 1) := by decide +kernel
theorem dX5_speaker_79 : decode cX5_speaker 79 = .ok (.getfield 117, 3) := by decide +kernel
theorem dX5_speaker_82 : decode cX5_speaker 82 = .ok (.ireturn, 1) := by decide +kernel
theorem dX5_speaker_83 : decode cX5_speaker 83 = .ok (.aload_n 3, 1) := by decide +kernel
theorem dX5_speaker_84 : decode cX5_speaker 84 = .ok (.getfield 120, 3) := by decide +kernel
theorem dX5_speaker_87 : decode cX5_speaker 87 = .ok (.ireturn, 1) := by decide +kernel
theorem dX5_speaker_88 : decode cX5_speaker 88 = .ok (.aload_n 3, 1) := by decide +kernel
theorem dX5_speaker_89 : decode cX5_speaker 89 = .ok (.getfield 123, 3) := by decide +kernel
theorem dX5_speaker_92 : decode cX5_speaker 92 = .ok (.ireturn, 1) := by decide +kernel
theorem dX5_speaker_93 : decode cX5_speaker 93 = .ok (.aload_n 3, 1) := by decide +kernel
theorem dX5_speaker_94 : decode cX5_speaker 94 = .ok (.getfield 126, 3) := by decide +kernel
theorem dX5_speaker_97 : decode cX5_speaker 97 = .ok (.ireturn, 1) := by decide +kernel
theorem dX5_speaker_98 : decode cX5_speaker 98 = .ok (.aload_n 3, 1) := by decide +kernel
theorem dX5_speaker_99 : decode cX5_speaker 99 = .ok (.getfield 129, 3) := by decide +kernel
theorem dX5_speaker_102 : decode cX5_speaker 102 = .ok (.ireturn, 1) := by decide +kernel
theorem dX5_speaker_103 : decode cX5_speaker 103 = .ok (.bipush (-2), 2) := by decide +kernel
theorem dX5_speaker_105 : decode cX5_speaker 105 = .ok (.ireturn, 1) := by decide +kernel
theorem dX5_message_0 : decode cX5_message 0 = .ok (.aload_n 0, 1) := by decide +kernel
theorem dX5_message_1 : decode cX5_message 1 = .ok (.getfield 10, 3) := by decide +kernel
theorem dX5_message_4 : decode cX5_message 4 = .ok (.iload_n 1, 1) := by decide +kernel
theorem dX5_message_5 : decode cX5_message 5 = .ok (.invokevirtual 105, 3) := by decide +kernel
theorem dX5_message_8 : decode cX5_message 8 = .ok (.astore 4, 2) := by decide +kernel
theorem dX5_message_10 : decode cX5_message 10 = .ok (.aload 4, 2) := by decide +kernel
theorem dX5_message_12 : decode cX5_message 12 = .ok (.ifnull 15, 3) := by decide +kernel
theorem dX5_message_15 : decode cX5_message 15 = .ok (.iload_n 2, 1) := by decide +kernel
theorem dX5_message_16 : decode cX5_message 16 = .ok (.aload 4, 2) := by decide +kernel
theorem dX5_message_18 : decode cX5_message 18 = .ok (.getfield 109, 3) := by decide +kernel
theorem dX5_message_21 : decode cX5_message 21 = .ok (.invokestatic 132, 3) := by decide +kernel
theorem dX5_message_24 : decode cX5_message 24 = .ok (.ifCond .ne 5, 3) := by decide +kernel
theorem dX5_message_27 : decode cX5_message 27 = .ok (.iconst (-1), 1) := by decide +kernel
theorem dX5_message_28 : decode cX5_message 28 = .ok (.ireturn, 1) := by decide +kernel
theorem dX5_message_29 : decode cX5_message 29 = .ok (.iload_n 3, 1) := by decide +kernel
theorem dX5_message_30 : decode cX5_message 30 = .ok (.tableswitch 97 0 4 #[34, 44, 52, 60, 70], 34) := by decide +kernel
theorem dX5_message_64 : decode cX5_message 64 = .ok (.aload 4, 2) := by decide +kernel
theorem dX5_message_66 : decode cX5_message 66 = .ok (.iload_n 2, 1) := by decide +kernel
theorem dX5_message_67 : decode cX5_message 67 = .ok (.iconst 0, 1) := by decide +kernel
theorem dX5_message_68 : decode cX5_message 68 = .ok (.invokevirtual 136, 3) := by decide +kernel
theorem dX5_message_71 : decode cX5_message 71 = .ok (.iconst 1, 1) := by decide +kernel
theorem dX5_message_72 : decode cX5_message 72 = .ok (.ishr, 1) := by decide +kernel
theorem dX5_message_73 : decode cX5_message 73 = .ok (.ireturn, 1) := by decide +kernel
theorem dX5_message_74 : decode cX5_message 74 = .ok (.aload 4, 2) := by decide +kernel
theorem dX5_message_76 : decode cX5_message 76 = .ok (.iload_n 2, 1) := by decide +kernel
theorem dX5_message_77 : decode cX5_message 77 = .ok (.iconst 1, 1) := by decide +kernel
theorem dX5_message_78 : decode cX5_message 78 = .ok (.invokevirtual 136, 3) := by decide +kernel
theorem dX5_message_81 : decode cX5_message 81 = .ok (.ireturn, 1) := by decide +kernel
theorem dX5_message_82 : decode cX5_message 82 = .ok (.aload 4, 2) := by decide +kernel
theorem dX5_message_84 : decode cX5_message 84 = .ok (.iload_n 2, 1) := by decide +kernel
theorem dX5_message_85 : decode cX5_message 85 = .ok (.iconst 2, 1) := by decide +kernel
theorem dX5_message_86 : decode cX5_message 86 = .ok (.invokevirtual 136, 3) := by decide +kernel
theorem dX5_message_89 : decode cX5_message 89 = .ok (.ireturn, 1) := by decide +kernel
theorem dX5_message_90 : decode cX5_message 90 = .ok (.aload 4, 2) := by decide +kernel
theorem dX5_message_92 : decode cX5_message 92 = .ok (.iload_n 2, 1) := by decide +kernel
theorem dX5_message_93 : decode cX5_message 93 = .ok (.invokevirtual 139, 3) := by decide +kernel
theorem dX5_message_96 : decode cX5_message 96 = .ok (.bipush 9, 2) := by decide +kernel
theorem dX5_message_98 : decode cX5_message 98 = .ok (.imul, 1) := by decide +kernel
theorem dX5_message_99 : decode cX5_message 99 = .ok (.ireturn, 1) := by decide +kernel
theorem dX5_message_100 : decode cX5_message 100 = .ok (.aload 4, 2) := by decide +kernel
theorem dX5_message_102 : decode cX5_message 102 = .ok (.iload_n 2, 1) := by decide +kernel
theorem dX5_message_103 : decode cX5_message 103 = .ok (.invokevirtual 139, 3) := by decide +kernel
theorem dX5_message_106 : decode cX5_message 106 = .ok (.bipush 9, 2) := by decide +kernel
theorem dX5_message_108 : decode cX5_message 108 = .ok (.aload_n 0, 1) := by decide +kernel
theorem dX5_message_109 : decode cX5_message 109 = .ok (.getfield 10, 3) := by decide +kernel
