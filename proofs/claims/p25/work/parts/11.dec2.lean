theorem dX5_message_112 : decode cX5_message 112 = .ok (.aload 4, 2) := by decide +kernel
theorem dX5_message_114 : decode cX5_message 114 = .ok (.iload_n 2, 1) := by decide +kernel
theorem dX5_message_115 : decode cX5_message 115 = .ok (.iconst 0, 1) := by decide +kernel
theorem dX5_message_116 : decode cX5_message 116 = .ok (.invokevirtual 136, 3) := by decide +kernel
theorem dX5_message_119 : decode cX5_message 119 = .ok (.iconst 1, 1) := by decide +kernel
theorem dX5_message_120 : decode cX5_message 120 = .ok (.ishr, 1) := by decide +kernel
theorem dX5_message_121 : decode cX5_message 121 = .ok (.invokevirtual 142, 3) := by decide +kernel
theorem dX5_message_124 : decode cX5_message 124 = .ok (.iadd, 1) := by decide +kernel
theorem dX5_message_125 : decode cX5_message 125 = .ok (.imul, 1) := by decide +kernel
theorem dX5_message_126 : decode cX5_message 126 = .ok (.ireturn, 1) := by decide +kernel
theorem dX5_message_127 : decode cX5_message 127 = .ok (.bipush (-2), 2) := by decide +kernel
theorem dX5_message_129 : decode cX5_message 129 = .ok (.ireturn, 1) := by decide +kernel
theorem dX5_listener_0 : decode cX5_listener 0 = .ok (.aload_n 0, 1) := by decide +kernel
theorem dX5_listener_1 : decode cX5_listener 1 = .ok (.getfield 10, 3) := by decide +kernel
theorem dX5_listener_4 : decode cX5_listener 4 = .ok (.iload_n 1, 1) := by decide +kernel
theorem dX5_listener_5 : decode cX5_listener 5 = .ok (.invokevirtual 145, 3) := by decide +kernel
theorem dX5_listener_8 : decode cX5_listener 8 = .ok (.astore_n 3, 1) := by decide +kernel
theorem dX5_listener_9 : decode cX5_listener 9 = .ok (.aload_n 3, 1) := by decide +kernel
theorem dX5_listener_10 : decode cX5_listener 10 = .ok (.ifnonnull 5, 3) := by decide +kernel
theorem dX5_listener_13 : decode cX5_listener 13 = .ok (.iconst (-1), 1) := by decide +kernel
theorem dX5_listener_14 : decode cX5_listener 14 = .ok (.ireturn, 1) := by decide +kernel
theorem dX5_listener_15 : decode cX5_listener 15 = .ok (.iload_n 2, 1) := by decide +kernel
theorem dX5_listener_16 : decode cX5_listener 16 = .ok (.tableswitch 61 0 4 #[36, 41, 46, 51, 56], 36) := by decide +kernel
theorem dX5_listener_52 : decode cX5_listener 52 = .ok (.aload_n 3, 1) := by decide +kernel
theorem dX5_listener_53 : decode cX5_listener 53 = .ok (.getfield 149, 3) := by decide +kernel
theorem dX5_listener_56 : decode cX5_listener 56 = .ok (.ireturn, 1) := by decide +kernel
theorem dX5_listener_57 : decode cX5_listener 57 = .ok (.aload_n 3, 1) := by decide +kernel
theorem dX5_listener_58 : decode cX5_listener 58 = .ok (.getfield 154, 3) := by decide +kernel
theorem dX5_listener_61 : decode cX5_listener 61 = .ok (.ireturn, 1) := by decide +kernel
theorem dX5_listener_62 : decode cX5_listener 62 = .ok (.aload_n 3, 1) := by decide +kernel
theorem dX5_listener_63 : decode cX5_listener 63 = .ok (.getfield 157, 3) := by decide +kernel
theorem dX5_listener_66 : decode cX5_listener 66 = .ok (.ireturn, 1) := by decide +kernel
theorem dX5_listener_67 : decode cX5_listener 67 = .ok (.aload_n 3, 1) := by decide +kernel
theorem dX5_listener_68 : decode cX5_listener 68 = .ok (.getfield 160, 3) := by decide +kernel
theorem dX5_listener_71 : decode cX5_listener 71 = .ok (.ireturn, 1) := by decide +kernel
theorem dX5_listener_72 : decode cX5_listener 72 = .ok (.aload_n 3, 1) := by decide +kernel
theorem dX5_listener_73 : decode cX5_listener 73 = .ok (.getfield 163, 3) := by decide +kernel
theorem dX5_listener_76 : decode cX5_listener 76 = .ok (.ireturn, 1) := by decide +kernel
theorem dX5_listener_77 : decode cX5_listener 77 = .ok (.bipush (-2), 2) := by decide +kernel
theorem dX5_listener_79 : decode cX5_listener 79 = .ok (.ireturn, 1) := by decide +kernel
theorem dX5_bit_0 : decode cX5_bit 0 = .ok (.aload_n 0, 1) := by decide +kernel
theorem dX5_bit_1 : decode cX5_bit 1 = .ok (.getfield 10, 3) := by decide +kernel
theorem dX5_bit_4 : decode cX5_bit 4 = .ok (.getfield 166, 3) := by decide +kernel
theorem dX5_bit_7 : decode cX5_bit 7 = .ok (.iload_n 1, 1) := by decide +kernel
theorem dX5_bit_8 : decode cX5_bit 8 = .ok (.iload_n 2, 1) := by decide +kernel
theorem dX5_bit_9 : decode cX5_bit 9 = .ok (.invokevirtual 170, 3) := by decide +kernel
theorem dX5_bit_12 : decode cX5_bit 12 = .ok (.ireturn, 1) := by decide +kernel
theorem dX5_winners_0 : decode cX5_winners 0 = .ok (.aload_n 0, 1) := by decide +kernel
theorem dX5_winners_1 : decode cX5_winners 1 = .ok (.getfield 10, 3) := by decide +kernel
theorem dX5_winners_4 : decode cX5_winners 4 = .ok (.invokevirtual 175, 3) := by decide +kernel
theorem dX5_winners_7 : decode cX5_winners 7 = .ok (.istore_n 1, 1) := by decide +kernel
theorem dX5_winners_8 : decode cX5_winners 8 = .ok (.iconst 0, 1) := by decide +kernel
theorem dX5_winners_9 : decode cX5_winners 9 = .ok (.istore_n 2, 1) := by decide +kernel
theorem dX5_winners_10 : decode cX5_winners 10 = .ok (.iconst 0, 1) := by decide +kernel
theorem dX5_winners_11 : decode cX5_winners 11 = .ok (.istore_n 3, 1) := by decide +kernel
theorem dX5_winners_12 : decode cX5_winners 12 = .ok (.iload_n 3, 1) := by decide +kernel
theorem dX5_winners_13 : decode cX5_winners 13 = .ok (.bipush 27, 2) := by decide +kernel
theorem dX5_winners_15 : decode cX5_winners 15 = .ok (.if_icmp .ge 66, 3) := by decide +kernel
theorem dX5_winners_18 : decode cX5_winners 18 = .ok (.iload_n 3, 1) := by decide +kernel
theorem dX5_winners_19 : decode cX5_winners 19 = .ok (.invokestatic 178, 3) := by decide +kernel
theorem dX5_winners_22 : decode cX5_winners 22 = .ok (.ifCond .eq 29, 3) := by decide +kernel
theorem dX5_winners_25 : decode cX5_winners 25 = .ok (.aload_n 0, 1) := by decide +kernel
theorem dX5_winners_26 : decode cX5_winners 26 = .ok (.getfield 10, 3) := by decide +kernel
theorem dX5_winners_29 : decode cX5_winners 29 = .ok (.iload_n 1, 1) := by decide +kernel
theorem dX5_winners_30 : decode cX5_winners 30 = .ok (.iload_n 3, 1) := by decide +kernel
theorem dX5_winners_31 : decode cX5_winners 31 = .ok (.invokevirtual 182, 3) := by decide +kernel
theorem dX5_winners_34 : decode cX5_winners 34 = .ok (.istore 4, 2) := by decide +kernel
theorem dX5_winners_36 : decode cX5_winners 36 = .ok (.iload_n 2, 1) := by decide +kernel
theorem dX5_winners_37 : decode cX5_winners 37 = .ok (.iload 4, 2) := by decide +kernel
theorem dX5_winners_39 : decode cX5_winners 39 = .ok (.ior, 1) := by decide +kernel
theorem dX5_winners_40 : decode cX5_winners 40 = .ok (.istore_n 2, 1) := by decide +kernel
theorem dX5_winners_41 : decode cX5_winners 41 = .ok (.iload_n 1, 1) := by decide +kernel
theorem dX5_winners_42 : decode cX5_winners 42 = .ok (.iload 4, 2) := by decide +kernel
theorem dX5_winners_44 : decode cX5_winners 44 = .ok (.iconst (-1), 1) := by decide +kernel
theorem dX5_winners_45 : decode cX5_winners 45 = .ok (.ixor, 1) := by decide +kernel
theorem dX5_winners_46 : decode cX5_winners 46 = .ok (.iand, 1) := by decide +kernel
theorem dX5_winners_47 : decode cX5_winners 47 = .ok (.istore_n 1, 1) := by decide +kernel
theorem dX5_winners_48 : decode cX5_winners 48 = .ok (.goto 27, 3) := by decide +kernel
theorem dX5_winners_51 : decode cX5_winners 51 = .ok (.aload_n 0, 1) := by decide +kernel
theorem dX5_winners_52 : decode cX5_winners 52 = .ok (.getfield 10, 3) := by decide +kernel
theorem dX5_winners_55 : decode cX5_winners 55 = .ok (.iload_n 1, 1) := by decide +kernel
theorem dX5_winners_56 : decode cX5_winners 56 = .ok (.iload_n 3, 1) := by decide +kernel
theorem dX5_winners_57 : decode cX5_winners 57 = .ok (.iconst 0, 1) := by decide +kernel
theorem dX5_winners_58 : decode cX5_winners 58 = .ok (.invokevirtual 185, 3) := by decide +kernel
theorem dX5_winners_61 : decode cX5_winners 61 = .ok (.istore 4, 2) := by decide +kernel
theorem dX5_winners_63 : decode cX5_winners 63 = .ok (.iload 4, 2) := by decide +kernel
theorem dX5_winners_65 : decode cX5_winners 65 = .ok (.ifCond .ne 7, 3) := by decide +kernel
theorem dX5_winners_68 : decode cX5_winners 68 = .ok (.iload_n 1, 1) := by decide +kernel
theorem dX5_winners_69 : decode cX5_winners 69 = .ok (.goto 5, 3) := by decide +kernel
theorem dX5_winners_72 : decode cX5_winners 72 = .ok (.iload 4, 2) := by decide +kernel
theorem dX5_winners_74 : decode cX5_winners 74 = .ok (.istore_n 1, 1) := by decide +kernel
theorem dX5_winners_75 : decode cX5_winners 75 = .ok (.iinc 3 1, 3) := by decide +kernel
theorem dX5_winners_78 : decode cX5_winners 78 = .ok (.goto (-66), 3) := by decide +kernel
theorem dX5_winners_81 : decode cX5_winners 81 = .ok (.iload_n 2, 1) := by decide +kernel
theorem dX5_winners_82 : decode cX5_winners 82 = .ok (.ireturn, 1) := by decide +kernel
theorem dX5_emptyIn_0 : decode cX5_emptyIn 0 = .ok (.aload_n 0, 1) := by decide +kernel
theorem dX5_emptyIn_1 : decode cX5_emptyIn 1 = .ok (.getfield 30, 3) := by decide +kernel
theorem dX5_emptyIn_4 : decode cX5_emptyIn 4 = .ok (.aload_n 0, 1) := by decide +kernel
theorem dX5_emptyIn_5 : decode cX5_emptyIn 5 = .ok (.getfield 10, 3) := by decide +kernel
theorem dX5_emptyIn_8 : decode cX5_emptyIn 8 = .ok (.invokevirtual 40, 3) := by decide +kernel
theorem dX5_emptyIn_11 : decode cX5_emptyIn 11 = .ok (.iconst 0, 1) := by decide +kernel
theorem dX5_emptyIn_12 : decode cX5_emptyIn 12 = .ok (.istore_n 1, 1) := by decide +kernel
theorem dX5_emptyIn_13 : decode cX5_emptyIn 13 = .ok (.iload_n 1, 1) := by decide +kernel
theorem dX5_emptyIn_14 : decode cX5_emptyIn 14 = .ok (.sipush 1000, 3) := by decide +kernel
theorem dX5_emptyIn_17 : decode cX5_emptyIn 17 = .ok (.if_icmp .gt 28, 3) := by decide +kernel
theorem dX5_emptyIn_20 : decode cX5_emptyIn 20 = .ok (.aload_n 0, 1) := by decide +kernel
theorem dX5_emptyIn_21 : decode cX5_emptyIn 21 = .ok (.getfield 30, 3) := by decide +kernel
theorem dX5_emptyIn_24 : decode cX5_emptyIn 24 = .ok (.invokevirtual 189, 3) := by decide +kernel
theorem dX5_emptyIn_27 : decode cX5_emptyIn 27 = .ok (.ifCond .ne 5, 3) := by decide +kernel
theorem dX5_emptyIn_30 : decode cX5_emptyIn 30 = .ok (.iload_n 1, 1) := by decide +kernel
theorem dX5_emptyIn_31 : decode cX5_emptyIn 31 = .ok (.ireturn, 1) := by decide +kernel
theorem dX5_emptyIn_32 : decode cX5_emptyIn 32 = .ok (.aload_n 0, 1) := by decide +kernel
theorem dX5_emptyIn_33 : decode cX5_emptyIn 33 = .ok (.getfield 30, 3) := by decide +kernel
theorem dX5_emptyIn_36 : decode cX5_emptyIn 36 = .ok (.invokevirtual 192, 3) := by decide +kernel
theorem dX5_emptyIn_39 : decode cX5_emptyIn 39 = .ok (.iinc 1 1, 3) := by decide +kernel
theorem dX5_emptyIn_42 : decode cX5_emptyIn 42 = .ok (.goto (-29), 3) := by decide +kernel
theorem dX5_emptyIn_45 : decode cX5_emptyIn 45 = .ok (.bipush (-5), 2) := by decide +kernel
theorem dX5_emptyIn_47 : decode cX5_emptyIn 47 = .ok (.ireturn, 1) := by decide +kernel
theorem dX5_ifRun_0 : decode cX5_ifRun 0 = .ok (.iload_n 1, 1) := by decide +kernel
theorem dX5_ifRun_1 : decode cX5_ifRun 1 = .ok (.iconst 4, 1) := by decide +kernel
theorem dX5_ifRun_2 : decode cX5_ifRun 2 = .ok (.invokestatic 132, 3) := by decide +kernel
theorem dX5_ifRun_5 : decode cX5_ifRun 5 = .ok (.ifCond .ne 5, 3) := by decide +kernel
theorem dX5_ifRun_8 : decode cX5_ifRun 8 = .ok (.iconst (-1), 1) := by decide +kernel
theorem dX5_ifRun_9 : decode cX5_ifRun 9 = .ok (.ireturn, 1) := by decide +kernel
theorem dX5_ifRun_10 : decode cX5_ifRun 10 = .ok (.iload_n 2, 1) := by decide +kernel
theorem dX5_ifRun_11 : decode cX5_ifRun 11 = .ok (.iconst 1, 1) := by decide +kernel
theorem dX5_ifRun_12 : decode cX5_ifRun 12 = .ok (.if_icmp .lt 10, 3) := by decide +kernel
theorem dX5_ifRun_15 : decode cX5_ifRun 15 = .ok (.iload_n 2, 1) := by decide +kernel
theorem dX5_ifRun_16 : decode cX5_ifRun 16 = .ok (.sipush 300, 3) := by decide +kernel
theorem dX5_ifRun_19 : decode cX5_ifRun 19 = .ok (.if_icmp .le 6, 3) := by decide +kernel
theorem dX5_ifRun_22 : decode cX5_ifRun 22 = .ok (.bipush (-2), 2) := by decide +kernel
theorem dX5_ifRun_24 : decode cX5_ifRun 24 = .ok (.ireturn, 1) := by decide +kernel
theorem dX5_ifRun_25 : decode cX5_ifRun 25 = .ok (.aload_n 0, 1) := by decide +kernel
theorem dX5_ifRun_26 : decode cX5_ifRun 26 = .ok (.getfield 30, 3) := by decide +kernel
theorem dX5_ifRun_29 : decode cX5_ifRun 29 = .ok (.aload_n 0, 1) := by decide +kernel
theorem dX5_ifRun_30 : decode cX5_ifRun 30 = .ok (.getfield 10, 3) := by decide +kernel
theorem dX5_ifRun_33 : decode cX5_ifRun 33 = .ok (.invokevirtual 40, 3) := by decide +kernel
theorem dX5_ifRun_36 : decode cX5_ifRun 36 = .ok (.aload_n 0, 1) := by decide +kernel
theorem dX5_ifRun_37 : decode cX5_ifRun 37 = .ok (.getfield 30, 3) := by decide +kernel
theorem dX5_ifRun_40 : decode cX5_ifRun 40 = .ok (.iload_n 1, 1) := by decide +kernel
theorem dX5_ifRun_41 : decode cX5_ifRun 41 = .ok (.invokevirtual 195, 3) := by decide +kernel
theorem dX5_ifRun_44 : decode cX5_ifRun 44 = .ok (.istore_n 3, 1) := by decide +kernel
theorem dX5_ifRun_45 : decode cX5_ifRun 45 = .ok (.iconst 0, 1) := by decide +kernel
theorem dX5_ifRun_46 : decode cX5_ifRun 46 = .ok (.istore 4, 2) := by decide +kernel
theorem dX5_ifRun_48 : decode cX5_ifRun 48 = .ok (.iload 4, 2) := by decide +kernel
theorem dX5_ifRun_50 : decode cX5_ifRun 50 = .ok (.iload_n 2, 1) := by decide +kernel
theorem dX5_ifRun_51 : decode cX5_ifRun 51 = .ok (.if_icmp .ge 16, 3) := by decide +kernel
theorem dX5_ifRun_54 : decode cX5_ifRun 54 = .ok (.aload_n 0, 1) := by decide +kernel
theorem dX5_ifRun_55 : decode cX5_ifRun 55 = .ok (.getfield 30, 3) := by decide +kernel
theorem dX5_ifRun_58 : decode cX5_ifRun 58 = .ok (.invokevirtual 192, 3) := by decide +kernel
theorem dX5_ifRun_61 : decode cX5_ifRun 61 = .ok (.iinc 4 1, 3) := by decide +kernel
theorem dX5_ifRun_64 : decode cX5_ifRun 64 = .ok (.goto (-16), 3) := by decide +kernel
theorem dX5_ifRun_67 : decode cX5_ifRun 67 = .ok (.aload_n 0, 1) := by decide +kernel
theorem dX5_ifRun_68 : decode cX5_ifRun 68 = .ok (.getfield 30, 3) := by decide +kernel
theorem dX5_ifRun_71 : decode cX5_ifRun 71 = .ok (.iload_n 1, 1) := by decide +kernel
theorem dX5_ifRun_72 : decode cX5_ifRun 72 = .ok (.invokevirtual 195, 3) := by decide +kernel
theorem dX5_ifRun_75 : decode cX5_ifRun 75 = .ok (.iload_n 3, 1) := by decide +kernel
theorem dX5_ifRun_76 : decode cX5_ifRun 76 = .ok (.isub, 1) := by decide +kernel
theorem dX5_ifRun_77 : decode cX5_ifRun 77 = .ok (.ireturn, 1) := by decide +kernel
theorem dX5_count_0 : decode cX5_count 0 = .ok (.iload_n 1, 1) := by decide +kernel
theorem dX5_count_1 : decode cX5_count 1 = .ok (.tableswitch 210 0 15 #[79, 87, 98, 106, 114, 122, 130, 138, 146, 154, 162, 170, 179, 188, 197, 202], 79) := by decide +kernel
theorem dX5_count_80 : decode cX5_count 80 = .ok (.aload_n 0, 1) := by decide +kernel
theorem dX5_count_81 : decode cX5_count 81 = .ok (.getfield 10, 3) := by decide +kernel
theorem dX5_count_84 : decode cX5_count 84 = .ok (.getfield 102, 3) := by decide +kernel
theorem dX5_count_87 : decode cX5_count 87 = .ok (.ireturn, 1) := by decide +kernel
theorem dX5_count_88 : decode cX5_count 88 = .ok (.aload_n 0, 1) := by decide +kernel
theorem dX5_count_89 : decode cX5_count 89 = .ok (.getfield 10, 3) := by decide +kernel
theorem dX5_count_92 : decode cX5_count 92 = .ok (.invokevirtual 198, 3) := by decide +kernel
theorem dX5_count_95 : decode cX5_count 95 = .ok (.invokestatic 201, 3) := by decide +kernel
theorem dX5_count_98 : decode cX5_count 98 = .ok (.ireturn, 1) := by decide +kernel
theorem dX5_count_99 : decode cX5_count 99 = .ok (.aload_n 0, 1) := by decide +kernel
theorem dX5_count_100 : decode cX5_count 100 = .ok (.getfield 10, 3) := by decide +kernel
theorem dX5_count_103 : decode cX5_count 103 = .ok (.invokevirtual 206, 3) := by decide +kernel
theorem dX5_count_106 : decode cX5_count 106 = .ok (.ireturn, 1) := by decide +kernel
theorem dX5_count_107 : decode cX5_count 107 = .ok (.aload_n 0, 1) := by decide +kernel
theorem dX5_count_108 : decode cX5_count 108 = .ok (.getfield 10, 3) := by decide +kernel
theorem dX5_count_111 : decode cX5_count 111 = .ok (.getfield 209, 3) := by decide +kernel
theorem dX5_count_114 : decode cX5_count 114 = .ok (.ireturn, 1) := by decide +kernel
theorem dX5_count_115 : decode cX5_count 115 = .ok (.aload_n 0, 1) := by decide +kernel
theorem dX5_count_116 : decode cX5_count 116 = .ok (.getfield 10, 3) := by decide +kernel
theorem dX5_count_119 : decode cX5_count 119 = .ok (.getfield 212, 3) := by decide +kernel
theorem dX5_count_122 : decode cX5_count 122 = .ok (.ireturn, 1) := by decide +kernel
theorem dX5_count_123 : decode cX5_count 123 = .ok (.aload_n 0, 1) := by decide +kernel
theorem dX5_count_124 : decode cX5_count 124 = .ok (.getfield 10, 3) := by decide +kernel
theorem dX5_count_127 : decode cX5_count 127 = .ok (.getfield 215, 3) := by decide +kernel
theorem dX5_count_130 : decode cX5_count 130 = .ok (.ireturn, 1) := by decide +kernel
theorem dX5_count_131 : decode cX5_count 131 = .ok (.aload_n 0, 1) := by decide +kernel
theorem dX5_count_132 : decode cX5_count 132 = .ok (.getfield 10, 3) := by decide +kernel
theorem dX5_count_135 : decode cX5_count 135 = .ok (.getfield 218, 3) := by decide +kernel
theorem dX5_count_138 : decode cX5_count 138 = .ok (.ireturn, 1) := by decide +kernel
theorem dX5_count_139 : decode cX5_count 139 = .ok (.aload_n 0, 1) := by decide +kernel
theorem dX5_count_140 : decode cX5_count 140 = .ok (.getfield 10, 3) := by decide +kernel
theorem dX5_count_143 : decode cX5_count 143 = .ok (.invokevirtual 189, 3) := by decide +kernel
theorem dX5_count_146 : decode cX5_count 146 = .ok (.ireturn, 1) := by decide +kernel
theorem dX5_count_147 : decode cX5_count 147 = .ok (.aload_n 0, 1) := by decide +kernel
theorem dX5_count_148 : decode cX5_count 148 = .ok (.getfield 10, 3) := by decide +kernel
theorem dX5_count_151 : decode cX5_count 151 = .ok (.invokevirtual 221, 3) := by decide +kernel
theorem dX5_count_154 : decode cX5_count 154 = .ok (.ireturn, 1) := by decide +kernel
theorem dX5_count_155 : decode cX5_count 155 = .ok (.aload_n 0, 1) := by decide +kernel
theorem dX5_count_156 : decode cX5_count 156 = .ok (.getfield 10, 3) := by decide +kernel
theorem dX5_count_159 : decode cX5_count 159 = .ok (.getfield 224, 3) := by decide +kernel
theorem dX5_count_162 : decode cX5_count 162 = .ok (.ireturn, 1) := by decide +kernel
theorem dX5_count_163 : decode cX5_count 163 = .ok (.aload_n 0, 1) := by decide +kernel
theorem dX5_count_164 : decode cX5_count 164 = .ok (.getfield 10, 3) := by decide +kernel
theorem dX5_count_167 : decode cX5_count 167 = .ok (.getfield 227, 3) := by decide +kernel
theorem dX5_count_170 : decode cX5_count 170 = .ok (.ireturn, 1) := by decide +kernel
theorem dX5_count_171 : decode cX5_count 171 = .ok (.aload_n 0, 1) := by decide +kernel
theorem dX5_count_172 : decode cX5_count 172 = .ok (.getfield 10, 3) := by decide +kernel
theorem dX5_count_175 : decode cX5_count 175 = .ok (.iconst 0, 1) := by decide +kernel
theorem dX5_count_176 : decode cX5_count 176 = .ok (.invokevirtual 230, 3) := by decide +kernel
theorem dX5_count_179 : decode cX5_count 179 = .ok (.ireturn, 1) := by decide +kernel
theorem dX5_count_180 : decode cX5_count 180 = .ok (.aload_n 0, 1) := by decide +kernel
theorem dX5_count_181 : decode cX5_count 181 = .ok (.getfield 10, 3) := by decide +kernel
theorem dX5_count_184 : decode cX5_count 184 = .ok (.iconst 1, 1) := by decide +kernel
theorem dX5_count_185 : decode cX5_count 185 = .ok (.invokevirtual 230, 3) := by decide +kernel
theorem dX5_count_188 : decode cX5_count 188 = .ok (.ireturn, 1) := by decide +kernel
theorem dX5_count_189 : decode cX5_count 189 = .ok (.aload_n 0, 1) := by decide +kernel
theorem dX5_count_190 : decode cX5_count 190 = .ok (.getfield 10, 3) := by decide +kernel
theorem dX5_count_193 : decode cX5_count 193 = .ok (.iconst 2, 1) := by decide +kernel
theorem dX5_count_194 : decode cX5_count 194 = .ok (.invokevirtual 230, 3) := by decide +kernel
theorem dX5_count_197 : decode cX5_count 197 = .ok (.ireturn, 1) := by decide +kernel
theorem dX5_count_198 : decode cX5_count 198 = .ok (.aload_n 0, 1) := by decide +kernel
theorem dX5_count_199 : decode cX5_count 199 = .ok (.getfield 95, 3) := by decide +kernel
theorem dX5_count_202 : decode cX5_count 202 = .ok (.ireturn, 1) := by decide +kernel
theorem dX5_count_203 : decode cX5_count 203 = .ok (.aload_n 0, 1) := by decide +kernel
theorem dX5_count_204 : decode cX5_count 204 = .ok (.getfield 26, 3) := by decide +kernel
theorem dX5_count_207 : decode cX5_count 207 = .ok (.getfield 233, 3) := by decide +kernel
theorem dX5_count_210 : decode cX5_count 210 = .ok (.ireturn, 1) := by decide +kernel
theorem dX5_count_211 : decode cX5_count 211 = .ok (.bipush (-2), 2) := by decide +kernel
theorem dX5_count_213 : decode cX5_count 213 = .ok (.ireturn, 1) := by decide +kernel
theorem dX5_recorded_0 : decode cX5_recorded 0 = .ok (.iload_n 1, 1) := by decide +kernel
theorem dX5_recorded_1 : decode cX5_recorded 1 = .ok (.ifCond .ge 5, 3) := by decide +kernel
theorem dX5_recorded_4 : decode cX5_recorded 4 = .ok (.iload_n 1, 1) := by decide +kernel
theorem dX5_recorded_5 : decode cX5_recorded 5 = .ok (.ireturn, 1) := by decide +kernel
theorem dX5_recorded_6 : decode cX5_recorded 6 = .ok (.aload_n 0, 1) := by decide +kernel
theorem dX5_recorded_7 : decode cX5_recorded 7 = .ok (.getfield 30, 3) := by decide +kernel
theorem dX5_recorded_10 : decode cX5_recorded 10 = .ok (.astore_n 2, 1) := by decide +kernel
theorem dX5_recorded_11 : decode cX5_recorded 11 = .ok (.aload_n 0, 1) := by decide +kernel
theorem dX5_recorded_12 : decode cX5_recorded 12 = .ok (.getfield 95, 3) := by decide +kernel
theorem dX5_recorded_15 : decode cX5_recorded 15 = .ok (.aload_n 0, 1) := by decide +kernel
theorem dX5_recorded_16 : decode cX5_recorded 16 = .ok (.getfield 19, 3) := by decide +kernel
theorem dX5_recorded_19 : decode cX5_recorded 19 = .ok (.arraylength, 1) := by decide +kernel
theorem dX5_recorded_20 : decode cX5_recorded 20 = .ok (.invokestatic 132, 3) := by decide +kernel
theorem dX5_recorded_23 : decode cX5_recorded 23 = .ok (.ifCond .eq 39, 3) := by decide +kernel
theorem dX5_recorded_26 : decode cX5_recorded 26 = .ok (.aload_n 0, 1) := by decide +kernel
theorem dX5_recorded_27 : decode cX5_recorded 27 = .ok (.aload_n 0, 1) := by decide +kernel
theorem dX5_recorded_28 : decode cX5_recorded 28 = .ok (.getfield 19, 3) := by decide +kernel
theorem dX5_recorded_31 : decode cX5_recorded 31 = .ok (.aload_n 0, 1) := by decide +kernel
theorem dX5_recorded_32 : decode cX5_recorded 32 = .ok (.getfield 95, 3) := by decide +kernel
theorem dX5_recorded_35 : decode cX5_recorded 35 = .ok (.aaload, 1) := by decide +kernel
theorem dX5_recorded_36 : decode cX5_recorded 36 = .ok (.putfield 30, 3) := by decide +kernel
theorem dX5_recorded_39 : decode cX5_recorded 39 = .ok (.aload_n 0, 1) := by decide +kernel
theorem dX5_recorded_40 : decode cX5_recorded 40 = .ok (.getfield 19, 3) := by decide +kernel
theorem dX5_recorded_43 : decode cX5_recorded 43 = .ok (.aload_n 0, 1) := by decide +kernel
theorem dX5_recorded_44 : decode cX5_recorded 44 = .ok (.getfield 95, 3) := by decide +kernel
theorem dX5_recorded_47 : decode cX5_recorded 47 = .ok (.aload_n 2, 1) := by decide +kernel
theorem dX5_recorded_48 : decode cX5_recorded 48 = .ok (.aastore, 1) := by decide +kernel
theorem dX5_recorded_49 : decode cX5_recorded 49 = .ok (.aload_n 0, 1) := by decide +kernel
theorem dX5_recorded_50 : decode cX5_recorded 50 = .ok (.dup, 1) := by decide +kernel
theorem dX5_recorded_51 : decode cX5_recorded 51 = .ok (.getfield 95, 3) := by decide +kernel
theorem dX5_recorded_54 : decode cX5_recorded 54 = .ok (.iconst 1, 1) := by decide +kernel
theorem dX5_recorded_55 : decode cX5_recorded 55 = .ok (.iadd, 1) := by decide +kernel
theorem dX5_recorded_56 : decode cX5_recorded 56 = .ok (.putfield 95, 3) := by decide +kernel
theorem dX5_recorded_59 : decode cX5_recorded 59 = .ok (.goto 57, 3) := by decide +kernel
theorem dX5_recorded_62 : decode cX5_recorded 62 = .ok (.aload_n 0, 1) := by decide +kernel
theorem dX5_recorded_63 : decode cX5_recorded 63 = .ok (.aload_n 0, 1) := by decide +kernel
theorem dX5_recorded_64 : decode cX5_recorded 64 = .ok (.getfield 19, 3) := by decide +kernel
theorem dX5_recorded_67 : decode cX5_recorded 67 = .ok (.iconst 0, 1) := by decide +kernel
theorem dX5_recorded_68 : decode cX5_recorded 68 = .ok (.aaload, 1) := by decide +kernel
theorem dX5_recorded_69 : decode cX5_recorded 69 = .ok (.putfield 30, 3) := by decide +kernel
theorem dX5_recorded_72 : decode cX5_recorded 72 = .ok (.iconst 1, 1) := by decide +kernel
theorem dX5_recorded_73 : decode cX5_recorded 73 = .ok (.istore_n 3, 1) := by decide +kernel
theorem dX5_recorded_74 : decode cX5_recorded 74 = .ok (.iload_n 3, 1) := by decide +kernel
theorem dX5_recorded_75 : decode cX5_recorded 75 = .ok (.aload_n 0, 1) := by decide +kernel
theorem dX5_recorded_76 : decode cX5_recorded 76 = .ok (.getfield 19, 3) := by decide +kernel
theorem dX5_recorded_79 : decode cX5_recorded 79 = .ok (.arraylength, 1) := by decide +kernel
theorem dX5_recorded_80 : decode cX5_recorded 80 = .ok (.if_icmp .ge 23, 3) := by decide +kernel
theorem dX5_recorded_83 : decode cX5_recorded 83 = .ok (.aload_n 0, 1) := by decide +kernel
theorem dX5_recorded_84 : decode cX5_recorded 84 = .ok (.getfield 19, 3) := by decide +kernel
theorem dX5_recorded_87 : decode cX5_recorded 87 = .ok (.iload_n 3, 1) := by decide +kernel
theorem dX5_recorded_88 : decode cX5_recorded 88 = .ok (.iconst 1, 1) := by decide +kernel
theorem dX5_recorded_89 : decode cX5_recorded 89 = .ok (.isub, 1) := by decide +kernel
theorem dX5_recorded_90 : decode cX5_recorded 90 = .ok (.aload_n 0, 1) := by decide +kernel
theorem dX5_recorded_91 : decode cX5_recorded 91 = .ok (.getfield 19, 3) := by decide +kernel
theorem dX5_recorded_94 : decode cX5_recorded 94 = .ok (.iload_n 3, 1) := by decide +kernel
theorem dX5_recorded_95 : decode cX5_recorded 95 = .ok (.aaload, 1) := by decide +kernel
theorem dX5_recorded_96 : decode cX5_recorded 96 = .ok (.aastore, 1) := by decide +kernel
theorem dX5_recorded_97 : decode cX5_recorded 97 = .ok (.iinc 3 1, 3) := by decide +kernel
theorem dX5_recorded_100 : decode cX5_recorded 100 = .ok (.goto (-26), 3) := by decide +kernel
theorem dX5_recorded_103 : decode cX5_recorded 103 = .ok (.aload_n 0, 1) := by decide +kernel
theorem dX5_recorded_104 : decode cX5_recorded 104 = .ok (.getfield 19, 3) := by decide +kernel
theorem dX5_recorded_107 : decode cX5_recorded 107 = .ok (.aload_n 0, 1) := by decide +kernel
theorem dX5_recorded_108 : decode cX5_recorded 108 = .ok (.getfield 19, 3) := by decide +kernel
theorem dX5_recorded_111 : decode cX5_recorded 111 = .ok (.arraylength, 1) := by decide +kernel
theorem dX5_recorded_112 : decode cX5_recorded 112 = .ok (.iconst 1, 1) := by decide +kernel
theorem dX5_recorded_113 : decode cX5_recorded 113 = .ok (.isub, 1) := by decide +kernel
theorem dX5_recorded_114 : decode cX5_recorded 114 = .ok (.aload_n 2, 1) := by decide +kernel
theorem dX5_recorded_115 : decode cX5_recorded 115 = .ok (.aastore, 1) := by decide +kernel
theorem dX5_recorded_116 : decode cX5_recorded 116 = .ok (.iload_n 1, 1) := by decide +kernel
theorem dX5_recorded_117 : decode cX5_recorded 117 = .ok (.ireturn, 1) := by decide +kernel
theorem dX5_isIndex_0 : decode cX5_isIndex 0 = .ok (.iload_n 0, 1) := by decide +kernel
theorem dX5_isIndex_1 : decode cX5_isIndex 1 = .ok (.ifCond .lt 12, 3) := by decide +kernel
theorem dX5_isIndex_4 : decode cX5_isIndex 4 = .ok (.iload_n 0, 1) := by decide +kernel
theorem dX5_isIndex_5 : decode cX5_isIndex 5 = .ok (.iload_n 1, 1) := by decide +kernel
theorem dX5_isIndex_6 : decode cX5_isIndex 6 = .ok (.if_icmp .ge 7, 3) := by decide +kernel
theorem dX5_isIndex_9 : decode cX5_isIndex 9 = .ok (.iconst 1, 1) := by decide +kernel
theorem dX5_isIndex_10 : decode cX5_isIndex 10 = .ok (.goto 4, 3) := by decide +kernel
theorem dX5_isIndex_13 : decode cX5_isIndex 13 = .ok (.iconst 0, 1) := by decide +kernel
theorem dX5_isIndex_14 : decode cX5_isIndex 14 = .ok (.ireturn, 1) := by decide +kernel
theorem dX5_isPlace_0 : decode cX5_isPlace 0 = .ok (.iload_n 0, 1) := by decide +kernel
theorem dX5_isPlace_1 : decode cX5_isPlace 1 = .ok (.bipush 9, 2) := by decide +kernel
theorem dX5_isPlace_3 : decode cX5_isPlace 3 = .ok (.irem, 1) := by decide +kernel
theorem dX5_isPlace_4 : decode cX5_isPlace 4 = .ok (.bipush 8, 2) := by decide +kernel
theorem dX5_isPlace_6 : decode cX5_isPlace 6 = .ok (.if_icmp .ne 7, 3) := by decide +kernel
theorem dX5_isPlace_9 : decode cX5_isPlace 9 = .ok (.iconst 1, 1) := by decide +kernel
theorem dX5_isPlace_10 : decode cX5_isPlace 10 = .ok (.goto 4, 3) := by decide +kernel
theorem dX5_isPlace_13 : decode cX5_isPlace 13 = .ok (.iconst 0, 1) := by decide +kernel
theorem dX5_isPlace_14 : decode cX5_isPlace 14 = .ok (.ireturn, 1) := by decide +kernel
theorem dL_cell_0 : decode cL_cell 0 = .ok (.iload_n 1, 1) := by decide +kernel
theorem dL_cell_1 : decode cL_cell 1 = .ok (.aload_n 0, 1) := by decide +kernel
theorem dL_cell_2 : decode cL_cell 2 = .ok (.arraylength, 1) := by decide +kernel
theorem dL_cell_3 : decode cL_cell 3 = .ok (.if_icmp .ge 9, 3) := by decide +kernel
theorem dL_cell_6 : decode cL_cell 6 = .ok (.aload_n 0, 1) := by decide +kernel
theorem dL_cell_7 : decode cL_cell 7 = .ok (.iload_n 1, 1) := by decide +kernel
theorem dL_cell_8 : decode cL_cell 8 = .ok (.iaload, 1) := by decide +kernel
theorem dL_cell_9 : decode cL_cell 9 = .ok (.goto 15, 3) := by decide +kernel
theorem dL_cell_12 : decode cL_cell 12 = .ok (.sipush 7919, 3) := by decide +kernel
theorem dL_cell_15 : decode cL_cell 15 = .ok (.iload_n 1, 1) := by decide +kernel
theorem dL_cell_16 : decode cL_cell 16 = .ok (.iconst 3, 1) := by decide +kernel
theorem dL_cell_17 : decode cL_cell 17 = .ok (.iadd, 1) := by decide +kernel
theorem dL_cell_18 : decode cL_cell 18 = .ok (.imul, 1) := by decide +kernel
theorem dL_cell_19 : decode cL_cell 19 = .ok (.iload_n 1, 1) := by decide +kernel
theorem dL_cell_20 : decode cL_cell 20 = .ok (.bipush 11, 2) := by decide +kernel
theorem dL_cell_22 : decode cL_cell 22 = .ok (.iadd, 1) := by decide +kernel
theorem dL_cell_23 : decode cL_cell 23 = .ok (.imul, 1) := by decide +kernel
theorem dL_cell_24 : decode cL_cell 24 = .ok (.ireturn, 1) := by decide +kernel
theorem dL_low_0 : decode cL_low 0 = .ok (.iload_n 0, 1) := by decide +kernel
theorem dL_low_1 : decode cL_low 1 = .ok (.ldc 7, 2) := by decide +kernel
theorem dL_low_3 : decode cL_low 3 = .ok (.iand, 1) := by decide +kernel
theorem dL_low_4 : decode cL_low 4 = .ok (.iload_n 1, 1) := by decide +kernel
theorem dL_low_5 : decode cL_low 5 = .ok (.irem, 1) := by decide +kernel
theorem dL_low_6 : decode cL_low 6 = .ok (.ireturn, 1) := by decide +kernel
theorem dL_does_0 : decode cL_does 0 = .ok (.iload_n 1, 1) := by decide +kernel
theorem dL_does_1 : decode cL_does 1 = .ok (.iconst 4, 1) := by decide +kernel
theorem dL_does_2 : decode cL_does 2 = .ok (.ishr, 1) := by decide +kernel
theorem dL_does_3 : decode cL_does 3 = .ok (.iconst 4, 1) := by decide +kernel
theorem dL_does_4 : decode cL_does 4 = .ok (.invokestatic 8, 3) := by decide +kernel
theorem dL_does_7 : decode cL_does 7 = .ok (.istore_n 2, 1) := by decide +kernel
theorem dL_does_8 : decode cL_does 8 = .ok (.iload_n 1, 1) := by decide +kernel
theorem dL_does_9 : decode cL_does 9 = .ok (.bipush 6, 2) := by decide +kernel
theorem dL_does_11 : decode cL_does 11 = .ok (.ishr, 1) := by decide +kernel
theorem dL_does_12 : decode cL_does 12 = .ok (.iconst 3, 1) := by decide +kernel
theorem dL_does_13 : decode cL_does 13 = .ok (.invokestatic 8, 3) := by decide +kernel
theorem dL_does_16 : decode cL_does 16 = .ok (.ifCond .ne 16, 3) := by decide +kernel
theorem dL_does_19 : decode cL_does 19 = .ok (.iload_n 1, 1) := by decide +kernel
theorem dL_does_20 : decode cL_does 20 = .ok (.bipush 8, 2) := by decide +kernel
theorem dL_does_22 : decode cL_does 22 = .ok (.ishr, 1) := by decide +kernel
theorem dL_does_23 : decode cL_does 23 = .ok (.sipush 128, 3) := by decide +kernel
theorem dL_does_26 : decode cL_does 26 = .ok (.invokestatic 8, 3) := by decide +kernel
theorem dL_does_29 : decode cL_does 29 = .ok (.goto 14, 3) := by decide +kernel
theorem dL_does_32 : decode cL_does 32 = .ok (.bipush 64, 2) := by decide +kernel
theorem dL_does_34 : decode cL_does 34 = .ok (.iload_n 1, 1) := by decide +kernel
theorem dL_does_35 : decode cL_does 35 = .ok (.bipush 8, 2) := by decide +kernel
theorem dL_does_37 : decode cL_does 37 = .ok (.ishr, 1) := by decide +kernel
theorem dL_does_38 : decode cL_does 38 = .ok (.iconst 4, 1) := by decide +kernel
theorem dL_does_39 : decode cL_does 39 = .ok (.invokestatic 8, 3) := by decide +kernel
theorem dL_does_42 : decode cL_does 42 = .ok (.iadd, 1) := by decide +kernel
theorem dL_does_43 : decode cL_does 43 = .ok (.istore_n 3, 1) := by decide +kernel
theorem dL_does_44 : decode cL_does 44 = .ok (.aload_n 0, 1) := by decide +kernel
theorem dL_does_45 : decode cL_does 45 = .ok (.iload_n 2, 1) := by decide +kernel
theorem dL_does_46 : decode cL_does 46 = .ok (.iconst 0, 1) := by decide +kernel
theorem dL_does_47 : decode cL_does 47 = .ok (.invokevirtual 14, 3) := by decide +kernel
theorem dL_does_50 : decode cL_does 50 = .ok (.istore 4, 2) := by decide +kernel
theorem dL_does_52 : decode cL_does 52 = .ok (.iconst 0, 1) := by decide +kernel
theorem dL_does_53 : decode cL_does 53 = .ok (.istore 5, 2) := by decide +kernel
theorem dL_does_55 : decode cL_does 55 = .ok (.iload_n 1, 1) := by decide +kernel
theorem dL_does_56 : decode cL_does 56 = .ok (.bipush 15, 2) := by decide +kernel
theorem dL_does_58 : decode cL_does 58 = .ok (.iand, 1) := by decide +kernel
theorem dL_does_59 : decode cL_does 59 = .ok (.tableswitch 299 0 10 #[57, 57, 57, 57, 111, 146, 146, 146, 199, 229, 246], 57) := by decide +kernel
theorem dL_does_116 : decode cL_does 116 = .ok (.iload 4, 2) := by decide +kernel
theorem dL_does_118 : decode cL_does 118 = .ok (.iconst 5, 1) := by decide +kernel
theorem dL_does_119 : decode cL_does 119 = .ok (.if_icmp .ne 7, 3) := by decide +kernel
theorem dL_does_122 : decode cL_does 122 = .ok (.iconst 0, 1) := by decide +kernel
theorem dL_does_123 : decode cL_does 123 = .ok (.goto 42, 3) := by decide +kernel
theorem dL_does_126 : decode cL_does 126 = .ok (.aload_n 0, 1) := by decide +kernel
theorem dL_does_127 : decode cL_does 127 = .ok (.iload_n 2, 1) := by decide +kernel
theorem dL_does_128 : decode cL_does 128 = .ok (.iload_n 3, 1) := by decide +kernel
theorem dL_does_129 : decode cL_does 129 = .ok (.iload_n 1, 1) := by decide +kernel
theorem dL_does_130 : decode cL_does 130 = .ok (.bipush 10, 2) := by decide +kernel
theorem dL_does_132 : decode cL_does 132 = .ok (.ishr, 1) := by decide +kernel
theorem dL_does_133 : decode cL_does 133 = .ok (.sipush 256, 3) := by decide +kernel
theorem dL_does_136 : decode cL_does 136 = .ok (.invokestatic 8, 3) := by decide +kernel
theorem dL_does_139 : decode cL_does 139 = .ok (.iload_n 1, 1) := by decide +kernel
theorem dL_does_140 : decode cL_does 140 = .ok (.bipush 9, 2) := by decide +kernel
theorem dL_does_142 : decode cL_does 142 = .ok (.ishr, 1) := by decide +kernel
theorem dL_does_143 : decode cL_does 143 = .ok (.iconst 1, 1) := by decide +kernel
theorem dL_does_144 : decode cL_does 144 = .ok (.iand, 1) := by decide +kernel
theorem dL_does_145 : decode cL_does 145 = .ok (.ifCond .ne 8, 3) := by decide +kernel
theorem dL_does_148 : decode cL_does 148 = .ok (.bipush (-5), 2) := by decide +kernel
theorem dL_does_150 : decode cL_does 150 = .ok (.goto 12, 3) := by decide +kernel
theorem dL_does_153 : decode cL_does 153 = .ok (.iload_n 1, 1) := by decide +kernel
theorem dL_does_154 : decode cL_does 154 = .ok (.iconst 5, 1) := by decide +kernel
theorem dL_does_155 : decode cL_does 155 = .ok (.ishr, 1) := by decide +kernel
theorem dL_does_156 : decode cL_does 156 = .ok (.sipush 256, 3) := by decide +kernel
theorem dL_does_159 : decode cL_does 159 = .ok (.invokestatic 8, 3) := by decide +kernel
theorem dL_does_162 : decode cL_does 162 = .ok (.invokevirtual 19, 3) := by decide +kernel
theorem dL_does_165 : decode cL_does 165 = .ok (.istore 5, 2) := by decide +kernel
theorem dL_does_167 : decode cL_does 167 = .ok (.iload 5, 2) := by decide +kernel
theorem dL_does_169 : decode cL_does 169 = .ok (.ireturn, 1) := by decide +kernel
theorem dL_does_170 : decode cL_does 170 = .ok (.iload 4, 2) := by decide +kernel
theorem dL_does_172 : decode cL_does 172 = .ok (.iconst 1, 1) := by decide +kernel
theorem dL_does_173 : decode cL_does 173 = .ok (.if_icmp .gt 18, 3) := by decide +kernel
theorem dL_does_176 : decode cL_does 176 = .ok (.iload 4, 2) := by decide +kernel
theorem dL_does_178 : decode cL_does 178 = .ok (.iconst 1, 1) := by decide +kernel
theorem dL_does_179 : decode cL_does 179 = .ok (.if_icmp .ne 20, 3) := by decide +kernel
theorem dL_does_182 : decode cL_does 182 = .ok (.aload_n 0, 1) := by decide +kernel
theorem dL_does_183 : decode cL_does 183 = .ok (.iload_n 2, 1) := by decide +kernel
theorem dL_does_184 : decode cL_does 184 = .ok (.iconst 1, 1) := by decide +kernel
theorem dL_does_185 : decode cL_does 185 = .ok (.invokevirtual 14, 3) := by decide +kernel
theorem dL_does_188 : decode cL_does 188 = .ok (.ifCond .ne 11, 3) := by decide +kernel
theorem dL_does_191 : decode cL_does 191 = .ok (.aload_n 0, 1) := by decide +kernel
theorem dL_does_192 : decode cL_does 192 = .ok (.iload_n 2, 1) := by decide +kernel
theorem dL_does_193 : decode cL_does 193 = .ok (.invokevirtual 23, 3) := by decide +kernel
theorem dL_does_196 : decode cL_does 196 = .ok (.goto 4, 3) := by decide +kernel
theorem dL_does_199 : decode cL_does 199 = .ok (.iconst 0, 1) := by decide +kernel
theorem dL_does_200 : decode cL_does 200 = .ok (.istore 5, 2) := by decide +kernel
theorem dL_does_202 : decode cL_does 202 = .ok (.iload 5, 2) := by decide +kernel
theorem dL_does_204 : decode cL_does 204 = .ok (.ireturn, 1) := by decide +kernel
theorem dL_does_205 : decode cL_does 205 = .ok (.aload_n 0, 1) := by decide +kernel
theorem dL_does_206 : decode cL_does 206 = .ok (.iload_n 2, 1) := by decide +kernel
theorem dL_does_207 : decode cL_does 207 = .ok (.iload_n 1, 1) := by decide +kernel
theorem dL_does_208 : decode cL_does 208 = .ok (.bipush 13, 2) := by decide +kernel
theorem dL_does_210 : decode cL_does 210 = .ok (.ishr, 1) := by decide +kernel
theorem dL_does_211 : decode cL_does 211 = .ok (.iconst 3, 1) := by decide +kernel
theorem dL_does_212 : decode cL_does 212 = .ok (.iand, 1) := by decide +kernel
theorem dL_does_213 : decode cL_does 213 = .ok (.ifCond .ne 8, 3) := by decide +kernel
theorem dL_does_216 : decode cL_does 216 = .ok (.bipush (-5), 2) := by decide +kernel
theorem dL_does_218 : decode cL_does 218 = .ok (.goto 14, 3) := by decide +kernel
theorem dL_does_221 : decode cL_does 221 = .ok (.bipush 64, 2) := by decide +kernel
theorem dL_does_223 : decode cL_does 223 = .ok (.iload_n 1, 1) := by decide +kernel
theorem dL_does_224 : decode cL_does 224 = .ok (.bipush 8, 2) := by decide +kernel
theorem dL_does_226 : decode cL_does 226 = .ok (.ishr, 1) := by decide +kernel
theorem dL_does_227 : decode cL_does 227 = .ok (.iconst 4, 1) := by decide +kernel
theorem dL_does_228 : decode cL_does 228 = .ok (.invokestatic 8, 3) := by decide +kernel
theorem dL_does_231 : decode cL_does 231 = .ok (.iadd, 1) := by decide +kernel
theorem dL_does_232 : decode cL_does 232 = .ok (.invokevirtual 27, 3) := by decide +kernel
theorem dL_does_235 : decode cL_does 235 = .ok (.istore 5, 2) := by decide +kernel
theorem dL_does_237 : decode cL_does 237 = .ok (.iload 5, 2) := by decide +kernel
theorem dL_does_239 : decode cL_does 239 = .ok (.bipush (-4), 2) := by decide +kernel
theorem dL_does_241 : decode cL_does 241 = .ok (.if_icmp .eq 10, 3) := by decide +kernel
theorem dL_does_244 : decode cL_does 244 = .ok (.iload 5, 2) := by decide +kernel
theorem dL_does_246 : decode cL_does 246 = .ok (.bipush (-5), 2) := by decide +kernel
theorem dL_does_248 : decode cL_does 248 = .ok (.if_icmp .ne 7, 3) := by decide +kernel
theorem dL_does_251 : decode cL_does 251 = .ok (.iconst 0, 1) := by decide +kernel
theorem dL_does_252 : decode cL_does 252 = .ok (.goto 5, 3) := by decide +kernel
theorem dL_does_255 : decode cL_does 255 = .ok (.iload 5, 2) := by decide +kernel
theorem dL_does_257 : decode cL_does 257 = .ok (.ireturn, 1) := by decide +kernel
theorem dL_does_258 : decode cL_does 258 = .ok (.aload_n 0, 1) := by decide +kernel
theorem dL_does_259 : decode cL_does 259 = .ok (.iload_n 2, 1) := by decide +kernel
theorem dL_does_260 : decode cL_does 260 = .ok (.iload_n 1, 1) := by decide +kernel
theorem dL_does_261 : decode cL_does 261 = .ok (.bipush 6, 2) := by decide +kernel
theorem dL_does_263 : decode cL_does 263 = .ok (.ishr, 1) := by decide +kernel
theorem dL_does_264 : decode cL_does 264 = .ok (.bipush 10, 2) := by decide +kernel
theorem dL_does_266 : decode cL_does 266 = .ok (.invokestatic 8, 3) := by decide +kernel
theorem dL_does_269 : decode cL_does 269 = .ok (.invokevirtual 30, 3) := by decide +kernel
theorem dL_does_272 : decode cL_does 272 = .ok (.istore 5, 2) := by decide +kernel
theorem dL_does_274 : decode cL_does 274 = .ok (.iload 5, 2) := by decide +kernel
theorem dL_does_276 : decode cL_does 276 = .ok (.bipush (-5), 2) := by decide +kernel
theorem dL_does_278 : decode cL_does 278 = .ok (.if_icmp .ne 7, 3) := by decide +kernel
theorem dL_does_281 : decode cL_does 281 = .ok (.iconst 0, 1) := by decide +kernel
theorem dL_does_282 : decode cL_does 282 = .ok (.goto 5, 3) := by decide +kernel
theorem dL_does_285 : decode cL_does 285 = .ok (.iload 5, 2) := by decide +kernel
theorem dL_does_287 : decode cL_does 287 = .ok (.ireturn, 1) := by decide +kernel
theorem dL_does_288 : decode cL_does 288 = .ok (.aload_n 0, 1) := by decide +kernel
theorem dL_does_289 : decode cL_does 289 = .ok (.iload_n 2, 1) := by decide +kernel
theorem dL_does_290 : decode cL_does 290 = .ok (.iconst 1, 1) := by decide +kernel
theorem dL_does_291 : decode cL_does 291 = .ok (.iload_n 1, 1) := by decide +kernel
theorem dL_does_292 : decode cL_does 292 = .ok (.bipush 6, 2) := by decide +kernel
theorem dL_does_294 : decode cL_does 294 = .ok (.ishr, 1) := by decide +kernel
theorem dL_does_295 : decode cL_does 295 = .ok (.bipush 20, 2) := by decide +kernel
theorem dL_does_297 : decode cL_does 297 = .ok (.invokestatic 8, 3) := by decide +kernel
theorem dL_does_300 : decode cL_does 300 = .ok (.iadd, 1) := by decide +kernel
theorem dL_does_301 : decode cL_does 301 = .ok (.invokevirtual 33, 3) := by decide +kernel
theorem dL_does_304 : decode cL_does 304 = .ok (.ireturn, 1) := by decide +kernel
theorem dL_does_305 : decode cL_does 305 = .ok (.iload_n 1, 1) := by decide +kernel
theorem dL_does_306 : decode cL_does 306 = .ok (.iconst 4, 1) := by decide +kernel
theorem dL_does_307 : decode cL_does 307 = .ok (.ishr, 1) := by decide +kernel
theorem dL_does_308 : decode cL_does 308 = .ok (.iconst 3, 1) := by decide +kernel
theorem dL_does_309 : decode cL_does 309 = .ok (.invokestatic 8, 3) := by decide +kernel
theorem dL_does_312 : decode cL_does 312 = .ok (.istore 6, 2) := by decide +kernel
theorem dL_does_314 : decode cL_does 314 = .ok (.aload_n 0, 1) := by decide +kernel
theorem dL_does_315 : decode cL_does 315 = .ok (.iload 6, 2) := by decide +kernel
theorem dL_does_317 : decode cL_does 317 = .ok (.iconst 1, 1) := by decide +kernel
theorem dL_does_318 : decode cL_does 318 = .ok (.iload_n 1, 1) := by decide +kernel
theorem dL_does_319 : decode cL_does 319 = .ok (.bipush 6, 2) := by decide +kernel
theorem dL_does_321 : decode cL_does 321 = .ok (.ishr, 1) := by decide +kernel
theorem dL_does_322 : decode cL_does 322 = .ok (.iload 6, 2) := by decide +kernel
theorem dL_does_324 : decode cL_does 324 = .ok (.iconst 2, 1) := by decide +kernel
theorem dL_does_325 : decode cL_does 325 = .ok (.if_icmp .ne 8, 3) := by decide +kernel
theorem dL_does_328 : decode cL_does 328 = .ok (.bipush 15, 2) := by decide +kernel
theorem dL_does_330 : decode cL_does 330 = .ok (.goto 5, 3) := by decide +kernel
theorem dL_does_333 : decode cL_does 333 = .ok (.bipush 6, 2) := by decide +kernel
theorem dL_does_335 : decode cL_does 335 = .ok (.invokestatic 8, 3) := by decide +kernel
theorem dL_does_338 : decode cL_does 338 = .ok (.iadd, 1) := by decide +kernel
theorem dL_does_339 : decode cL_does 339 = .ok (.invokevirtual 36, 3) := by decide +kernel
theorem dL_does_342 : decode cL_does 342 = .ok (.istore 5, 2) := by decide +kernel
theorem dL_does_344 : decode cL_does 344 = .ok (.iload 5, 2) := by decide +kernel
theorem dL_does_346 : decode cL_does 346 = .ok (.bipush (-5), 2) := by decide +kernel
theorem dL_does_348 : decode cL_does 348 = .ok (.if_icmp .ne 7, 3) := by decide +kernel
theorem dL_does_351 : decode cL_does 351 = .ok (.iconst 0, 1) := by decide +kernel
theorem dL_does_352 : decode cL_does 352 = .ok (.goto 5, 3) := by decide +kernel
theorem dL_does_355 : decode cL_does 355 = .ok (.iload 5, 2) := by decide +kernel
theorem dL_does_357 : decode cL_does 357 = .ok (.ireturn, 1) := by decide +kernel
theorem dL_does_358 : decode cL_does 358 = .ok (.aload_n 0, 1) := by decide +kernel
theorem dL_does_359 : decode cL_does 359 = .ok (.iconst 1, 1) := by decide +kernel
theorem dL_does_360 : decode cL_does 360 = .ok (.iload_n 1, 1) := by decide +kernel
theorem dL_does_361 : decode cL_does 361 = .ok (.iconst 4, 1) := by decide +kernel
theorem dL_does_362 : decode cL_does 362 = .ok (.ishr, 1) := by decide +kernel
theorem dL_does_363 : decode cL_does 363 = .ok (.bipush 40, 2) := by decide +kernel
theorem dL_does_365 : decode cL_does 365 = .ok (.invokestatic 8, 3) := by decide +kernel
theorem dL_does_368 : decode cL_does 368 = .ok (.iadd, 1) := by decide +kernel
theorem dL_does_369 : decode cL_does 369 = .ok (.invokevirtual 39, 3) := by decide +kernel
theorem dL_does_372 : decode cL_does 372 = .ok (.ireturn, 1) := by decide +kernel
theorem dL_areCountsSo_0 : decode cL_areCountsSo 0 = .ok (.iconst 0, 1) := by decide +kernel
theorem dL_areCountsSo_1 : decode cL_areCountsSo 1 = .ok (.istore_n 1, 1) := by decide +kernel
theorem dL_areCountsSo_2 : decode cL_areCountsSo 2 = .ok (.iconst 0, 1) := by decide +kernel
theorem dL_areCountsSo_3 : decode cL_areCountsSo 3 = .ok (.istore_n 2, 1) := by decide +kernel
theorem dL_areCountsSo_4 : decode cL_areCountsSo 4 = .ok (.iconst 0, 1) := by decide +kernel
theorem dL_areCountsSo_5 : decode cL_areCountsSo 5 = .ok (.istore_n 3, 1) := by decide +kernel
theorem dL_areCountsSo_6 : decode cL_areCountsSo 6 = .ok (.iconst 0, 1) := by decide +kernel
theorem dL_areCountsSo_7 : decode cL_areCountsSo 7 = .ok (.istore 4, 2) := by decide +kernel
theorem dL_areCountsSo_9 : decode cL_areCountsSo 9 = .ok (.iconst 1, 1) := by decide +kernel
theorem dL_areCountsSo_10 : decode cL_areCountsSo 10 = .ok (.istore 5, 2) := by decide +kernel
theorem dL_areCountsSo_12 : decode cL_areCountsSo 12 = .ok (.iconst 0, 1) := by decide +kernel
theorem dL_areCountsSo_13 : decode cL_areCountsSo 13 = .ok (.istore 6, 2) := by decide +kernel
theorem dL_areCountsSo_15 : decode cL_areCountsSo 15 = .ok (.iload 6, 2) := by decide +kernel
theorem dL_areCountsSo_17 : decode cL_areCountsSo 17 = .ok (.iconst 4, 1) := by decide +kernel
theorem dL_areCountsSo_18 : decode cL_areCountsSo 18 = .ok (.if_icmp .ge 277, 3) := by decide +kernel
theorem dL_areCountsSo_21 : decode cL_areCountsSo 21 = .ok (.aload_n 0, 1) := by decide +kernel
theorem dL_areCountsSo_22 : decode cL_areCountsSo 22 = .ok (.iload 6, 2) := by decide +kernel
theorem dL_areCountsSo_24 : decode cL_areCountsSo 24 = .ok (.iconst 0, 1) := by decide +kernel
theorem dL_areCountsSo_25 : decode cL_areCountsSo 25 = .ok (.invokevirtual 14, 3) := by decide +kernel
theorem dL_areCountsSo_28 : decode cL_areCountsSo 28 = .ok (.istore 7, 2) := by decide +kernel
theorem dL_areCountsSo_30 : decode cL_areCountsSo 30 = .ok (.iload_n 1, 1) := by decide +kernel
theorem dL_areCountsSo_31 : decode cL_areCountsSo 31 = .ok (.aload_n 0, 1) := by decide +kernel
theorem dL_areCountsSo_32 : decode cL_areCountsSo 32 = .ok (.iload 6, 2) := by decide +kernel
theorem dL_areCountsSo_34 : decode cL_areCountsSo 34 = .ok (.iconst 1, 1) := by decide +kernel
theorem dL_areCountsSo_35 : decode cL_areCountsSo 35 = .ok (.invokevirtual 14, 3) := by decide +kernel
theorem dL_areCountsSo_38 : decode cL_areCountsSo 38 = .ok (.iadd, 1) := by decide +kernel
theorem dL_areCountsSo_39 : decode cL_areCountsSo 39 = .ok (.istore_n 1, 1) := by decide +kernel
theorem dL_areCountsSo_40 : decode cL_areCountsSo 40 = .ok (.iload_n 2, 1) := by decide +kernel
theorem dL_areCountsSo_41 : decode cL_areCountsSo 41 = .ok (.iload 7, 2) := by decide +kernel
theorem dL_areCountsSo_43 : decode cL_areCountsSo 43 = .ok (.iadd, 1) := by decide +kernel
theorem dL_areCountsSo_44 : decode cL_areCountsSo 44 = .ok (.istore_n 2, 1) := by decide +kernel
theorem dL_areCountsSo_45 : decode cL_areCountsSo 45 = .ok (.iload_n 3, 1) := by decide +kernel
theorem dL_areCountsSo_46 : decode cL_areCountsSo 46 = .ok (.aload_n 0, 1) := by decide +kernel
theorem dL_areCountsSo_47 : decode cL_areCountsSo 47 = .ok (.iload 6, 2) := by decide +kernel
theorem dL_areCountsSo_49 : decode cL_areCountsSo 49 = .ok (.iconst 2, 1) := by decide +kernel
theorem dL_areCountsSo_50 : decode cL_areCountsSo 50 = .ok (.invokevirtual 14, 3) := by decide +kernel
theorem dL_areCountsSo_53 : decode cL_areCountsSo 53 = .ok (.iadd, 1) := by decide +kernel
theorem dL_areCountsSo_54 : decode cL_areCountsSo 54 = .ok (.istore_n 3, 1) := by decide +kernel
theorem dL_areCountsSo_55 : decode cL_areCountsSo 55 = .ok (.iload 4, 2) := by decide +kernel
theorem dL_areCountsSo_57 : decode cL_areCountsSo 57 = .ok (.aload_n 0, 1) := by decide +kernel
theorem dL_areCountsSo_58 : decode cL_areCountsSo 58 = .ok (.iload 6, 2) := by decide +kernel
theorem dL_areCountsSo_60 : decode cL_areCountsSo 60 = .ok (.iconst 2, 1) := by decide +kernel
theorem dL_areCountsSo_61 : decode cL_areCountsSo 61 = .ok (.invokevirtual 42, 3) := by decide +kernel
theorem dL_areCountsSo_64 : decode cL_areCountsSo 64 = .ok (.ifCond .le 7, 3) := by decide +kernel
theorem dL_areCountsSo_67 : decode cL_areCountsSo 67 = .ok (.iconst 1, 1) := by decide +kernel
theorem dL_areCountsSo_68 : decode cL_areCountsSo 68 = .ok (.goto 4, 3) := by decide +kernel
theorem dL_areCountsSo_71 : decode cL_areCountsSo 71 = .ok (.iconst 0, 1) := by decide +kernel
theorem dL_areCountsSo_72 : decode cL_areCountsSo 72 = .ok (.iadd, 1) := by decide +kernel
theorem dL_areCountsSo_73 : decode cL_areCountsSo 73 = .ok (.istore 4, 2) := by decide +kernel
theorem dL_areCountsSo_75 : decode cL_areCountsSo 75 = .ok (.iload 5, 2) := by decide +kernel
theorem dL_areCountsSo_77 : decode cL_areCountsSo 77 = .ok (.ifCond .eq 109, 3) := by decide +kernel
theorem dL_areCountsSo_80 : decode cL_areCountsSo 80 = .ok (.iload 7, 2) := by decide +kernel
theorem dL_areCountsSo_82 : decode cL_areCountsSo 82 = .ok (.ifCond .lt 104, 3) := by decide +kernel
theorem dL_areCountsSo_85 : decode cL_areCountsSo 85 = .ok (.iload 7, 2) := by decide +kernel
theorem dL_areCountsSo_87 : decode cL_areCountsSo 87 = .ok (.bipush 6, 2) := by decide +kernel
theorem dL_areCountsSo_89 : decode cL_areCountsSo 89 = .ok (.if_icmp .ge 97, 3) := by decide +kernel
theorem dL_areCountsSo_92 : decode cL_areCountsSo 92 = .ok (.iload 7, 2) := by decide +kernel
theorem dL_areCountsSo_94 : decode cL_areCountsSo 94 = .ok (.ifCond .gt 24, 3) := by decide +kernel
theorem dL_areCountsSo_97 : decode cL_areCountsSo 97 = .ok (.aload_n 0, 1) := by decide +kernel
theorem dL_areCountsSo_98 : decode cL_areCountsSo 98 = .ok (.iload 6, 2) := by decide +kernel
theorem dL_areCountsSo_100 : decode cL_areCountsSo 100 = .ok (.iconst 1, 1) := by decide +kernel
theorem dL_areCountsSo_101 : decode cL_areCountsSo 101 = .ok (.invokevirtual 14, 3) := by decide +kernel
theorem dL_areCountsSo_104 : decode cL_areCountsSo 104 = .ok (.ifCond .ne 82, 3) := by decide +kernel
theorem dL_areCountsSo_107 : decode cL_areCountsSo 107 = .ok (.aload_n 0, 1) := by decide +kernel
theorem dL_areCountsSo_108 : decode cL_areCountsSo 108 = .ok (.iload 6, 2) := by decide +kernel
theorem dL_areCountsSo_110 : decode cL_areCountsSo 110 = .ok (.bipush 6, 2) := by decide +kernel
theorem dL_areCountsSo_112 : decode cL_areCountsSo 112 = .ok (.invokevirtual 14, 3) := by decide +kernel
theorem dL_areCountsSo_115 : decode cL_areCountsSo 115 = .ok (.ifCond .ne 71, 3) := by decide +kernel
theorem dL_areCountsSo_118 : decode cL_areCountsSo 118 = .ok (.aload_n 0, 1) := by decide +kernel
theorem dL_areCountsSo_119 : decode cL_areCountsSo 119 = .ok (.iload 6, 2) := by decide +kernel
theorem dL_areCountsSo_121 : decode cL_areCountsSo 121 = .ok (.iconst 4, 1) := by decide +kernel
theorem dL_areCountsSo_122 : decode cL_areCountsSo 122 = .ok (.invokevirtual 14, 3) := by decide +kernel
theorem dL_areCountsSo_125 : decode cL_areCountsSo 125 = .ok (.aload_n 0, 1) := by decide +kernel
theorem dL_areCountsSo_126 : decode cL_areCountsSo 126 = .ok (.iload 6, 2) := by decide +kernel
theorem dL_areCountsSo_128 : decode cL_areCountsSo 128 = .ok (.bipush 6, 2) := by decide +kernel
theorem dL_areCountsSo_130 : decode cL_areCountsSo 130 = .ok (.invokevirtual 14, 3) := by decide +kernel
theorem dL_areCountsSo_133 : decode cL_areCountsSo 133 = .ok (.if_icmp .lt 53, 3) := by decide +kernel
theorem dL_areCountsSo_136 : decode cL_areCountsSo 136 = .ok (.aload_n 0, 1) := by decide +kernel
theorem dL_areCountsSo_137 : decode cL_areCountsSo 137 = .ok (.iload 6, 2) := by decide +kernel
theorem dL_areCountsSo_139 : decode cL_areCountsSo 139 = .ok (.iload 7, 2) := by decide +kernel
theorem dL_areCountsSo_141 : decode cL_areCountsSo 141 = .ok (.iconst 0, 1) := by decide +kernel
theorem dL_areCountsSo_142 : decode cL_areCountsSo 142 = .ok (.invokevirtual 45, 3) := by decide +kernel
theorem dL_areCountsSo_145 : decode cL_areCountsSo 145 = .ok (.iconst (-1), 1) := by decide +kernel
theorem dL_areCountsSo_146 : decode cL_areCountsSo 146 = .ok (.if_icmp .ne 40, 3) := by decide +kernel
theorem dL_areCountsSo_149 : decode cL_areCountsSo 149 = .ok (.aload_n 0, 1) := by decide +kernel
theorem dL_areCountsSo_150 : decode cL_areCountsSo 150 = .ok (.iload 6, 2) := by decide +kernel
theorem dL_areCountsSo_152 : decode cL_areCountsSo 152 = .ok (.iconst 3, 1) := by decide +kernel
theorem dL_areCountsSo_153 : decode cL_areCountsSo 153 = .ok (.invokevirtual 42, 3) := by decide +kernel
theorem dL_areCountsSo_156 : decode cL_areCountsSo 156 = .ok (.ifCond .le 7, 3) := by decide +kernel
theorem dL_areCountsSo_159 : decode cL_areCountsSo 159 = .ok (.iconst 1, 1) := by decide +kernel
theorem dL_areCountsSo_160 : decode cL_areCountsSo 160 = .ok (.goto 4, 3) := by decide +kernel
theorem dL_areCountsSo_163 : decode cL_areCountsSo 163 = .ok (.iconst 0, 1) := by decide +kernel
theorem dL_areCountsSo_164 : decode cL_areCountsSo 164 = .ok (.aload_n 0, 1) := by decide +kernel
theorem dL_areCountsSo_165 : decode cL_areCountsSo 165 = .ok (.iload 6, 2) := by decide +kernel
theorem dL_areCountsSo_167 : decode cL_areCountsSo 167 = .ok (.iconst 4, 1) := by decide +kernel
theorem dL_areCountsSo_168 : decode cL_areCountsSo 168 = .ok (.invokevirtual 42, 3) := by decide +kernel
theorem dL_areCountsSo_171 : decode cL_areCountsSo 171 = .ok (.ifCond .lt 7, 3) := by decide +kernel
theorem dL_areCountsSo_174 : decode cL_areCountsSo 174 = .ok (.iconst 1, 1) := by decide +kernel
theorem dL_areCountsSo_175 : decode cL_areCountsSo 175 = .ok (.goto 4, 3) := by decide +kernel
theorem dL_areCountsSo_178 : decode cL_areCountsSo 178 = .ok (.iconst 0, 1) := by decide +kernel
theorem dL_areCountsSo_179 : decode cL_areCountsSo 179 = .ok (.if_icmp .ne 7, 3) := by decide +kernel
theorem dL_areCountsSo_182 : decode cL_areCountsSo 182 = .ok (.iconst 1, 1) := by decide +kernel
theorem dL_areCountsSo_183 : decode cL_areCountsSo 183 = .ok (.goto 4, 3) := by decide +kernel
theorem dL_areCountsSo_186 : decode cL_areCountsSo 186 = .ok (.iconst 0, 1) := by decide +kernel
theorem dL_areCountsSo_187 : decode cL_areCountsSo 187 = .ok (.istore 5, 2) := by decide +kernel
theorem dL_areCountsSo_189 : decode cL_areCountsSo 189 = .ok (.iconst 0, 1) := by decide +kernel
theorem dL_areCountsSo_190 : decode cL_areCountsSo 190 = .ok (.istore 8, 2) := by decide +kernel
theorem dL_areCountsSo_192 : decode cL_areCountsSo 192 = .ok (.iload 8, 2) := by decide +kernel
theorem dL_areCountsSo_194 : decode cL_areCountsSo 194 = .ok (.iload 7, 2) := by decide +kernel
theorem dL_areCountsSo_196 : decode cL_areCountsSo 196 = .ok (.if_icmp .ge 93, 3) := by decide +kernel
theorem dL_areCountsSo_199 : decode cL_areCountsSo 199 = .ok (.aload_n 0, 1) := by decide +kernel
theorem dL_areCountsSo_200 : decode cL_areCountsSo 200 = .ok (.iload 6, 2) := by decide +kernel
theorem dL_areCountsSo_202 : decode cL_areCountsSo 202 = .ok (.iload 8, 2) := by decide +kernel
theorem dL_areCountsSo_204 : decode cL_areCountsSo 204 = .ok (.iconst 2, 1) := by decide +kernel
theorem dL_areCountsSo_205 : decode cL_areCountsSo 205 = .ok (.invokevirtual 45, 3) := by decide +kernel
theorem dL_areCountsSo_208 : decode cL_areCountsSo 208 = .ok (.ifCond .ge 8, 3) := by decide +kernel
theorem dL_areCountsSo_211 : decode cL_areCountsSo 211 = .ok (.bipush 18, 2) := by decide +kernel
theorem dL_areCountsSo_213 : decode cL_areCountsSo 213 = .ok (.goto 5, 3) := by decide +kernel
theorem dL_areCountsSo_216 : decode cL_areCountsSo 216 = .ok (.bipush 27, 2) := by decide +kernel
theorem dL_areCountsSo_218 : decode cL_areCountsSo 218 = .ok (.istore 9, 2) := by decide +kernel
theorem dL_areCountsSo_220 : decode cL_areCountsSo 220 = .ok (.iload 5, 2) := by decide +kernel
theorem dL_areCountsSo_222 : decode cL_areCountsSo 222 = .ok (.ifCond .eq 58, 3) := by decide +kernel
theorem dL_areCountsSo_225 : decode cL_areCountsSo 225 = .ok (.aload_n 0, 1) := by decide +kernel
theorem dL_areCountsSo_226 : decode cL_areCountsSo 226 = .ok (.iload 6, 2) := by decide +kernel
theorem dL_areCountsSo_228 : decode cL_areCountsSo 228 = .ok (.iload 8, 2) := by decide +kernel
theorem dL_areCountsSo_230 : decode cL_areCountsSo 230 = .ok (.iconst 3, 1) := by decide +kernel
theorem dL_areCountsSo_231 : decode cL_areCountsSo 231 = .ok (.invokevirtual 45, 3) := by decide +kernel
theorem dL_areCountsSo_234 : decode cL_areCountsSo 234 = .ok (.iload 9, 2) := by decide +kernel
theorem dL_areCountsSo_236 : decode cL_areCountsSo 236 = .ok (.if_icmp .ne 44, 3) := by decide +kernel
theorem dL_areCountsSo_239 : decode cL_areCountsSo 239 = .ok (.aload_n 0, 1) := by decide +kernel
theorem dL_areCountsSo_240 : decode cL_areCountsSo 240 = .ok (.iload 6, 2) := by decide +kernel
theorem dL_areCountsSo_242 : decode cL_areCountsSo 242 = .ok (.iload 8, 2) := by decide +kernel
theorem dL_areCountsSo_244 : decode cL_areCountsSo 244 = .ok (.iconst 4, 1) := by decide +kernel
theorem dL_areCountsSo_245 : decode cL_areCountsSo 245 = .ok (.invokevirtual 45, 3) := by decide +kernel
theorem dL_areCountsSo_248 : decode cL_areCountsSo 248 = .ok (.iload 9, 2) := by decide +kernel
theorem dL_areCountsSo_250 : decode cL_areCountsSo 250 = .ok (.if_icmp .lt 30, 3) := by decide +kernel
theorem dL_areCountsSo_253 : decode cL_areCountsSo 253 = .ok (.aload_n 0, 1) := by decide +kernel
theorem dL_areCountsSo_254 : decode cL_areCountsSo 254 = .ok (.iload 6, 2) := by decide +kernel
theorem dL_areCountsSo_256 : decode cL_areCountsSo 256 = .ok (.iload 8, 2) := by decide +kernel
theorem dL_areCountsSo_258 : decode cL_areCountsSo 258 = .ok (.iconst 4, 1) := by decide +kernel
theorem dL_areCountsSo_259 : decode cL_areCountsSo 259 = .ok (.invokevirtual 45, 3) := by decide +kernel
theorem dL_areCountsSo_262 : decode cL_areCountsSo 262 = .ok (.iload 9, 2) := by decide +kernel
theorem dL_areCountsSo_264 : decode cL_areCountsSo 264 = .ok (.bipush 9, 2) := by decide +kernel
theorem dL_areCountsSo_266 : decode cL_areCountsSo 266 = .ok (.iload 9, 2) := by decide +kernel
theorem dL_areCountsSo_268 : decode cL_areCountsSo 268 = .ok (.bipush 9, 2) := by decide +kernel
theorem dL_areCountsSo_270 : decode cL_areCountsSo 270 = .ok (.idiv, 1) := by decide +kernel
theorem dL_areCountsSo_271 : decode cL_areCountsSo 271 = .ok (.imul, 1) := by decide +kernel
theorem dL_areCountsSo_272 : decode cL_areCountsSo 272 = .ok (.iadd, 1) := by decide +kernel
theorem dL_areCountsSo_273 : decode cL_areCountsSo 273 = .ok (.if_icmp .gt 7, 3) := by decide +kernel
theorem dL_areCountsSo_276 : decode cL_areCountsSo 276 = .ok (.iconst 1, 1) := by decide +kernel
theorem dL_areCountsSo_277 : decode cL_areCountsSo 277 = .ok (.goto 4, 3) := by decide +kernel
theorem dL_areCountsSo_280 : decode cL_areCountsSo 280 = .ok (.iconst 0, 1) := by decide +kernel
theorem dL_areCountsSo_281 : decode cL_areCountsSo 281 = .ok (.istore 5, 2) := by decide +kernel
theorem dL_areCountsSo_283 : decode cL_areCountsSo 283 = .ok (.iinc 8 1, 3) := by decide +kernel
theorem dL_areCountsSo_286 : decode cL_areCountsSo 286 = .ok (.goto (-94), 3) := by decide +kernel
theorem dL_areCountsSo_289 : decode cL_areCountsSo 289 = .ok (.iinc 6 1, 3) := by decide +kernel
theorem dL_areCountsSo_292 : decode cL_areCountsSo 292 = .ok (.goto (-277), 3) := by decide +kernel
theorem dL_areCountsSo_295 : decode cL_areCountsSo 295 = .ok (.aload_n 0, 1) := by decide +kernel
theorem dL_areCountsSo_296 : decode cL_areCountsSo 296 = .ok (.iconst 2, 1) := by decide +kernel
theorem dL_areCountsSo_297 : decode cL_areCountsSo 297 = .ok (.invokevirtual 49, 3) := by decide +kernel
theorem dL_areCountsSo_300 : decode cL_areCountsSo 300 = .ok (.istore 6, 2) := by decide +kernel
theorem dL_areCountsSo_302 : decode cL_areCountsSo 302 = .ok (.aload_n 0, 1) := by decide +kernel
theorem dL_areCountsSo_303 : decode cL_areCountsSo 303 = .ok (.bipush 6, 2) := by decide +kernel
theorem dL_areCountsSo_305 : decode cL_areCountsSo 305 = .ok (.invokevirtual 49, 3) := by decide +kernel
theorem dL_areCountsSo_308 : decode cL_areCountsSo 308 = .ok (.bipush 9, 2) := by decide +kernel
theorem dL_areCountsSo_310 : decode cL_areCountsSo 310 = .ok (.irem, 1) := by decide +kernel
theorem dL_areCountsSo_311 : decode cL_areCountsSo 311 = .ok (.bipush 8, 2) := by decide +kernel
theorem dL_areCountsSo_313 : decode cL_areCountsSo 313 = .ok (.if_icmp .ne 7, 3) := by decide +kernel
theorem dL_areCountsSo_316 : decode cL_areCountsSo 316 = .ok (.iconst 1, 1) := by decide +kernel
theorem dL_areCountsSo_317 : decode cL_areCountsSo 317 = .ok (.goto 4, 3) := by decide +kernel
theorem dL_areCountsSo_320 : decode cL_areCountsSo 320 = .ok (.iconst 0, 1) := by decide +kernel
theorem dL_areCountsSo_321 : decode cL_areCountsSo 321 = .ok (.istore 7, 2) := by decide +kernel
theorem dL_areCountsSo_323 : decode cL_areCountsSo 323 = .ok (.aload_n 0, 1) := by decide +kernel
theorem dL_areCountsSo_324 : decode cL_areCountsSo 324 = .ok (.iconst 3, 1) := by decide +kernel
theorem dL_areCountsSo_325 : decode cL_areCountsSo 325 = .ok (.invokevirtual 49, 3) := by decide +kernel
theorem dL_areCountsSo_328 : decode cL_areCountsSo 328 = .ok (.istore 8, 2) := by decide +kernel
theorem dL_areCountsSo_330 : decode cL_areCountsSo 330 = .ok (.iload 5, 2) := by decide +kernel
theorem dL_areCountsSo_332 : decode cL_areCountsSo 332 = .ok (.ifCond .eq 126, 3) := by decide +kernel
theorem dL_areCountsSo_335 : decode cL_areCountsSo 335 = .ok (.iload_n 1, 1) := by decide +kernel
theorem dL_areCountsSo_336 : decode cL_areCountsSo 336 = .ok (.aload_n 0, 1) := by decide +kernel
theorem dL_areCountsSo_337 : decode cL_areCountsSo 337 = .ok (.iconst 1, 1) := by decide +kernel
theorem dL_areCountsSo_338 : decode cL_areCountsSo 338 = .ok (.invokevirtual 49, 3) := by decide +kernel
theorem dL_areCountsSo_341 : decode cL_areCountsSo 341 = .ok (.if_icmp .ne 117, 3) := by decide +kernel
theorem dL_areCountsSo_344 : decode cL_areCountsSo 344 = .ok (.iload_n 2, 1) := by decide +kernel
theorem dL_areCountsSo_345 : decode cL_areCountsSo 345 = .ok (.aload_n 0, 1) := by decide +kernel
theorem dL_areCountsSo_346 : decode cL_areCountsSo 346 = .ok (.bipush 7, 2) := by decide +kernel
theorem dL_areCountsSo_348 : decode cL_areCountsSo 348 = .ok (.invokevirtual 49, 3) := by decide +kernel
theorem dL_areCountsSo_351 : decode cL_areCountsSo 351 = .ok (.if_icmp .ne 107, 3) := by decide +kernel
theorem dL_areCountsSo_354 : decode cL_areCountsSo 354 = .ok (.iload_n 3, 1) := by decide +kernel
theorem dL_areCountsSo_355 : decode cL_areCountsSo 355 = .ok (.aload_n 0, 1) := by decide +kernel
theorem dL_areCountsSo_356 : decode cL_areCountsSo 356 = .ok (.bipush 8, 2) := by decide +kernel
theorem dL_areCountsSo_358 : decode cL_areCountsSo 358 = .ok (.invokevirtual 49, 3) := by decide +kernel
theorem dL_areCountsSo_361 : decode cL_areCountsSo 361 = .ok (.if_icmp .ne 97, 3) := by decide +kernel
theorem dL_areCountsSo_364 : decode cL_areCountsSo 364 = .ok (.iload 6, 2) := by decide +kernel
theorem dL_areCountsSo_366 : decode cL_areCountsSo 366 = .ok (.iload 4, 2) := by decide +kernel
theorem dL_areCountsSo_368 : decode cL_areCountsSo 368 = .ok (.ifCond .le 7, 3) := by decide +kernel
theorem dL_areCountsSo_371 : decode cL_areCountsSo 371 = .ok (.iconst 4, 1) := by decide +kernel
theorem dL_areCountsSo_372 : decode cL_areCountsSo 372 = .ok (.goto 30, 3) := by decide +kernel
theorem dL_areCountsSo_375 : decode cL_areCountsSo 375 = .ok (.iload 8, 2) := by decide +kernel
theorem dL_areCountsSo_377 : decode cL_areCountsSo 377 = .ok (.ifCond .le 7, 3) := by decide +kernel
theorem dL_areCountsSo_380 : decode cL_areCountsSo 380 = .ok (.iconst 3, 1) := by decide +kernel
theorem dL_areCountsSo_381 : decode cL_areCountsSo 381 = .ok (.goto 21, 3) := by decide +kernel
theorem dL_areCountsSo_384 : decode cL_areCountsSo 384 = .ok (.iload_n 1, 1) := by decide +kernel
theorem dL_areCountsSo_385 : decode cL_areCountsSo 385 = .ok (.ifCond .ne 7, 3) := by decide +kernel
theorem dL_areCountsSo_388 : decode cL_areCountsSo 388 = .ok (.iconst 0, 1) := by decide +kernel
theorem dL_areCountsSo_389 : decode cL_areCountsSo 389 = .ok (.goto 13, 3) := by decide +kernel
theorem dL_areCountsSo_392 : decode cL_areCountsSo 392 = .ok (.iload 7, 2) := by decide +kernel
theorem dL_areCountsSo_394 : decode cL_areCountsSo 394 = .ok (.ifCond .eq 7, 3) := by decide +kernel
theorem dL_areCountsSo_397 : decode cL_areCountsSo 397 = .ok (.iconst 2, 1) := by decide +kernel
theorem dL_areCountsSo_398 : decode cL_areCountsSo 398 = .ok (.goto 4, 3) := by decide +kernel
theorem dL_areCountsSo_401 : decode cL_areCountsSo 401 = .ok (.iconst 1, 1) := by decide +kernel
theorem dL_areCountsSo_402 : decode cL_areCountsSo 402 = .ok (.if_icmp .ne 56, 3) := by decide +kernel
theorem dL_areCountsSo_405 : decode cL_areCountsSo 405 = .ok (.iload_n 1, 1) := by decide +kernel
theorem dL_areCountsSo_406 : decode cL_areCountsSo 406 = .ok (.ifCond .gt 17, 3) := by decide +kernel
theorem dL_areCountsSo_409 : decode cL_areCountsSo 409 = .ok (.iload 8, 2) := by decide +kernel
theorem dL_areCountsSo_411 : decode cL_areCountsSo 411 = .ok (.ifCond .ne 47, 3) := by decide +kernel
theorem dL_areCountsSo_414 : decode cL_areCountsSo 414 = .ok (.aload_n 0, 1) := by decide +kernel
theorem dL_areCountsSo_415 : decode cL_areCountsSo 415 = .ok (.bipush 6, 2) := by decide +kernel
theorem dL_areCountsSo_417 : decode cL_areCountsSo 417 = .ok (.invokevirtual 49, 3) := by decide +kernel
theorem dL_areCountsSo_420 : decode cL_areCountsSo 420 = .ok (.ifCond .ne 38, 3) := by decide +kernel
theorem dL_areCountsSo_423 : decode cL_areCountsSo 423 = .ok (.iload 8, 2) := by decide +kernel
theorem dL_areCountsSo_425 : decode cL_areCountsSo 425 = .ok (.ifCond .eq 8, 3) := by decide +kernel
theorem dL_areCountsSo_428 : decode cL_areCountsSo 428 = .ok (.iload 7, 2) := by decide +kernel
theorem dL_areCountsSo_430 : decode cL_areCountsSo 430 = .ok (.ifCond .eq 28, 3) := by decide +kernel
theorem dL_areCountsSo_433 : decode cL_areCountsSo 433 = .ok (.aload_n 0, 1) := by decide +kernel
theorem dL_areCountsSo_434 : decode cL_areCountsSo 434 = .ok (.iconst 5, 1) := by decide +kernel
theorem dL_areCountsSo_435 : decode cL_areCountsSo 435 = .ok (.invokevirtual 49, 3) := by decide +kernel
theorem dL_areCountsSo_438 : decode cL_areCountsSo 438 = .ok (.bipush 99, 2) := by decide +kernel
theorem dL_areCountsSo_440 : decode cL_areCountsSo 440 = .ok (.if_icmp .ge 18, 3) := by decide +kernel
theorem dL_areCountsSo_443 : decode cL_areCountsSo 443 = .ok (.aload_n 0, 1) := by decide +kernel
theorem dL_areCountsSo_444 : decode cL_areCountsSo 444 = .ok (.bipush 6, 2) := by decide +kernel
theorem dL_areCountsSo_446 : decode cL_areCountsSo 446 = .ok (.invokevirtual 49, 3) := by decide +kernel
theorem dL_areCountsSo_449 : decode cL_areCountsSo 449 = .ok (.bipush 27, 2) := by decide +kernel
theorem dL_areCountsSo_451 : decode cL_areCountsSo 451 = .ok (.if_icmp .ge 7, 3) := by decide +kernel
theorem dL_areCountsSo_454 : decode cL_areCountsSo 454 = .ok (.iconst 1, 1) := by decide +kernel
theorem dL_areCountsSo_455 : decode cL_areCountsSo 455 = .ok (.goto 4, 3) := by decide +kernel
theorem dL_areCountsSo_458 : decode cL_areCountsSo 458 = .ok (.iconst 0, 1) := by decide +kernel
theorem dL_areCountsSo_459 : decode cL_areCountsSo 459 = .ok (.ireturn, 1) := by decide +kernel
theorem dL_isLogSo_0 : decode cL_isLogSo 0 = .ok (.aload_n 0, 1) := by decide +kernel
theorem dL_isLogSo_1 : decode cL_isLogSo 1 = .ok (.bipush 6, 2) := by decide +kernel
theorem dL_isLogSo_3 : decode cL_isLogSo 3 = .ok (.invokevirtual 49, 3) := by decide +kernel
theorem dL_isLogSo_6 : decode cL_isLogSo 6 = .ok (.istore_n 1, 1) := by decide +kernel
theorem dL_isLogSo_7 : decode cL_isLogSo 7 = .ok (.aload_n 0, 1) := by decide +kernel
theorem dL_isLogSo_8 : decode cL_isLogSo 8 = .ok (.iconst 0, 1) := by decide +kernel
theorem dL_isLogSo_9 : decode cL_isLogSo 9 = .ok (.invokevirtual 49, 3) := by decide +kernel
theorem dL_isLogSo_12 : decode cL_isLogSo 12 = .ok (.iconst 1, 1) := by decide +kernel
theorem dL_isLogSo_13 : decode cL_isLogSo 13 = .ok (.iadd, 1) := by decide +kernel
theorem dL_isLogSo_14 : decode cL_isLogSo 14 = .ok (.istore_n 2, 1) := by decide +kernel
theorem dL_isLogSo_15 : decode cL_isLogSo 15 = .ok (.iconst 1, 1) := by decide +kernel
theorem dL_isLogSo_16 : decode cL_isLogSo 16 = .ok (.istore_n 3, 1) := by decide +kernel
theorem dL_isLogSo_17 : decode cL_isLogSo 17 = .ok (.iconst 0, 1) := by decide +kernel
theorem dL_isLogSo_18 : decode cL_isLogSo 18 = .ok (.istore 4, 2) := by decide +kernel
theorem dL_isLogSo_20 : decode cL_isLogSo 20 = .ok (.iload 4, 2) := by decide +kernel
theorem dL_isLogSo_22 : decode cL_isLogSo 22 = .ok (.bipush 64, 2) := by decide +kernel
theorem dL_isLogSo_24 : decode cL_isLogSo 24 = .ok (.if_icmp .ge 99, 3) := by decide +kernel
theorem dL_isLogSo_27 : decode cL_isLogSo 27 = .ok (.aload_n 0, 1) := by decide +kernel
theorem dL_isLogSo_28 : decode cL_isLogSo 28 = .ok (.iload 4, 2) := by decide +kernel
theorem dL_isLogSo_30 : decode cL_isLogSo 30 = .ok (.iconst 0, 1) := by decide +kernel
theorem dL_isLogSo_31 : decode cL_isLogSo 31 = .ok (.invokevirtual 52, 3) := by decide +kernel
theorem dL_isLogSo_34 : decode cL_isLogSo 34 = .ok (.ifCond .lt 89, 3) := by decide +kernel
theorem dL_isLogSo_37 : decode cL_isLogSo 37 = .ok (.iload_n 3, 1) := by decide +kernel
theorem dL_isLogSo_38 : decode cL_isLogSo 38 = .ok (.ifCond .eq 69, 3) := by decide +kernel
theorem dL_isLogSo_41 : decode cL_isLogSo 41 = .ok (.aload_n 0, 1) := by decide +kernel
theorem dL_isLogSo_42 : decode cL_isLogSo 42 = .ok (.iload 4, 2) := by decide +kernel
theorem dL_isLogSo_44 : decode cL_isLogSo 44 = .ok (.iconst 2, 1) := by decide +kernel
theorem dL_isLogSo_45 : decode cL_isLogSo 45 = .ok (.invokevirtual 52, 3) := by decide +kernel
theorem dL_isLogSo_48 : decode cL_isLogSo 48 = .ok (.iload_n 2, 1) := by decide +kernel
theorem dL_isLogSo_49 : decode cL_isLogSo 49 = .ok (.if_icmp .ge 58, 3) := by decide +kernel
theorem dL_isLogSo_52 : decode cL_isLogSo 52 = .ok (.aload_n 0, 1) := by decide +kernel
theorem dL_isLogSo_53 : decode cL_isLogSo 53 = .ok (.iload 4, 2) := by decide +kernel
theorem dL_isLogSo_55 : decode cL_isLogSo 55 = .ok (.iconst 0, 1) := by decide +kernel
theorem dL_isLogSo_56 : decode cL_isLogSo 56 = .ok (.invokevirtual 52, 3) := by decide +kernel
theorem dL_isLogSo_59 : decode cL_isLogSo 59 = .ok (.iconst 2, 1) := by decide +kernel
theorem dL_isLogSo_60 : decode cL_isLogSo 60 = .ok (.if_icmp .ge 47, 3) := by decide +kernel
theorem dL_isLogSo_63 : decode cL_isLogSo 63 = .ok (.aload_n 0, 1) := by decide +kernel
theorem dL_isLogSo_64 : decode cL_isLogSo 64 = .ok (.iload 4, 2) := by decide +kernel
theorem dL_isLogSo_66 : decode cL_isLogSo 66 = .ok (.iconst 0, 1) := by decide +kernel
theorem dL_isLogSo_67 : decode cL_isLogSo 67 = .ok (.invokevirtual 52, 3) := by decide +kernel
theorem dL_isLogSo_70 : decode cL_isLogSo 70 = .ok (.ifCond .eq 13, 3) := by decide +kernel
theorem dL_isLogSo_73 : decode cL_isLogSo 73 = .ok (.aload_n 0, 1) := by decide +kernel
theorem dL_isLogSo_74 : decode cL_isLogSo 74 = .ok (.iload 4, 2) := by decide +kernel
theorem dL_isLogSo_76 : decode cL_isLogSo 76 = .ok (.iconst 3, 1) := by decide +kernel
theorem dL_isLogSo_77 : decode cL_isLogSo 77 = .ok (.invokevirtual 52, 3) := by decide +kernel
theorem dL_isLogSo_80 : decode cL_isLogSo 80 = .ok (.ifCond .ne 27, 3) := by decide +kernel
theorem dL_isLogSo_83 : decode cL_isLogSo 83 = .ok (.aload_n 0, 1) := by decide +kernel
theorem dL_isLogSo_84 : decode cL_isLogSo 84 = .ok (.iload 4, 2) := by decide +kernel
theorem dL_isLogSo_86 : decode cL_isLogSo 86 = .ok (.iconst 1, 1) := by decide +kernel
theorem dL_isLogSo_87 : decode cL_isLogSo 87 = .ok (.invokevirtual 52, 3) := by decide +kernel
theorem dL_isLogSo_90 : decode cL_isLogSo 90 = .ok (.ifCond .eq 13, 3) := by decide +kernel
theorem dL_isLogSo_93 : decode cL_isLogSo 93 = .ok (.aload_n 0, 1) := by decide +kernel
theorem dL_isLogSo_94 : decode cL_isLogSo 94 = .ok (.iload 4, 2) := by decide +kernel
theorem dL_isLogSo_96 : decode cL_isLogSo 96 = .ok (.iconst 3, 1) := by decide +kernel
theorem dL_isLogSo_97 : decode cL_isLogSo 97 = .ok (.invokevirtual 52, 3) := by decide +kernel
theorem dL_isLogSo_100 : decode cL_isLogSo 100 = .ok (.ifCond .ne 7, 3) := by decide +kernel
theorem dL_isLogSo_103 : decode cL_isLogSo 103 = .ok (.iconst 1, 1) := by decide +kernel
theorem dL_isLogSo_104 : decode cL_isLogSo 104 = .ok (.goto 4, 3) := by decide +kernel
theorem dL_isLogSo_107 : decode cL_isLogSo 107 = .ok (.iconst 0, 1) := by decide +kernel
theorem dL_isLogSo_108 : decode cL_isLogSo 108 = .ok (.istore_n 3, 1) := by decide +kernel
theorem dL_isLogSo_109 : decode cL_isLogSo 109 = .ok (.aload_n 0, 1) := by decide +kernel
theorem dL_isLogSo_110 : decode cL_isLogSo 110 = .ok (.iload 4, 2) := by decide +kernel
theorem dL_isLogSo_112 : decode cL_isLogSo 112 = .ok (.iconst 2, 1) := by decide +kernel
theorem dL_isLogSo_113 : decode cL_isLogSo 113 = .ok (.invokevirtual 52, 3) := by decide +kernel
theorem dL_isLogSo_116 : decode cL_isLogSo 116 = .ok (.istore_n 2, 1) := by decide +kernel
theorem dL_isLogSo_117 : decode cL_isLogSo 117 = .ok (.iinc 4 1, 3) := by decide +kernel
theorem dL_isLogSo_120 : decode cL_isLogSo 120 = .ok (.goto (-100), 3) := by decide +kernel
theorem dL_isLogSo_123 : decode cL_isLogSo 123 = .ok (.iconst 0, 1) := by decide +kernel
theorem dL_isLogSo_124 : decode cL_isLogSo 124 = .ok (.istore 4, 2) := by decide +kernel
theorem dL_isLogSo_126 : decode cL_isLogSo 126 = .ok (.iload 4, 2) := by decide +kernel
theorem dL_isLogSo_128 : decode cL_isLogSo 128 = .ok (.iload_n 1, 1) := by decide +kernel
theorem dL_isLogSo_129 : decode cL_isLogSo 129 = .ok (.if_icmp .ge 192, 3) := by decide +kernel
theorem dL_isLogSo_132 : decode cL_isLogSo 132 = .ok (.aload_n 0, 1) := by decide +kernel
theorem dL_isLogSo_133 : decode cL_isLogSo 133 = .ok (.iconst 1, 1) := by decide +kernel
theorem dL_isLogSo_134 : decode cL_isLogSo 134 = .ok (.invokevirtual 49, 3) := by decide +kernel
theorem dL_isLogSo_137 : decode cL_isLogSo 137 = .ok (.ifCond .le 184, 3) := by decide +kernel
theorem dL_isLogSo_140 : decode cL_isLogSo 140 = .ok (.iload_n 1, 1) := by decide +kernel
theorem dL_isLogSo_141 : decode cL_isLogSo 141 = .ok (.iconst 1, 1) := by decide +kernel
theorem dL_isLogSo_142 : decode cL_isLogSo 142 = .ok (.isub, 1) := by decide +kernel
theorem dL_isLogSo_143 : decode cL_isLogSo 143 = .ok (.iload 4, 2) := by decide +kernel
theorem dL_isLogSo_145 : decode cL_isLogSo 145 = .ok (.isub, 1) := by decide +kernel
theorem dL_isLogSo_146 : decode cL_isLogSo 146 = .ok (.istore 5, 2) := by decide +kernel
theorem dL_isLogSo_148 : decode cL_isLogSo 148 = .ok (.aload_n 0, 1) := by decide +kernel
theorem dL_isLogSo_149 : decode cL_isLogSo 149 = .ok (.iload 5, 2) := by decide +kernel
theorem dL_isLogSo_151 : decode cL_isLogSo 151 = .ok (.iconst 0, 1) := by decide +kernel
theorem dL_isLogSo_152 : decode cL_isLogSo 152 = .ok (.invokevirtual 52, 3) := by decide +kernel
theorem dL_isLogSo_155 : decode cL_isLogSo 155 = .ok (.istore 6, 2) := by decide +kernel
theorem dL_isLogSo_157 : decode cL_isLogSo 157 = .ok (.iload_n 3, 1) := by decide +kernel
theorem dL_isLogSo_158 : decode cL_isLogSo 158 = .ok (.ifCond .eq 56, 3) := by decide +kernel
theorem dL_isLogSo_161 : decode cL_isLogSo 161 = .ok (.aload_n 0, 1) := by decide +kernel
theorem dL_isLogSo_162 : decode cL_isLogSo 162 = .ok (.iload 5, 2) := by decide +kernel
theorem dL_isLogSo_164 : decode cL_isLogSo 164 = .ok (.iconst 1, 1) := by decide +kernel
theorem dL_isLogSo_165 : decode cL_isLogSo 165 = .ok (.invokevirtual 52, 3) := by decide +kernel
theorem dL_isLogSo_168 : decode cL_isLogSo 168 = .ok (.iconst 1, 1) := by decide +kernel
theorem dL_isLogSo_169 : decode cL_isLogSo 169 = .ok (.if_icmp .ne 7, 3) := by decide +kernel
theorem dL_isLogSo_172 : decode cL_isLogSo 172 = .ok (.iconst 1, 1) := by decide +kernel
theorem dL_isLogSo_173 : decode cL_isLogSo 173 = .ok (.goto 4, 3) := by decide +kernel
theorem dL_isLogSo_176 : decode cL_isLogSo 176 = .ok (.iconst 0, 1) := by decide +kernel
theorem dL_isLogSo_177 : decode cL_isLogSo 177 = .ok (.iload 4, 2) := by decide +kernel
theorem dL_isLogSo_179 : decode cL_isLogSo 179 = .ok (.bipush 9, 2) := by decide +kernel
theorem dL_isLogSo_181 : decode cL_isLogSo 181 = .ok (.irem, 1) := by decide +kernel
theorem dL_isLogSo_182 : decode cL_isLogSo 182 = .ok (.bipush 8, 2) := by decide +kernel
theorem dL_isLogSo_184 : decode cL_isLogSo 184 = .ok (.if_icmp .ne 7, 3) := by decide +kernel
theorem dL_isLogSo_187 : decode cL_isLogSo 187 = .ok (.iconst 1, 1) := by decide +kernel
theorem dL_isLogSo_188 : decode cL_isLogSo 188 = .ok (.goto 4, 3) := by decide +kernel
theorem dL_isLogSo_191 : decode cL_isLogSo 191 = .ok (.iconst 0, 1) := by decide +kernel
theorem dL_isLogSo_192 : decode cL_isLogSo 192 = .ok (.if_icmp .ne 22, 3) := by decide +kernel
theorem dL_isLogSo_195 : decode cL_isLogSo 195 = .ok (.iload 4, 2) := by decide +kernel
theorem dL_isLogSo_197 : decode cL_isLogSo 197 = .ok (.bipush 9, 2) := by decide +kernel
theorem dL_isLogSo_199 : decode cL_isLogSo 199 = .ok (.irem, 1) := by decide +kernel
theorem dL_isLogSo_200 : decode cL_isLogSo 200 = .ok (.bipush 8, 2) := by decide +kernel
theorem dL_isLogSo_202 : decode cL_isLogSo 202 = .ok (.if_icmp .lt 8, 3) := by decide +kernel
theorem dL_isLogSo_205 : decode cL_isLogSo 205 = .ok (.iload 6, 2) := by decide +kernel
theorem dL_isLogSo_207 : decode cL_isLogSo 207 = .ok (.ifCond .ne 7, 3) := by decide +kernel
theorem dL_isLogSo_210 : decode cL_isLogSo 210 = .ok (.iconst 1, 1) := by decide +kernel
theorem dL_isLogSo_211 : decode cL_isLogSo 211 = .ok (.goto 4, 3) := by decide +kernel
theorem dL_isLogSo_214 : decode cL_isLogSo 214 = .ok (.iconst 0, 1) := by decide +kernel
theorem dL_isLogSo_215 : decode cL_isLogSo 215 = .ok (.istore_n 3, 1) := by decide +kernel
theorem dL_isLogSo_216 : decode cL_isLogSo 216 = .ok (.iconst 0, 1) := by decide +kernel
theorem dL_isLogSo_217 : decode cL_isLogSo 217 = .ok (.istore 7, 2) := by decide +kernel
theorem dL_isLogSo_219 : decode cL_isLogSo 219 = .ok (.iload 7, 2) := by decide +kernel
theorem dL_isLogSo_221 : decode cL_isLogSo 221 = .ok (.iconst 4, 1) := by decide +kernel
theorem dL_isLogSo_222 : decode cL_isLogSo 222 = .ok (.if_icmp .ge 93, 3) := by decide +kernel
theorem dL_isLogSo_225 : decode cL_isLogSo 225 = .ok (.iload 4, 2) := by decide +kernel
theorem dL_isLogSo_227 : decode cL_isLogSo 227 = .ok (.bipush 9, 2) := by decide +kernel
theorem dL_isLogSo_229 : decode cL_isLogSo 229 = .ok (.irem, 1) := by decide +kernel
theorem dL_isLogSo_230 : decode cL_isLogSo 230 = .ok (.bipush 8, 2) := by decide +kernel
theorem dL_isLogSo_232 : decode cL_isLogSo 232 = .ok (.if_icmp .ge 83, 3) := by decide +kernel
theorem dL_isLogSo_235 : decode cL_isLogSo 235 = .ok (.iload 4, 2) := by decide +kernel
theorem dL_isLogSo_237 : decode cL_isLogSo 237 = .ok (.bipush 9, 2) := by decide +kernel
theorem dL_isLogSo_239 : decode cL_isLogSo 239 = .ok (.idiv, 1) := by decide +kernel
theorem dL_isLogSo_240 : decode cL_isLogSo 240 = .ok (.istore 8, 2) := by decide +kernel
theorem dL_isLogSo_242 : decode cL_isLogSo 242 = .ok (.iload 8, 2) := by decide +kernel
theorem dL_isLogSo_244 : decode cL_isLogSo 244 = .ok (.ifCond .ne 16, 3) := by decide +kernel
theorem dL_isLogSo_247 : decode cL_isLogSo 247 = .ok (.iconst 2, 1) := by decide +kernel
theorem dL_isLogSo_248 : decode cL_isLogSo 248 = .ok (.aload_n 0, 1) := by decide +kernel
theorem dL_isLogSo_249 : decode cL_isLogSo 249 = .ok (.iload 7, 2) := by decide +kernel
theorem dL_isLogSo_251 : decode cL_isLogSo 251 = .ok (.iconst 0, 1) := by decide +kernel
theorem dL_isLogSo_252 : decode cL_isLogSo 252 = .ok (.iconst 0, 1) := by decide +kernel
