theorem dX6_tickUnanswered_7 : decode cX6_tickUnanswered 7 = .ok (.iconst 0, 1) := by decide +kernel
theorem dX6_tickUnanswered_8 : decode cX6_tickUnanswered 8 = .ok (.istore_n 1, 1) := by decide +kernel
theorem dX6_tickUnanswered_9 : decode cX6_tickUnanswered 9 = .ok (.iload_n 1, 1) := by decide +kernel
theorem dX6_tickUnanswered_10 : decode cX6_tickUnanswered 10 = .ok (.iconst 4, 1) := by decide +kernel
theorem dX6_tickUnanswered_11 : decode cX6_tickUnanswered 11 = .ok (.if_icmp .ge 96, 3) := by decide +kernel
theorem dX6_tickUnanswered_14 : decode cX6_tickUnanswered 14 = .ok (.aload_n 0, 1) := by decide +kernel
theorem dX6_tickUnanswered_15 : decode cX6_tickUnanswered 15 = .ok (.iload_n 1, 1) := by decide +kernel
theorem dX6_tickUnanswered_16 : decode cX6_tickUnanswered 16 = .ok (.invokevirtual 47, 3) := by decide +kernel
theorem dX6_tickUnanswered_19 : decode cX6_tickUnanswered 19 = .ok (.ifCond .eq 82, 3) := by decide +kernel
theorem dX6_tickUnanswered_22 : decode cX6_tickUnanswered 22 = .ok (.aload_n 0, 1) := by decide +kernel
theorem dX6_tickUnanswered_23 : decode cX6_tickUnanswered 23 = .ok (.getfield 7, 3) := by decide +kernel
theorem dX6_tickUnanswered_26 : decode cX6_tickUnanswered 26 = .ok (.iload_n 1, 1) := by decide +kernel
theorem dX6_tickUnanswered_27 : decode cX6_tickUnanswered 27 = .ok (.iconst 1, 1) := by decide +kernel
theorem dX6_tickUnanswered_28 : decode cX6_tickUnanswered 28 = .ok (.invokestatic 33, 3) := by decide +kernel
theorem dX6_tickUnanswered_31 : decode cX6_tickUnanswered 31 = .ok (.iconst 0, 1) := by decide +kernel
theorem dX6_tickUnanswered_32 : decode cX6_tickUnanswered 32 = .ok (.iastore, 1) := by decide +kernel
theorem dX6_tickUnanswered_33 : decode cX6_tickUnanswered 33 = .ok (.aload_n 0, 1) := by decide +kernel
theorem dX6_tickUnanswered_34 : decode cX6_tickUnanswered 34 = .ok (.getfield 7, 3) := by decide +kernel
theorem dX6_tickUnanswered_37 : decode cX6_tickUnanswered 37 = .ok (.iload_n 1, 1) := by decide +kernel
theorem dX6_tickUnanswered_38 : decode cX6_tickUnanswered 38 = .ok (.iconst 4, 1) := by decide +kernel
theorem dX6_tickUnanswered_39 : decode cX6_tickUnanswered 39 = .ok (.invokestatic 33, 3) := by decide +kernel
theorem dX6_tickUnanswered_42 : decode cX6_tickUnanswered 42 = .ok (.dup2, 1) := by decide +kernel
theorem dX6_tickUnanswered_43 : decode cX6_tickUnanswered 43 = .ok (.iaload, 1) := by decide +kernel
theorem dX6_tickUnanswered_44 : decode cX6_tickUnanswered 44 = .ok (.iconst 1, 1) := by decide +kernel
theorem dX6_tickUnanswered_45 : decode cX6_tickUnanswered 45 = .ok (.iadd, 1) := by decide +kernel
theorem dX6_tickUnanswered_46 : decode cX6_tickUnanswered 46 = .ok (.iastore, 1) := by decide +kernel
theorem dX6_tickUnanswered_47 : decode cX6_tickUnanswered 47 = .ok (.aload_n 0, 1) := by decide +kernel
theorem dX6_tickUnanswered_48 : decode cX6_tickUnanswered 48 = .ok (.getfield 7, 3) := by decide +kernel
theorem dX6_tickUnanswered_51 : decode cX6_tickUnanswered 51 = .ok (.iload_n 1, 1) := by decide +kernel
theorem dX6_tickUnanswered_52 : decode cX6_tickUnanswered 52 = .ok (.bipush 6, 2) := by decide +kernel
theorem dX6_tickUnanswered_54 : decode cX6_tickUnanswered 54 = .ok (.invokestatic 33, 3) := by decide +kernel
theorem dX6_tickUnanswered_57 : decode cX6_tickUnanswered 57 = .ok (.dup2, 1) := by decide +kernel
theorem dX6_tickUnanswered_58 : decode cX6_tickUnanswered 58 = .ok (.iaload, 1) := by decide +kernel
theorem dX6_tickUnanswered_59 : decode cX6_tickUnanswered 59 = .ok (.iconst 1, 1) := by decide +kernel
theorem dX6_tickUnanswered_60 : decode cX6_tickUnanswered 60 = .ok (.iadd, 1) := by decide +kernel
theorem dX6_tickUnanswered_61 : decode cX6_tickUnanswered 61 = .ok (.iastore, 1) := by decide +kernel
theorem dX6_tickUnanswered_62 : decode cX6_tickUnanswered 62 = .ok (.aload_n 0, 1) := by decide +kernel
theorem dX6_tickUnanswered_63 : decode cX6_tickUnanswered 63 = .ok (.getfield 7, 3) := by decide +kernel
theorem dX6_tickUnanswered_66 : decode cX6_tickUnanswered 66 = .ok (.iload_n 1, 1) := by decide +kernel
theorem dX6_tickUnanswered_67 : decode cX6_tickUnanswered 67 = .ok (.bipush 6, 2) := by decide +kernel
theorem dX6_tickUnanswered_69 : decode cX6_tickUnanswered 69 = .ok (.invokestatic 33, 3) := by decide +kernel
theorem dX6_tickUnanswered_72 : decode cX6_tickUnanswered 72 = .ok (.iaload, 1) := by decide +kernel
theorem dX6_tickUnanswered_73 : decode cX6_tickUnanswered 73 = .ok (.aload_n 0, 1) := by decide +kernel
theorem dX6_tickUnanswered_74 : decode cX6_tickUnanswered 74 = .ok (.getfield 7, 3) := by decide +kernel
theorem dX6_tickUnanswered_77 : decode cX6_tickUnanswered 77 = .ok (.iconst 1, 1) := by decide +kernel
theorem dX6_tickUnanswered_78 : decode cX6_tickUnanswered 78 = .ok (.iaload, 1) := by decide +kernel
theorem dX6_tickUnanswered_79 : decode cX6_tickUnanswered 79 = .ok (.if_icmp .lt 22, 3) := by decide +kernel
theorem dX6_tickUnanswered_82 : decode cX6_tickUnanswered 82 = .ok (.aload_n 0, 1) := by decide +kernel
theorem dX6_tickUnanswered_83 : decode cX6_tickUnanswered 83 = .ok (.getfield 7, 3) := by decide +kernel
theorem dX6_tickUnanswered_86 : decode cX6_tickUnanswered 86 = .ok (.iload_n 1, 1) := by decide +kernel
theorem dX6_tickUnanswered_87 : decode cX6_tickUnanswered 87 = .ok (.iconst 5, 1) := by decide +kernel
theorem dX6_tickUnanswered_88 : decode cX6_tickUnanswered 88 = .ok (.invokestatic 33, 3) := by decide +kernel
theorem dX6_tickUnanswered_91 : decode cX6_tickUnanswered 91 = .ok (.dup2, 1) := by decide +kernel
theorem dX6_tickUnanswered_92 : decode cX6_tickUnanswered 92 = .ok (.iaload, 1) := by decide +kernel
theorem dX6_tickUnanswered_93 : decode cX6_tickUnanswered 93 = .ok (.iconst 1, 1) := by decide +kernel
theorem dX6_tickUnanswered_94 : decode cX6_tickUnanswered 94 = .ok (.iadd, 1) := by decide +kernel
theorem dX6_tickUnanswered_95 : decode cX6_tickUnanswered 95 = .ok (.iastore, 1) := by decide +kernel
theorem dX6_tickUnanswered_96 : decode cX6_tickUnanswered 96 = .ok (.aload_n 0, 1) := by decide +kernel
theorem dX6_tickUnanswered_97 : decode cX6_tickUnanswered 97 = .ok (.iload_n 1, 1) := by decide +kernel
theorem dX6_tickUnanswered_98 : decode cX6_tickUnanswered 98 = .ok (.invokevirtual 81, 3) := by decide +kernel
theorem dX6_tickUnanswered_101 : decode cX6_tickUnanswered 101 = .ok (.iinc 1 1, 3) := by decide +kernel
theorem dX6_tickUnanswered_104 : decode cX6_tickUnanswered 104 = .ok (.goto (-95), 3) := by decide +kernel
theorem dX6_tickUnanswered_107 : decode cX6_tickUnanswered 107 = .ok (.aload_n 0, 1) := by decide +kernel
theorem dX6_tickUnanswered_108 : decode cX6_tickUnanswered 108 = .ok (.invokevirtual 64, 3) := by decide +kernel
theorem dX6_tickUnanswered_111 : decode cX6_tickUnanswered 111 = .ok (.return_, 1) := by decide +kernel
theorem dX6_messages_0 : decode cX6_messages 0 = .ok (.iconst 0, 1) := by decide +kernel
theorem dX6_messages_1 : decode cX6_messages 1 = .ok (.istore_n 1, 1) := by decide +kernel
theorem dX6_messages_2 : decode cX6_messages 2 = .ok (.iconst 0, 1) := by decide +kernel
theorem dX6_messages_3 : decode cX6_messages 3 = .ok (.istore_n 2, 1) := by decide +kernel
theorem dX6_messages_4 : decode cX6_messages 4 = .ok (.iload_n 2, 1) := by decide +kernel
theorem dX6_messages_5 : decode cX6_messages 5 = .ok (.iconst 4, 1) := by decide +kernel
theorem dX6_messages_6 : decode cX6_messages 6 = .ok (.if_icmp .ge 22, 3) := by decide +kernel
theorem dX6_messages_9 : decode cX6_messages 9 = .ok (.iload_n 1, 1) := by decide +kernel
theorem dX6_messages_10 : decode cX6_messages 10 = .ok (.aload_n 0, 1) := by decide +kernel
theorem dX6_messages_11 : decode cX6_messages 11 = .ok (.getfield 7, 3) := by decide +kernel
theorem dX6_messages_14 : decode cX6_messages 14 = .ok (.iload_n 2, 1) := by decide +kernel
theorem dX6_messages_15 : decode cX6_messages 15 = .ok (.iconst 0, 1) := by decide +kernel
theorem dX6_messages_16 : decode cX6_messages 16 = .ok (.invokestatic 33, 3) := by decide +kernel
theorem dX6_messages_19 : decode cX6_messages 19 = .ok (.iaload, 1) := by decide +kernel
theorem dX6_messages_20 : decode cX6_messages 20 = .ok (.iadd, 1) := by decide +kernel
theorem dX6_messages_21 : decode cX6_messages 21 = .ok (.istore_n 1, 1) := by decide +kernel
theorem dX6_messages_22 : decode cX6_messages 22 = .ok (.iinc 2 1, 3) := by decide +kernel
theorem dX6_messages_25 : decode cX6_messages 25 = .ok (.goto (-21), 3) := by decide +kernel
theorem dX6_messages_28 : decode cX6_messages 28 = .ok (.iload_n 1, 1) := by decide +kernel
theorem dX6_messages_29 : decode cX6_messages 29 = .ok (.ireturn, 1) := by decide +kernel
theorem dX6_tickFree_0 : decode cX6_tickFree 0 = .ok (.aload_n 0, 1) := by decide +kernel
theorem dX6_tickFree_1 : decode cX6_tickFree 1 = .ok (.getfield 7, 3) := by decide +kernel
theorem dX6_tickFree_4 : decode cX6_tickFree 4 = .ok (.bipush 113, 2) := by decide +kernel
theorem dX6_tickFree_6 : decode cX6_tickFree 6 = .ok (.dup2, 1) := by decide +kernel
theorem dX6_tickFree_7 : decode cX6_tickFree 7 = .ok (.iaload, 1) := by decide +kernel
theorem dX6_tickFree_8 : decode cX6_tickFree 8 = .ok (.iconst 1, 1) := by decide +kernel
theorem dX6_tickFree_9 : decode cX6_tickFree 9 = .ok (.iadd, 1) := by decide +kernel
theorem dX6_tickFree_10 : decode cX6_tickFree 10 = .ok (.iastore, 1) := by decide +kernel
theorem dX6_tickFree_11 : decode cX6_tickFree 11 = .ok (.aload_n 0, 1) := by decide +kernel
theorem dX6_tickFree_12 : decode cX6_tickFree 12 = .ok (.getfield 7, 3) := by decide +kernel
theorem dX6_tickFree_15 : decode cX6_tickFree 15 = .ok (.bipush 113, 2) := by decide +kernel
theorem dX6_tickFree_17 : decode cX6_tickFree 17 = .ok (.iaload, 1) := by decide +kernel
theorem dX6_tickFree_18 : decode cX6_tickFree 18 = .ok (.aload_n 0, 1) := by decide +kernel
theorem dX6_tickFree_19 : decode cX6_tickFree 19 = .ok (.getfield 7, 3) := by decide +kernel
theorem dX6_tickFree_22 : decode cX6_tickFree 22 = .ok (.iconst 0, 1) := by decide +kernel
theorem dX6_tickFree_23 : decode cX6_tickFree 23 = .ok (.iaload, 1) := by decide +kernel
theorem dX6_tickFree_24 : decode cX6_tickFree 24 = .ok (.if_icmp .lt 78, 3) := by decide +kernel
theorem dX6_tickFree_27 : decode cX6_tickFree 27 = .ok (.aload_n 0, 1) := by decide +kernel
theorem dX6_tickFree_28 : decode cX6_tickFree 28 = .ok (.invokevirtual 85, 3) := by decide +kernel
theorem dX6_tickFree_31 : decode cX6_tickFree 31 = .ok (.ifCond .le 71, 3) := by decide +kernel
theorem dX6_tickFree_34 : decode cX6_tickFree 34 = .ok (.iconst 0, 1) := by decide +kernel
theorem dX6_tickFree_35 : decode cX6_tickFree 35 = .ok (.istore_n 1, 1) := by decide +kernel
theorem dX6_tickFree_36 : decode cX6_tickFree 36 = .ok (.iload_n 1, 1) := by decide +kernel
theorem dX6_tickFree_37 : decode cX6_tickFree 37 = .ok (.iconst 4, 1) := by decide +kernel
theorem dX6_tickFree_38 : decode cX6_tickFree 38 = .ok (.if_icmp .ge 37, 3) := by decide +kernel
theorem dX6_tickFree_41 : decode cX6_tickFree 41 = .ok (.aload_n 0, 1) := by decide +kernel
theorem dX6_tickFree_42 : decode cX6_tickFree 42 = .ok (.getfield 7, 3) := by decide +kernel
theorem dX6_tickFree_45 : decode cX6_tickFree 45 = .ok (.iload_n 1, 1) := by decide +kernel
theorem dX6_tickFree_46 : decode cX6_tickFree 46 = .ok (.iconst 1, 1) := by decide +kernel
theorem dX6_tickFree_47 : decode cX6_tickFree 47 = .ok (.invokestatic 33, 3) := by decide +kernel
theorem dX6_tickFree_50 : decode cX6_tickFree 50 = .ok (.aload_n 0, 1) := by decide +kernel
theorem dX6_tickFree_51 : decode cX6_tickFree 51 = .ok (.getfield 7, 3) := by decide +kernel
theorem dX6_tickFree_54 : decode cX6_tickFree 54 = .ok (.iload_n 1, 1) := by decide +kernel
theorem dX6_tickFree_55 : decode cX6_tickFree 55 = .ok (.iconst 0, 1) := by decide +kernel
theorem dX6_tickFree_56 : decode cX6_tickFree 56 = .ok (.invokestatic 33, 3) := by decide +kernel
theorem dX6_tickFree_59 : decode cX6_tickFree 59 = .ok (.iaload, 1) := by decide +kernel
theorem dX6_tickFree_60 : decode cX6_tickFree 60 = .ok (.ifCond .le 7, 3) := by decide +kernel
theorem dX6_tickFree_63 : decode cX6_tickFree 63 = .ok (.iconst 1, 1) := by decide +kernel
theorem dX6_tickFree_64 : decode cX6_tickFree 64 = .ok (.goto 4, 3) := by decide +kernel
theorem dX6_tickFree_67 : decode cX6_tickFree 67 = .ok (.iconst 0, 1) := by decide +kernel
theorem dX6_tickFree_68 : decode cX6_tickFree 68 = .ok (.iastore, 1) := by decide +kernel
theorem dX6_tickFree_69 : decode cX6_tickFree 69 = .ok (.iinc 1 1, 3) := by decide +kernel
theorem dX6_tickFree_72 : decode cX6_tickFree 72 = .ok (.goto (-36), 3) := by decide +kernel
theorem dX6_tickFree_75 : decode cX6_tickFree 75 = .ok (.aload_n 0, 1) := by decide +kernel
theorem dX6_tickFree_76 : decode cX6_tickFree 76 = .ok (.getfield 7, 3) := by decide +kernel
theorem dX6_tickFree_79 : decode cX6_tickFree 79 = .ok (.bipush 113, 2) := by decide +kernel
theorem dX6_tickFree_81 : decode cX6_tickFree 81 = .ok (.iconst 0, 1) := by decide +kernel
theorem dX6_tickFree_82 : decode cX6_tickFree 82 = .ok (.iastore, 1) := by decide +kernel
theorem dX6_tickFree_83 : decode cX6_tickFree 83 = .ok (.aload_n 0, 1) := by decide +kernel
theorem dX6_tickFree_84 : decode cX6_tickFree 84 = .ok (.getfield 7, 3) := by decide +kernel
theorem dX6_tickFree_87 : decode cX6_tickFree 87 = .ok (.bipush 115, 2) := by decide +kernel
theorem dX6_tickFree_89 : decode cX6_tickFree 89 = .ok (.iconst 0, 1) := by decide +kernel
theorem dX6_tickFree_90 : decode cX6_tickFree 90 = .ok (.iastore, 1) := by decide +kernel
theorem dX6_tickFree_91 : decode cX6_tickFree 91 = .ok (.aload_n 0, 1) := by decide +kernel
theorem dX6_tickFree_92 : decode cX6_tickFree 92 = .ok (.getfield 7, 3) := by decide +kernel
theorem dX6_tickFree_95 : decode cX6_tickFree 95 = .ok (.bipush 116, 2) := by decide +kernel
theorem dX6_tickFree_97 : decode cX6_tickFree 97 = .ok (.dup2, 1) := by decide +kernel
theorem dX6_tickFree_98 : decode cX6_tickFree 98 = .ok (.iaload, 1) := by decide +kernel
theorem dX6_tickFree_99 : decode cX6_tickFree 99 = .ok (.iconst 1, 1) := by decide +kernel
theorem dX6_tickFree_100 : decode cX6_tickFree 100 = .ok (.iadd, 1) := by decide +kernel
theorem dX6_tickFree_101 : decode cX6_tickFree 101 = .ok (.iastore, 1) := by decide +kernel
theorem dX6_tickFree_102 : decode cX6_tickFree 102 = .ok (.return_, 1) := by decide +kernel
theorem dX6_next_0 : decode cX6_next 0 = .ok (.aload_n 0, 1) := by decide +kernel
theorem dX6_next_1 : decode cX6_next 1 = .ok (.invokevirtual 88, 3) := by decide +kernel
theorem dX6_next_4 : decode cX6_next 4 = .ok (.ifCond .le 7, 3) := by decide +kernel
theorem dX6_next_7 : decode cX6_next 7 = .ok (.iconst 4, 1) := by decide +kernel
theorem dX6_next_8 : decode cX6_next 8 = .ok (.goto 46, 3) := by decide +kernel
theorem dX6_next_11 : decode cX6_next 11 = .ok (.aload_n 0, 1) := by decide +kernel
theorem dX6_next_12 : decode cX6_next 12 = .ok (.getfield 7, 3) := by decide +kernel
theorem dX6_next_15 : decode cX6_next 15 = .ok (.bipush 112, 2) := by decide +kernel
theorem dX6_next_17 : decode cX6_next 17 = .ok (.iaload, 1) := by decide +kernel
theorem dX6_next_18 : decode cX6_next 18 = .ok (.ifCond .le 7, 3) := by decide +kernel
theorem dX6_next_21 : decode cX6_next 21 = .ok (.iconst 3, 1) := by decide +kernel
theorem dX6_next_22 : decode cX6_next 22 = .ok (.goto 32, 3) := by decide +kernel
theorem dX6_next_25 : decode cX6_next 25 = .ok (.aload_n 0, 1) := by decide +kernel
theorem dX6_next_26 : decode cX6_next 26 = .ok (.invokevirtual 54, 3) := by decide +kernel
theorem dX6_next_29 : decode cX6_next 29 = .ok (.ifCond .ne 7, 3) := by decide +kernel
theorem dX6_next_32 : decode cX6_next 32 = .ok (.iconst 0, 1) := by decide +kernel
theorem dX6_next_33 : decode cX6_next 33 = .ok (.goto 21, 3) := by decide +kernel
theorem dX6_next_36 : decode cX6_next 36 = .ok (.aload_n 0, 1) := by decide +kernel
theorem dX6_next_37 : decode cX6_next 37 = .ok (.getfield 7, 3) := by decide +kernel
theorem dX6_next_40 : decode cX6_next 40 = .ok (.bipush 115, 2) := by decide +kernel
theorem dX6_next_42 : decode cX6_next 42 = .ok (.iaload, 1) := by decide +kernel
theorem dX6_next_43 : decode cX6_next 43 = .ok (.invokestatic 58, 3) := by decide +kernel
theorem dX6_next_46 : decode cX6_next 46 = .ok (.ifCond .eq 7, 3) := by decide +kernel
theorem dX6_next_49 : decode cX6_next 49 = .ok (.iconst 2, 1) := by decide +kernel
theorem dX6_next_50 : decode cX6_next 50 = .ok (.goto 4, 3) := by decide +kernel
theorem dX6_next_53 : decode cX6_next 53 = .ok (.iconst 1, 1) := by decide +kernel
theorem dX6_next_54 : decode cX6_next 54 = .ok (.ireturn, 1) := by decide +kernel
theorem dX6_tick_0 : decode cX6_tick 0 = .ok (.aload_n 0, 1) := by decide +kernel
theorem dX6_tick_1 : decode cX6_tick 1 = .ok (.invokevirtual 91, 3) := by decide +kernel
theorem dX6_tick_4 : decode cX6_tick 4 = .ok (.istore_n 1, 1) := by decide +kernel
theorem dX6_tick_5 : decode cX6_tick 5 = .ok (.aload_n 0, 1) := by decide +kernel
theorem dX6_tick_6 : decode cX6_tick 6 = .ok (.getfield 7, 3) := by decide +kernel
theorem dX6_tick_9 : decode cX6_tick 9 = .ok (.iconst 3, 1) := by decide +kernel
theorem dX6_tick_10 : decode cX6_tick 10 = .ok (.dup2, 1) := by decide +kernel
theorem dX6_tick_11 : decode cX6_tick 11 = .ok (.iaload, 1) := by decide +kernel
theorem dX6_tick_12 : decode cX6_tick 12 = .ok (.iconst 1, 1) := by decide +kernel
theorem dX6_tick_13 : decode cX6_tick 13 = .ok (.iadd, 1) := by decide +kernel
theorem dX6_tick_14 : decode cX6_tick 14 = .ok (.iastore, 1) := by decide +kernel
theorem dX6_tick_15 : decode cX6_tick 15 = .ok (.iload_n 1, 1) := by decide +kernel
theorem dX6_tick_16 : decode cX6_tick 16 = .ok (.iconst 4, 1) := by decide +kernel
theorem dX6_tick_17 : decode cX6_tick 17 = .ok (.if_icmp .ne 8, 3) := by decide +kernel
theorem dX6_tick_20 : decode cX6_tick 20 = .ok (.aload_n 0, 1) := by decide +kernel
theorem dX6_tick_21 : decode cX6_tick 21 = .ok (.invokevirtual 94, 3) := by decide +kernel
theorem dX6_tick_24 : decode cX6_tick 24 = .ok (.return_, 1) := by decide +kernel
theorem dX6_tick_25 : decode cX6_tick 25 = .ok (.aload_n 0, 1) := by decide +kernel
theorem dX6_tick_26 : decode cX6_tick 26 = .ok (.getfield 7, 3) := by decide +kernel
theorem dX6_tick_29 : decode cX6_tick 29 = .ok (.bipush 114, 2) := by decide +kernel
theorem dX6_tick_31 : decode cX6_tick 31 = .ok (.iconst 0, 1) := by decide +kernel
theorem dX6_tick_32 : decode cX6_tick 32 = .ok (.iastore, 1) := by decide +kernel
theorem dX6_tick_33 : decode cX6_tick 33 = .ok (.iload_n 1, 1) := by decide +kernel
theorem dX6_tick_34 : decode cX6_tick 34 = .ok (.iconst 3, 1) := by decide +kernel
theorem dX6_tick_35 : decode cX6_tick 35 = .ok (.if_icmp .ne 17, 3) := by decide +kernel
theorem dX6_tick_38 : decode cX6_tick 38 = .ok (.aload_n 0, 1) := by decide +kernel
theorem dX6_tick_39 : decode cX6_tick 39 = .ok (.getfield 7, 3) := by decide +kernel
theorem dX6_tick_42 : decode cX6_tick 42 = .ok (.bipush 112, 2) := by decide +kernel
theorem dX6_tick_44 : decode cX6_tick 44 = .ok (.dup2, 1) := by decide +kernel
theorem dX6_tick_45 : decode cX6_tick 45 = .ok (.iaload, 1) := by decide +kernel
theorem dX6_tick_46 : decode cX6_tick 46 = .ok (.iconst 1, 1) := by decide +kernel
theorem dX6_tick_47 : decode cX6_tick 47 = .ok (.isub, 1) := by decide +kernel
theorem dX6_tick_48 : decode cX6_tick 48 = .ok (.iastore, 1) := by decide +kernel
theorem dX6_tick_49 : decode cX6_tick 49 = .ok (.goto 59, 3) := by decide +kernel
theorem dX6_tick_52 : decode cX6_tick 52 = .ok (.iload_n 1, 1) := by decide +kernel
theorem dX6_tick_53 : decode cX6_tick 53 = .ok (.iconst 1, 1) := by decide +kernel
theorem dX6_tick_54 : decode cX6_tick 54 = .ok (.if_icmp .ne 10, 3) := by decide +kernel
theorem dX6_tick_57 : decode cX6_tick 57 = .ok (.aload_n 0, 1) := by decide +kernel
theorem dX6_tick_58 : decode cX6_tick 58 = .ok (.invokevirtual 97, 3) := by decide +kernel
theorem dX6_tick_61 : decode cX6_tick 61 = .ok (.goto 47, 3) := by decide +kernel
theorem dX6_tick_64 : decode cX6_tick 64 = .ok (.iload_n 1, 1) := by decide +kernel
theorem dX6_tick_65 : decode cX6_tick 65 = .ok (.ifCond .ne 10, 3) := by decide +kernel
theorem dX6_tick_68 : decode cX6_tick 68 = .ok (.aload_n 0, 1) := by decide +kernel
theorem dX6_tick_69 : decode cX6_tick 69 = .ok (.invokevirtual 100, 3) := by decide +kernel
theorem dX6_tick_72 : decode cX6_tick 72 = .ok (.goto 36, 3) := by decide +kernel
theorem dX6_tick_75 : decode cX6_tick 75 = .ok (.aload_n 0, 1) := by decide +kernel
theorem dX6_tick_76 : decode cX6_tick 76 = .ok (.aload_n 0, 1) := by decide +kernel
theorem dX6_tick_77 : decode cX6_tick 77 = .ok (.aload_n 0, 1) := by decide +kernel
theorem dX6_tick_78 : decode cX6_tick 78 = .ok (.invokevirtual 71, 3) := by decide +kernel
theorem dX6_tick_81 : decode cX6_tick 81 = .ok (.iconst 0, 1) := by decide +kernel
theorem dX6_tick_82 : decode cX6_tick 82 = .ok (.iconst 0, 1) := by decide +kernel
theorem dX6_tick_83 : decode cX6_tick 83 = .ok (.invokevirtual 43, 3) := by decide +kernel
theorem dX6_tick_86 : decode cX6_tick 86 = .ok (.invokevirtual 74, 3) := by decide +kernel
theorem dX6_tick_89 : decode cX6_tick 89 = .ok (.istore_n 2, 1) := by decide +kernel
theorem dX6_tick_90 : decode cX6_tick 90 = .ok (.iload_n 2, 1) := by decide +kernel
theorem dX6_tick_91 : decode cX6_tick 91 = .ok (.bipush (-5), 2) := by decide +kernel
theorem dX6_tick_93 : decode cX6_tick 93 = .ok (.if_icmp .ne 10, 3) := by decide +kernel
theorem dX6_tick_96 : decode cX6_tick 96 = .ok (.aload_n 0, 1) := by decide +kernel
theorem dX6_tick_97 : decode cX6_tick 97 = .ok (.invokevirtual 103, 3) := by decide +kernel
theorem dX6_tick_100 : decode cX6_tick 100 = .ok (.goto 8, 3) := by decide +kernel
theorem dX6_tick_103 : decode cX6_tick 103 = .ok (.aload_n 0, 1) := by decide +kernel
theorem dX6_tick_104 : decode cX6_tick 104 = .ok (.iload_n 2, 1) := by decide +kernel
theorem dX6_tick_105 : decode cX6_tick 105 = .ok (.invokevirtual 106, 3) := by decide +kernel
theorem dX6_tick_108 : decode cX6_tick 108 = .ok (.return_, 1) := by decide +kernel
theorem dX6_came_0 : decode cX6_came 0 = .ok (.iconst 0, 1) := by decide +kernel
theorem dX6_came_1 : decode cX6_came 1 = .ok (.istore_n 1, 1) := by decide +kernel
theorem dX6_came_2 : decode cX6_came 2 = .ok (.iconst 0, 1) := by decide +kernel
theorem dX6_came_3 : decode cX6_came 3 = .ok (.istore_n 2, 1) := by decide +kernel
theorem dX6_came_4 : decode cX6_came 4 = .ok (.iload_n 2, 1) := by decide +kernel
theorem dX6_came_5 : decode cX6_came 5 = .ok (.iconst 4, 1) := by decide +kernel
theorem dX6_came_6 : decode cX6_came 6 = .ok (.if_icmp .ge 22, 3) := by decide +kernel
theorem dX6_came_9 : decode cX6_came 9 = .ok (.iload_n 1, 1) := by decide +kernel
theorem dX6_came_10 : decode cX6_came 10 = .ok (.aload_n 0, 1) := by decide +kernel
theorem dX6_came_11 : decode cX6_came 11 = .ok (.getfield 7, 3) := by decide +kernel
theorem dX6_came_14 : decode cX6_came 14 = .ok (.iload_n 2, 1) := by decide +kernel
theorem dX6_came_15 : decode cX6_came 15 = .ok (.iconst 2, 1) := by decide +kernel
theorem dX6_came_16 : decode cX6_came 16 = .ok (.invokestatic 33, 3) := by decide +kernel
theorem dX6_came_19 : decode cX6_came 19 = .ok (.iaload, 1) := by decide +kernel
theorem dX6_came_20 : decode cX6_came 20 = .ok (.iadd, 1) := by decide +kernel
theorem dX6_came_21 : decode cX6_came 21 = .ok (.istore_n 1, 1) := by decide +kernel
theorem dX6_came_22 : decode cX6_came 22 = .ok (.iinc 2 1, 3) := by decide +kernel
theorem dX6_came_25 : decode cX6_came 25 = .ok (.goto (-21), 3) := by decide +kernel
theorem dX6_came_28 : decode cX6_came 28 = .ok (.iload_n 1, 1) := by decide +kernel
theorem dX6_came_29 : decode cX6_came 29 = .ok (.ireturn, 1) := by decide +kernel
theorem dX6_says_0 : decode cX6_says 0 = .ok (.iload_n 1, 1) := by decide +kernel
theorem dX6_says_1 : decode cX6_says 1 = .ok (.invokestatic 109, 3) := by decide +kernel
theorem dX6_says_4 : decode cX6_says 4 = .ok (.ifCond .ne 5, 3) := by decide +kernel
theorem dX6_says_7 : decode cX6_says 7 = .ok (.iconst (-1), 1) := by decide +kernel
theorem dX6_says_8 : decode cX6_says 8 = .ok (.ireturn, 1) := by decide +kernel
theorem dX6_says_9 : decode cX6_says 9 = .ok (.iload_n 2, 1) := by decide +kernel
theorem dX6_says_10 : decode cX6_says 10 = .ok (.iconst 0, 1) := by decide +kernel
theorem dX6_says_11 : decode cX6_says 11 = .ok (.bipush 127, 2) := by decide +kernel
theorem dX6_says_13 : decode cX6_says 13 = .ok (.invokestatic 36, 3) := by decide +kernel
theorem dX6_says_16 : decode cX6_says 16 = .ok (.ifCond .eq 33, 3) := by decide +kernel
theorem dX6_says_19 : decode cX6_says 19 = .ok (.iload_n 3, 1) := by decide +kernel
theorem dX6_says_20 : decode cX6_says 20 = .ok (.iconst 0, 1) := by decide +kernel
theorem dX6_says_21 : decode cX6_says 21 = .ok (.sipush 255, 3) := by decide +kernel
theorem dX6_says_24 : decode cX6_says 24 = .ok (.invokestatic 36, 3) := by decide +kernel
theorem dX6_says_27 : decode cX6_says 27 = .ok (.ifCond .eq 22, 3) := by decide +kernel
theorem dX6_says_30 : decode cX6_says 30 = .ok (.iload 4, 2) := by decide +kernel
theorem dX6_says_32 : decode cX6_says 32 = .ok (.iconst 0, 1) := by decide +kernel
theorem dX6_says_33 : decode cX6_says 33 = .ok (.sipush 255, 3) := by decide +kernel
theorem dX6_says_36 : decode cX6_says 36 = .ok (.invokestatic 36, 3) := by decide +kernel
theorem dX6_says_39 : decode cX6_says 39 = .ok (.ifCond .ne 13, 3) := by decide +kernel
theorem dX6_says_42 : decode cX6_says 42 = .ok (.iload 4, 2) := by decide +kernel
theorem dX6_says_44 : decode cX6_says 44 = .ok (.bipush (-5), 2) := by decide +kernel
theorem dX6_says_46 : decode cX6_says 46 = .ok (.if_icmp .eq 6, 3) := by decide +kernel
theorem dX6_says_49 : decode cX6_says 49 = .ok (.bipush (-2), 2) := by decide +kernel
theorem dX6_says_51 : decode cX6_says 51 = .ok (.ireturn, 1) := by decide +kernel
theorem dX6_says_52 : decode cX6_says 52 = .ok (.aload_n 0, 1) := by decide +kernel
theorem dX6_says_53 : decode cX6_says 53 = .ok (.getfield 7, 3) := by decide +kernel
theorem dX6_says_56 : decode cX6_says 56 = .ok (.iload_n 1, 1) := by decide +kernel
theorem dX6_says_57 : decode cX6_says 57 = .ok (.iconst 0, 1) := by decide +kernel
theorem dX6_says_58 : decode cX6_says 58 = .ok (.invokestatic 33, 3) := by decide +kernel
theorem dX6_says_61 : decode cX6_says 61 = .ok (.iaload, 1) := by decide +kernel
theorem dX6_says_62 : decode cX6_says 62 = .ok (.istore 5, 2) := by decide +kernel
theorem dX6_says_64 : decode cX6_says 64 = .ok (.iload 5, 2) := by decide +kernel
theorem dX6_says_66 : decode cX6_says 66 = .ok (.iconst 5, 1) := by decide +kernel
theorem dX6_says_67 : decode cX6_says 67 = .ok (.if_icmp .ne 6, 3) := by decide +kernel
theorem dX6_says_70 : decode cX6_says 70 = .ok (.bipush (-3), 2) := by decide +kernel
theorem dX6_says_72 : decode cX6_says 72 = .ok (.ireturn, 1) := by decide +kernel
theorem dX6_says_73 : decode cX6_says 73 = .ok (.aload_n 0, 1) := by decide +kernel
theorem dX6_says_74 : decode cX6_says 74 = .ok (.getfield 7, 3) := by decide +kernel
theorem dX6_says_77 : decode cX6_says 77 = .ok (.iload_n 1, 1) := by decide +kernel
theorem dX6_says_78 : decode cX6_says 78 = .ok (.bipush 7, 2) := by decide +kernel
theorem dX6_says_80 : decode cX6_says 80 = .ok (.iconst 3, 1) := by decide +kernel
theorem dX6_says_81 : decode cX6_says 81 = .ok (.iload 5, 2) := by decide +kernel
theorem dX6_says_83 : decode cX6_says 83 = .ok (.imul, 1) := by decide +kernel
theorem dX6_says_84 : decode cX6_says 84 = .ok (.iadd, 1) := by decide +kernel
theorem dX6_says_85 : decode cX6_says 85 = .ok (.invokestatic 33, 3) := by decide +kernel
theorem dX6_says_88 : decode cX6_says 88 = .ok (.iload_n 2, 1) := by decide +kernel
theorem dX6_says_89 : decode cX6_says 89 = .ok (.iastore, 1) := by decide +kernel
theorem dX6_says_90 : decode cX6_says 90 = .ok (.aload_n 0, 1) := by decide +kernel
theorem dX6_says_91 : decode cX6_says 91 = .ok (.getfield 7, 3) := by decide +kernel
theorem dX6_says_94 : decode cX6_says 94 = .ok (.iload_n 1, 1) := by decide +kernel
theorem dX6_says_95 : decode cX6_says 95 = .ok (.bipush 7, 2) := by decide +kernel
theorem dX6_says_97 : decode cX6_says 97 = .ok (.iconst 3, 1) := by decide +kernel
theorem dX6_says_98 : decode cX6_says 98 = .ok (.iload 5, 2) := by decide +kernel
theorem dX6_says_100 : decode cX6_says 100 = .ok (.imul, 1) := by decide +kernel
theorem dX6_says_101 : decode cX6_says 101 = .ok (.iadd, 1) := by decide +kernel
theorem dX6_says_102 : decode cX6_says 102 = .ok (.iconst 1, 1) := by decide +kernel
theorem dX6_says_103 : decode cX6_says 103 = .ok (.iadd, 1) := by decide +kernel
theorem dX6_says_104 : decode cX6_says 104 = .ok (.invokestatic 33, 3) := by decide +kernel
theorem dX6_says_107 : decode cX6_says 107 = .ok (.iload_n 3, 1) := by decide +kernel
theorem dX6_says_108 : decode cX6_says 108 = .ok (.iastore, 1) := by decide +kernel
theorem dX6_says_109 : decode cX6_says 109 = .ok (.aload_n 0, 1) := by decide +kernel
theorem dX6_says_110 : decode cX6_says 110 = .ok (.getfield 7, 3) := by decide +kernel
theorem dX6_says_113 : decode cX6_says 113 = .ok (.iload_n 1, 1) := by decide +kernel
theorem dX6_says_114 : decode cX6_says 114 = .ok (.bipush 7, 2) := by decide +kernel
theorem dX6_says_116 : decode cX6_says 116 = .ok (.iconst 3, 1) := by decide +kernel
theorem dX6_says_117 : decode cX6_says 117 = .ok (.iload 5, 2) := by decide +kernel
theorem dX6_says_119 : decode cX6_says 119 = .ok (.imul, 1) := by decide +kernel
theorem dX6_says_120 : decode cX6_says 120 = .ok (.iadd, 1) := by decide +kernel
theorem dX6_says_121 : decode cX6_says 121 = .ok (.iconst 2, 1) := by decide +kernel
theorem dX6_says_122 : decode cX6_says 122 = .ok (.iadd, 1) := by decide +kernel
theorem dX6_says_123 : decode cX6_says 123 = .ok (.invokestatic 33, 3) := by decide +kernel
theorem dX6_says_126 : decode cX6_says 126 = .ok (.iload 4, 2) := by decide +kernel
theorem dX6_says_128 : decode cX6_says 128 = .ok (.iastore, 1) := by decide +kernel
theorem dX6_says_129 : decode cX6_says 129 = .ok (.aload_n 0, 1) := by decide +kernel
theorem dX6_says_130 : decode cX6_says 130 = .ok (.getfield 7, 3) := by decide +kernel
theorem dX6_says_133 : decode cX6_says 133 = .ok (.iload_n 1, 1) := by decide +kernel
theorem dX6_says_134 : decode cX6_says 134 = .ok (.iconst 0, 1) := by decide +kernel
theorem dX6_says_135 : decode cX6_says 135 = .ok (.invokestatic 33, 3) := by decide +kernel
theorem dX6_says_138 : decode cX6_says 138 = .ok (.dup2, 1) := by decide +kernel
theorem dX6_says_139 : decode cX6_says 139 = .ok (.iaload, 1) := by decide +kernel
theorem dX6_says_140 : decode cX6_says 140 = .ok (.iconst 1, 1) := by decide +kernel
theorem dX6_says_141 : decode cX6_says 141 = .ok (.iadd, 1) := by decide +kernel
theorem dX6_says_142 : decode cX6_says 142 = .ok (.iastore, 1) := by decide +kernel
theorem dX6_says_143 : decode cX6_says 143 = .ok (.iload 5, 2) := by decide +kernel
theorem dX6_says_145 : decode cX6_says 145 = .ok (.iconst 1, 1) := by decide +kernel
theorem dX6_says_146 : decode cX6_says 146 = .ok (.iadd, 1) := by decide +kernel
theorem dX6_says_147 : decode cX6_says 147 = .ok (.ireturn, 1) := by decide +kernel
theorem dX6_hears_0 : decode cX6_hears 0 = .ok (.iload_n 1, 1) := by decide +kernel
theorem dX6_hears_1 : decode cX6_hears 1 = .ok (.invokestatic 109, 3) := by decide +kernel
theorem dX6_hears_4 : decode cX6_hears 4 = .ok (.ifCond .ne 5, 3) := by decide +kernel
theorem dX6_hears_7 : decode cX6_hears 7 = .ok (.iconst (-1), 1) := by decide +kernel
theorem dX6_hears_8 : decode cX6_hears 8 = .ok (.ireturn, 1) := by decide +kernel
theorem dX6_hears_9 : decode cX6_hears 9 = .ok (.iload_n 2, 1) := by decide +kernel
theorem dX6_hears_10 : decode cX6_hears 10 = .ok (.iconst 0, 1) := by decide +kernel
theorem dX6_hears_11 : decode cX6_hears 11 = .ok (.bipush 127, 2) := by decide +kernel
theorem dX6_hears_13 : decode cX6_hears 13 = .ok (.invokestatic 36, 3) := by decide +kernel
theorem dX6_hears_16 : decode cX6_hears 16 = .ok (.ifCond .ne 12, 3) := by decide +kernel
theorem dX6_hears_19 : decode cX6_hears 19 = .ok (.iload_n 2, 1) := by decide +kernel
theorem dX6_hears_20 : decode cX6_hears 20 = .ok (.bipush (-5), 2) := by decide +kernel
theorem dX6_hears_22 : decode cX6_hears 22 = .ok (.if_icmp .eq 6, 3) := by decide +kernel
theorem dX6_hears_25 : decode cX6_hears 25 = .ok (.bipush (-2), 2) := by decide +kernel
theorem dX6_hears_27 : decode cX6_hears 27 = .ok (.ireturn, 1) := by decide +kernel
theorem dX6_hears_28 : decode cX6_hears 28 = .ok (.iload_n 2, 1) := by decide +kernel
theorem dX6_hears_29 : decode cX6_hears 29 = .ok (.bipush (-5), 2) := by decide +kernel
theorem dX6_hears_31 : decode cX6_hears 31 = .ok (.if_icmp .ne 8, 3) := by decide +kernel
theorem dX6_hears_34 : decode cX6_hears 34 = .ok (.bipush (-5), 2) := by decide +kernel
theorem dX6_hears_36 : decode cX6_hears 36 = .ok (.goto 8, 3) := by decide +kernel
theorem dX6_hears_39 : decode cX6_hears 39 = .ok (.aload_n 0, 1) := by decide +kernel
theorem dX6_hears_40 : decode cX6_hears 40 = .ok (.iload_n 2, 1) := by decide +kernel
theorem dX6_hears_41 : decode cX6_hears 41 = .ok (.invokevirtual 74, 3) := by decide +kernel
theorem dX6_hears_44 : decode cX6_hears 44 = .ok (.istore_n 3, 1) := by decide +kernel
theorem dX6_hears_45 : decode cX6_hears 45 = .ok (.iload_n 3, 1) := by decide +kernel
theorem dX6_hears_46 : decode cX6_hears 46 = .ok (.bipush (-5), 2) := by decide +kernel
theorem dX6_hears_48 : decode cX6_hears 48 = .ok (.if_icmp .eq 11, 3) := by decide +kernel
theorem dX6_hears_51 : decode cX6_hears 51 = .ok (.iload_n 3, 1) := by decide +kernel
theorem dX6_hears_52 : decode cX6_hears 52 = .ok (.iload_n 1, 1) := by decide +kernel
theorem dX6_hears_53 : decode cX6_hears 53 = .ok (.if_icmp .eq 6, 3) := by decide +kernel
theorem dX6_hears_56 : decode cX6_hears 56 = .ok (.bipush (-4), 2) := by decide +kernel
theorem dX6_hears_58 : decode cX6_hears 58 = .ok (.ireturn, 1) := by decide +kernel
theorem dX6_hears_59 : decode cX6_hears 59 = .ok (.aload_n 0, 1) := by decide +kernel
theorem dX6_hears_60 : decode cX6_hears 60 = .ok (.getfield 7, 3) := by decide +kernel
theorem dX6_hears_63 : decode cX6_hears 63 = .ok (.iload_n 1, 1) := by decide +kernel
theorem dX6_hears_64 : decode cX6_hears 64 = .ok (.iconst 0, 1) := by decide +kernel
theorem dX6_hears_65 : decode cX6_hears 65 = .ok (.invokestatic 29, 3) := by decide +kernel
theorem dX6_hears_68 : decode cX6_hears 68 = .ok (.iaload, 1) := by decide +kernel
theorem dX6_hears_69 : decode cX6_hears 69 = .ok (.iload_n 2, 1) := by decide +kernel
theorem dX6_hears_70 : decode cX6_hears 70 = .ok (.if_icmp .ne 6, 3) := by decide +kernel
theorem dX6_hears_73 : decode cX6_hears 73 = .ok (.bipush (-5), 2) := by decide +kernel
theorem dX6_hears_75 : decode cX6_hears 75 = .ok (.ireturn, 1) := by decide +kernel
theorem dX6_hears_76 : decode cX6_hears 76 = .ok (.aload_n 0, 1) := by decide +kernel
theorem dX6_hears_77 : decode cX6_hears 77 = .ok (.getfield 7, 3) := by decide +kernel
theorem dX6_hears_80 : decode cX6_hears 80 = .ok (.iload_n 1, 1) := by decide +kernel
theorem dX6_hears_81 : decode cX6_hears 81 = .ok (.iconst 0, 1) := by decide +kernel
theorem dX6_hears_82 : decode cX6_hears 82 = .ok (.invokestatic 29, 3) := by decide +kernel
theorem dX6_hears_85 : decode cX6_hears 85 = .ok (.iload_n 2, 1) := by decide +kernel
theorem dX6_hears_86 : decode cX6_hears 86 = .ok (.iastore, 1) := by decide +kernel
theorem dX6_hears_87 : decode cX6_hears 87 = .ok (.iconst 0, 1) := by decide +kernel
theorem dX6_hears_88 : decode cX6_hears 88 = .ok (.istore 4, 2) := by decide +kernel
theorem dX6_hears_90 : decode cX6_hears 90 = .ok (.iconst 0, 1) := by decide +kernel
theorem dX6_hears_91 : decode cX6_hears 91 = .ok (.istore 5, 2) := by decide +kernel
theorem dX6_hears_93 : decode cX6_hears 93 = .ok (.iload 5, 2) := by decide +kernel
theorem dX6_hears_95 : decode cX6_hears 95 = .ok (.iconst 4, 1) := by decide +kernel
theorem dX6_hears_96 : decode cX6_hears 96 = .ok (.if_icmp .ge 35, 3) := by decide +kernel
theorem dX6_hears_99 : decode cX6_hears 99 = .ok (.iload 4, 2) := by decide +kernel
theorem dX6_hears_101 : decode cX6_hears 101 = .ok (.aload_n 0, 1) := by decide +kernel
theorem dX6_hears_102 : decode cX6_hears 102 = .ok (.getfield 7, 3) := by decide +kernel
theorem dX6_hears_105 : decode cX6_hears 105 = .ok (.iload 5, 2) := by decide +kernel
theorem dX6_hears_107 : decode cX6_hears 107 = .ok (.iconst 0, 1) := by decide +kernel
theorem dX6_hears_108 : decode cX6_hears 108 = .ok (.invokestatic 29, 3) := by decide +kernel
theorem dX6_hears_111 : decode cX6_hears 111 = .ok (.iaload, 1) := by decide +kernel
theorem dX6_hears_112 : decode cX6_hears 112 = .ok (.bipush (-5), 2) := by decide +kernel
theorem dX6_hears_114 : decode cX6_hears 114 = .ok (.if_icmp .eq 7, 3) := by decide +kernel
theorem dX6_hears_117 : decode cX6_hears 117 = .ok (.iconst 1, 1) := by decide +kernel
theorem dX6_hears_118 : decode cX6_hears 118 = .ok (.goto 4, 3) := by decide +kernel
theorem dX6_hears_121 : decode cX6_hears 121 = .ok (.iconst 0, 1) := by decide +kernel
theorem dX6_hears_122 : decode cX6_hears 122 = .ok (.iadd, 1) := by decide +kernel
theorem dX6_hears_123 : decode cX6_hears 123 = .ok (.istore 4, 2) := by decide +kernel
theorem dX6_hears_125 : decode cX6_hears 125 = .ok (.iinc 5 1, 3) := by decide +kernel
theorem dX6_hears_128 : decode cX6_hears 128 = .ok (.goto (-35), 3) := by decide +kernel
theorem dX6_hears_131 : decode cX6_hears 131 = .ok (.iload 4, 2) := by decide +kernel
theorem dX6_hears_133 : decode cX6_hears 133 = .ok (.ireturn, 1) := by decide +kernel
theorem dX6_holds_0 : decode cX6_holds 0 = .ok (.iload_n 1, 1) := by decide +kernel
theorem dX6_holds_1 : decode cX6_holds 1 = .ok (.invokestatic 109, 3) := by decide +kernel
theorem dX6_holds_4 : decode cX6_holds 4 = .ok (.ifCond .ne 5, 3) := by decide +kernel
theorem dX6_holds_7 : decode cX6_holds 7 = .ok (.iconst (-1), 1) := by decide +kernel
theorem dX6_holds_8 : decode cX6_holds 8 = .ok (.ireturn, 1) := by decide +kernel
theorem dX6_holds_9 : decode cX6_holds 9 = .ok (.iload_n 2, 1) := by decide +kernel
theorem dX6_holds_10 : decode cX6_holds 10 = .ok (.iconst 0, 1) := by decide +kernel
theorem dX6_holds_11 : decode cX6_holds 11 = .ok (.bipush 9, 2) := by decide +kernel
theorem dX6_holds_13 : decode cX6_holds 13 = .ok (.invokestatic 36, 3) := by decide +kernel
theorem dX6_holds_16 : decode cX6_holds 16 = .ok (.ifCond .ne 6, 3) := by decide +kernel
theorem dX6_holds_19 : decode cX6_holds 19 = .ok (.bipush (-2), 2) := by decide +kernel
theorem dX6_holds_21 : decode cX6_holds 21 = .ok (.ireturn, 1) := by decide +kernel
theorem dX6_holds_22 : decode cX6_holds 22 = .ok (.aload_n 0, 1) := by decide +kernel
theorem dX6_holds_23 : decode cX6_holds 23 = .ok (.getfield 7, 3) := by decide +kernel
theorem dX6_holds_26 : decode cX6_holds 26 = .ok (.iload_n 1, 1) := by decide +kernel
theorem dX6_holds_27 : decode cX6_holds 27 = .ok (.iconst 1, 1) := by decide +kernel
theorem dX6_holds_28 : decode cX6_holds 28 = .ok (.invokestatic 29, 3) := by decide +kernel
theorem dX6_holds_31 : decode cX6_holds 31 = .ok (.iaload, 1) := by decide +kernel
theorem dX6_holds_32 : decode cX6_holds 32 = .ok (.istore_n 3, 1) := by decide +kernel
theorem dX6_holds_33 : decode cX6_holds 33 = .ok (.aload_n 0, 1) := by decide +kernel
theorem dX6_holds_34 : decode cX6_holds 34 = .ok (.getfield 7, 3) := by decide +kernel
theorem dX6_holds_37 : decode cX6_holds 37 = .ok (.iload_n 1, 1) := by decide +kernel
theorem dX6_holds_38 : decode cX6_holds 38 = .ok (.iconst 1, 1) := by decide +kernel
theorem dX6_holds_39 : decode cX6_holds 39 = .ok (.invokestatic 29, 3) := by decide +kernel
theorem dX6_holds_42 : decode cX6_holds 42 = .ok (.iload_n 2, 1) := by decide +kernel
theorem dX6_holds_43 : decode cX6_holds 43 = .ok (.iastore, 1) := by decide +kernel
theorem dX6_holds_44 : decode cX6_holds 44 = .ok (.iload_n 3, 1) := by decide +kernel
theorem dX6_holds_45 : decode cX6_holds 45 = .ok (.iload_n 2, 1) := by decide +kernel
theorem dX6_holds_46 : decode cX6_holds 46 = .ok (.if_icmp .ne 8, 3) := by decide +kernel
theorem dX6_holds_49 : decode cX6_holds 49 = .ok (.bipush (-5), 2) := by decide +kernel
theorem dX6_holds_51 : decode cX6_holds 51 = .ok (.goto 4, 3) := by decide +kernel
theorem dX6_holds_54 : decode cX6_holds 54 = .ok (.iload_n 3, 1) := by decide +kernel
theorem dX6_holds_55 : decode cX6_holds 55 = .ok (.ireturn, 1) := by decide +kernel
theorem dX6_sticks_0 : decode cX6_sticks 0 = .ok (.iload_n 1, 1) := by decide +kernel
theorem dX6_sticks_1 : decode cX6_sticks 1 = .ok (.invokestatic 109, 3) := by decide +kernel
theorem dX6_sticks_4 : decode cX6_sticks 4 = .ok (.ifCond .ne 5, 3) := by decide +kernel
theorem dX6_sticks_7 : decode cX6_sticks 7 = .ok (.iconst (-1), 1) := by decide +kernel
theorem dX6_sticks_8 : decode cX6_sticks 8 = .ok (.ireturn, 1) := by decide +kernel
theorem dX6_sticks_9 : decode cX6_sticks 9 = .ok (.iload_n 2, 1) := by decide +kernel
theorem dX6_sticks_10 : decode cX6_sticks 10 = .ok (.iconst 1, 1) := by decide +kernel
theorem dX6_sticks_11 : decode cX6_sticks 11 = .ok (.bipush 99, 2) := by decide +kernel
theorem dX6_sticks_13 : decode cX6_sticks 13 = .ok (.invokestatic 36, 3) := by decide +kernel
theorem dX6_sticks_16 : decode cX6_sticks 16 = .ok (.ifCond .ne 6, 3) := by decide +kernel
theorem dX6_sticks_19 : decode cX6_sticks 19 = .ok (.bipush (-2), 2) := by decide +kernel
theorem dX6_sticks_21 : decode cX6_sticks 21 = .ok (.ireturn, 1) := by decide +kernel
theorem dX6_sticks_22 : decode cX6_sticks 22 = .ok (.aload_n 0, 1) := by decide +kernel
theorem dX6_sticks_23 : decode cX6_sticks 23 = .ok (.getfield 7, 3) := by decide +kernel
theorem dX6_sticks_26 : decode cX6_sticks 26 = .ok (.iload_n 1, 1) := by decide +kernel
theorem dX6_sticks_27 : decode cX6_sticks 27 = .ok (.iconst 2, 1) := by decide +kernel
theorem dX6_sticks_28 : decode cX6_sticks 28 = .ok (.invokestatic 29, 3) := by decide +kernel
theorem dX6_sticks_31 : decode cX6_sticks 31 = .ok (.iload_n 2, 1) := by decide +kernel
theorem dX6_sticks_32 : decode cX6_sticks 32 = .ok (.iastore, 1) := by decide +kernel
theorem dX6_sticks_33 : decode cX6_sticks 33 = .ok (.aload_n 0, 1) := by decide +kernel
theorem dX6_sticks_34 : decode cX6_sticks 34 = .ok (.invokevirtual 88, 3) := by decide +kernel
theorem dX6_sticks_37 : decode cX6_sticks 37 = .ok (.ireturn, 1) := by decide +kernel
theorem dX6_runs_0 : decode cX6_runs 0 = .ok (.iload_n 1, 1) := by decide +kernel
theorem dX6_runs_1 : decode cX6_runs 1 = .ok (.iconst 1, 1) := by decide +kernel
theorem dX6_runs_2 : decode cX6_runs 2 = .ok (.sipush 300, 3) := by decide +kernel
theorem dX6_runs_5 : decode cX6_runs 5 = .ok (.invokestatic 36, 3) := by decide +kernel
theorem dX6_runs_8 : decode cX6_runs 8 = .ok (.ifCond .ne 6, 3) := by decide +kernel
theorem dX6_runs_11 : decode cX6_runs 11 = .ok (.bipush (-2), 2) := by decide +kernel
theorem dX6_runs_13 : decode cX6_runs 13 = .ok (.ireturn, 1) := by decide +kernel
theorem dX6_runs_14 : decode cX6_runs 14 = .ok (.aload_n 0, 1) := by decide +kernel
theorem dX6_runs_15 : decode cX6_runs 15 = .ok (.getfield 7, 3) := by decide +kernel
theorem dX6_runs_18 : decode cX6_runs 18 = .ok (.iconst 3, 1) := by decide +kernel
theorem dX6_runs_19 : decode cX6_runs 19 = .ok (.iaload, 1) := by decide +kernel
theorem dX6_runs_20 : decode cX6_runs 20 = .ok (.iload_n 1, 1) := by decide +kernel
theorem dX6_runs_21 : decode cX6_runs 21 = .ok (.iadd, 1) := by decide +kernel
theorem dX6_runs_22 : decode cX6_runs 22 = .ok (.ldc 112, 2) := by decide +kernel
theorem dX6_runs_24 : decode cX6_runs 24 = .ok (.if_icmp .le 6, 3) := by decide +kernel
theorem dX6_runs_27 : decode cX6_runs 27 = .ok (.bipush (-3), 2) := by decide +kernel
theorem dX6_runs_29 : decode cX6_runs 29 = .ok (.ireturn, 1) := by decide +kernel
theorem dX6_runs_30 : decode cX6_runs 30 = .ok (.aload_n 0, 1) := by decide +kernel
theorem dX6_runs_31 : decode cX6_runs 31 = .ok (.invokevirtual 113, 3) := by decide +kernel
theorem dX6_runs_34 : decode cX6_runs 34 = .ok (.istore_n 2, 1) := by decide +kernel
theorem dX6_runs_35 : decode cX6_runs 35 = .ok (.iconst 0, 1) := by decide +kernel
theorem dX6_runs_36 : decode cX6_runs 36 = .ok (.istore_n 3, 1) := by decide +kernel
theorem dX6_runs_37 : decode cX6_runs 37 = .ok (.iload_n 3, 1) := by decide +kernel
theorem dX6_runs_38 : decode cX6_runs 38 = .ok (.iload_n 1, 1) := by decide +kernel
theorem dX6_runs_39 : decode cX6_runs 39 = .ok (.if_icmp .ge 13, 3) := by decide +kernel
theorem dX6_runs_42 : decode cX6_runs 42 = .ok (.aload_n 0, 1) := by decide +kernel
theorem dX6_runs_43 : decode cX6_runs 43 = .ok (.invokevirtual 116, 3) := by decide +kernel
theorem dX6_runs_46 : decode cX6_runs 46 = .ok (.iinc 3 1, 3) := by decide +kernel
theorem dX6_runs_49 : decode cX6_runs 49 = .ok (.goto (-12), 3) := by decide +kernel
theorem dX6_runs_52 : decode cX6_runs 52 = .ok (.aload_n 0, 1) := by decide +kernel
theorem dX6_runs_53 : decode cX6_runs 53 = .ok (.invokevirtual 113, 3) := by decide +kernel
theorem dX6_runs_56 : decode cX6_runs 56 = .ok (.iload_n 2, 1) := by decide +kernel
theorem dX6_runs_57 : decode cX6_runs 57 = .ok (.isub, 1) := by decide +kernel
theorem dX6_runs_58 : decode cX6_runs 58 = .ok (.ireturn, 1) := by decide +kernel
theorem dX6_takesBack_0 : decode cX6_takesBack 0 = .ok (.iload_n 1, 1) := by decide +kernel
theorem dX6_takesBack_1 : decode cX6_takesBack 1 = .ok (.invokestatic 109, 3) := by decide +kernel
theorem dX6_takesBack_4 : decode cX6_takesBack 4 = .ok (.ifCond .ne 5, 3) := by decide +kernel
theorem dX6_takesBack_7 : decode cX6_takesBack 7 = .ok (.iconst (-1), 1) := by decide +kernel
theorem dX6_takesBack_8 : decode cX6_takesBack 8 = .ok (.ireturn, 1) := by decide +kernel
theorem dX6_takesBack_9 : decode cX6_takesBack 9 = .ok (.aload_n 0, 1) := by decide +kernel
theorem dX6_takesBack_10 : decode cX6_takesBack 10 = .ok (.getfield 7, 3) := by decide +kernel
theorem dX6_takesBack_13 : decode cX6_takesBack 13 = .ok (.iload_n 1, 1) := by decide +kernel
theorem dX6_takesBack_14 : decode cX6_takesBack 14 = .ok (.iconst 0, 1) := by decide +kernel
theorem dX6_takesBack_15 : decode cX6_takesBack 15 = .ok (.invokestatic 33, 3) := by decide +kernel
theorem dX6_takesBack_18 : decode cX6_takesBack 18 = .ok (.iaload, 1) := by decide +kernel
theorem dX6_takesBack_19 : decode cX6_takesBack 19 = .ok (.istore_n 2, 1) := by decide +kernel
theorem dX6_takesBack_20 : decode cX6_takesBack 20 = .ok (.iload_n 2, 1) := by decide +kernel
theorem dX6_takesBack_21 : decode cX6_takesBack 21 = .ok (.iconst 1, 1) := by decide +kernel
theorem dX6_takesBack_22 : decode cX6_takesBack 22 = .ok (.if_icmp .ne 14, 3) := by decide +kernel
theorem dX6_takesBack_25 : decode cX6_takesBack 25 = .ok (.aload_n 0, 1) := by decide +kernel
theorem dX6_takesBack_26 : decode cX6_takesBack 26 = .ok (.iload_n 1, 1) := by decide +kernel
theorem dX6_takesBack_27 : decode cX6_takesBack 27 = .ok (.invokevirtual 47, 3) := by decide +kernel
theorem dX6_takesBack_30 : decode cX6_takesBack 30 = .ok (.ifCond .eq 6, 3) := by decide +kernel
theorem dX6_takesBack_33 : decode cX6_takesBack 33 = .ok (.bipush (-4), 2) := by decide +kernel
theorem dX6_takesBack_35 : decode cX6_takesBack 35 = .ok (.ireturn, 1) := by decide +kernel
theorem dX6_takesBack_36 : decode cX6_takesBack 36 = .ok (.iload_n 2, 1) := by decide +kernel
theorem dX6_takesBack_37 : decode cX6_takesBack 37 = .ok (.ifCond .ne 6, 3) := by decide +kernel
theorem dX6_takesBack_40 : decode cX6_takesBack 40 = .ok (.bipush (-5), 2) := by decide +kernel
theorem dX6_takesBack_42 : decode cX6_takesBack 42 = .ok (.ireturn, 1) := by decide +kernel
theorem dX6_takesBack_43 : decode cX6_takesBack 43 = .ok (.aload_n 0, 1) := by decide +kernel
theorem dX6_takesBack_44 : decode cX6_takesBack 44 = .ok (.getfield 7, 3) := by decide +kernel
theorem dX6_takesBack_47 : decode cX6_takesBack 47 = .ok (.iload_n 1, 1) := by decide +kernel
theorem dX6_takesBack_48 : decode cX6_takesBack 48 = .ok (.iconst 0, 1) := by decide +kernel
theorem dX6_takesBack_49 : decode cX6_takesBack 49 = .ok (.invokestatic 33, 3) := by decide +kernel
theorem dX6_takesBack_52 : decode cX6_takesBack 52 = .ok (.dup2, 1) := by decide +kernel
theorem dX6_takesBack_53 : decode cX6_takesBack 53 = .ok (.iaload, 1) := by decide +kernel
theorem dX6_takesBack_54 : decode cX6_takesBack 54 = .ok (.iconst 1, 1) := by decide +kernel
theorem dX6_takesBack_55 : decode cX6_takesBack 55 = .ok (.isub, 1) := by decide +kernel
theorem dX6_takesBack_56 : decode cX6_takesBack 56 = .ok (.iastore, 1) := by decide +kernel
theorem dX6_takesBack_57 : decode cX6_takesBack 57 = .ok (.aload_n 0, 1) := by decide +kernel
theorem dX6_takesBack_58 : decode cX6_takesBack 58 = .ok (.getfield 7, 3) := by decide +kernel
theorem dX6_takesBack_61 : decode cX6_takesBack 61 = .ok (.iload_n 1, 1) := by decide +kernel
theorem dX6_takesBack_62 : decode cX6_takesBack 62 = .ok (.bipush 6, 2) := by decide +kernel
theorem dX6_takesBack_64 : decode cX6_takesBack 64 = .ok (.invokestatic 33, 3) := by decide +kernel
theorem dX6_takesBack_67 : decode cX6_takesBack 67 = .ok (.iload_n 2, 1) := by decide +kernel
theorem dX6_takesBack_68 : decode cX6_takesBack 68 = .ok (.iconst 1, 1) := by decide +kernel
theorem dX6_takesBack_69 : decode cX6_takesBack 69 = .ok (.if_icmp .ne 7, 3) := by decide +kernel
theorem dX6_takesBack_72 : decode cX6_takesBack 72 = .ok (.iconst 0, 1) := by decide +kernel
theorem dX6_takesBack_73 : decode cX6_takesBack 73 = .ok (.goto 14, 3) := by decide +kernel
theorem dX6_takesBack_76 : decode cX6_takesBack 76 = .ok (.aload_n 0, 1) := by decide +kernel
theorem dX6_takesBack_77 : decode cX6_takesBack 77 = .ok (.getfield 7, 3) := by decide +kernel
theorem dX6_takesBack_80 : decode cX6_takesBack 80 = .ok (.iload_n 1, 1) := by decide +kernel
theorem dX6_takesBack_81 : decode cX6_takesBack 81 = .ok (.bipush 6, 2) := by decide +kernel
theorem dX6_takesBack_83 : decode cX6_takesBack 83 = .ok (.invokestatic 33, 3) := by decide +kernel
theorem dX6_takesBack_86 : decode cX6_takesBack 86 = .ok (.iaload, 1) := by decide +kernel
theorem dX6_takesBack_87 : decode cX6_takesBack 87 = .ok (.iastore, 1) := by decide +kernel
theorem dX6_takesBack_88 : decode cX6_takesBack 88 = .ok (.iload_n 2, 1) := by decide +kernel
theorem dX6_takesBack_89 : decode cX6_takesBack 89 = .ok (.iconst 1, 1) := by decide +kernel
theorem dX6_takesBack_90 : decode cX6_takesBack 90 = .ok (.isub, 1) := by decide +kernel
theorem dX6_takesBack_91 : decode cX6_takesBack 91 = .ok (.ireturn, 1) := by decide +kernel
theorem dX6_most_0 : decode cX6_most 0 = .ok (.iload_n 0, 1) := by decide +kernel
theorem dX6_most_1 : decode cX6_most 1 = .ok (.ifCond .ne 8, 3) := by decide +kernel
theorem dX6_most_4 : decode cX6_most 4 = .ok (.bipush 20, 2) := by decide +kernel
theorem dX6_most_6 : decode cX6_most 6 = .ok (.goto 15, 3) := by decide +kernel
theorem dX6_most_9 : decode cX6_most 9 = .ok (.iload_n 0, 1) := by decide +kernel
theorem dX6_most_10 : decode cX6_most 10 = .ok (.iconst 1, 1) := by decide +kernel
theorem dX6_most_11 : decode cX6_most 11 = .ok (.if_icmp .ne 8, 3) := by decide +kernel
theorem dX6_most_14 : decode cX6_most 14 = .ok (.bipush 9, 2) := by decide +kernel
theorem dX6_most_16 : decode cX6_most 16 = .ok (.goto 5, 3) := by decide +kernel
theorem dX6_most_19 : decode cX6_most 19 = .ok (.bipush 99, 2) := by decide +kernel
theorem dX6_most_21 : decode cX6_most 21 = .ok (.ireturn, 1) := by decide +kernel
theorem dX6_sets_0 : decode cX6_sets 0 = .ok (.iload_n 1, 1) := by decide +kernel
theorem dX6_sets_1 : decode cX6_sets 1 = .ok (.iconst 0, 1) := by decide +kernel
theorem dX6_sets_2 : decode cX6_sets 2 = .ok (.iconst 2, 1) := by decide +kernel
theorem dX6_sets_3 : decode cX6_sets 3 = .ok (.invokestatic 36, 3) := by decide +kernel
theorem dX6_sets_6 : decode cX6_sets 6 = .ok (.ifCond .ne 5, 3) := by decide +kernel
theorem dX6_sets_9 : decode cX6_sets 9 = .ok (.iconst (-1), 1) := by decide +kernel
theorem dX6_sets_10 : decode cX6_sets 10 = .ok (.ireturn, 1) := by decide +kernel
theorem dX6_sets_11 : decode cX6_sets 11 = .ok (.iload_n 2, 1) := by decide +kernel
theorem dX6_sets_12 : decode cX6_sets 12 = .ok (.iconst 1, 1) := by decide +kernel
theorem dX6_sets_13 : decode cX6_sets 13 = .ok (.iload_n 1, 1) := by decide +kernel
theorem dX6_sets_14 : decode cX6_sets 14 = .ok (.invokestatic 119, 3) := by decide +kernel
theorem dX6_sets_17 : decode cX6_sets 17 = .ok (.invokestatic 36, 3) := by decide +kernel
theorem dX6_sets_20 : decode cX6_sets 20 = .ok (.ifCond .ne 6, 3) := by decide +kernel
theorem dX6_sets_23 : decode cX6_sets 23 = .ok (.bipush (-2), 2) := by decide +kernel
theorem dX6_sets_25 : decode cX6_sets 25 = .ok (.ireturn, 1) := by decide +kernel
theorem dX6_sets_26 : decode cX6_sets 26 = .ok (.aload_n 0, 1) := by decide +kernel
theorem dX6_sets_27 : decode cX6_sets 27 = .ok (.getfield 7, 3) := by decide +kernel
theorem dX6_sets_30 : decode cX6_sets 30 = .ok (.iload_n 1, 1) := by decide +kernel
theorem dX6_sets_31 : decode cX6_sets 31 = .ok (.iaload, 1) := by decide +kernel
theorem dX6_sets_32 : decode cX6_sets 32 = .ok (.istore_n 3, 1) := by decide +kernel
theorem dX6_sets_33 : decode cX6_sets 33 = .ok (.aload_n 0, 1) := by decide +kernel
theorem dX6_sets_34 : decode cX6_sets 34 = .ok (.getfield 7, 3) := by decide +kernel
theorem dX6_sets_37 : decode cX6_sets 37 = .ok (.iload_n 1, 1) := by decide +kernel
theorem dX6_sets_38 : decode cX6_sets 38 = .ok (.iload_n 2, 1) := by decide +kernel
theorem dX6_sets_39 : decode cX6_sets 39 = .ok (.iastore, 1) := by decide +kernel
theorem dX6_sets_40 : decode cX6_sets 40 = .ok (.iload_n 3, 1) := by decide +kernel
theorem dX6_sets_41 : decode cX6_sets 41 = .ok (.iload_n 2, 1) := by decide +kernel
theorem dX6_sets_42 : decode cX6_sets 42 = .ok (.if_icmp .ne 8, 3) := by decide +kernel
theorem dX6_sets_45 : decode cX6_sets 45 = .ok (.bipush (-5), 2) := by decide +kernel
theorem dX6_sets_47 : decode cX6_sets 47 = .ok (.goto 4, 3) := by decide +kernel
theorem dX6_sets_50 : decode cX6_sets 50 = .ok (.iload_n 3, 1) := by decide +kernel
theorem dX6_sets_51 : decode cX6_sets 51 = .ok (.ireturn, 1) := by decide +kernel
theorem dX6_say_0 : decode cX6_say 0 = .ok (.aload_n 0, 1) := by decide +kernel
theorem dX6_say_1 : decode cX6_say 1 = .ok (.invokevirtual 122, 3) := by decide +kernel
theorem dX6_say_4 : decode cX6_say 4 = .ok (.aload_n 0, 1) := by decide +kernel
theorem dX6_say_5 : decode cX6_say 5 = .ok (.aload_n 0, 1) := by decide +kernel
theorem dX6_say_6 : decode cX6_say 6 = .ok (.iload_n 1, 1) := by decide +kernel
theorem dX6_say_7 : decode cX6_say 7 = .ok (.iload_n 2, 1) := by decide +kernel
theorem dX6_say_8 : decode cX6_say 8 = .ok (.iload_n 3, 1) := by decide +kernel
theorem dX6_say_9 : decode cX6_say 9 = .ok (.iload 4, 2) := by decide +kernel
theorem dX6_say_11 : decode cX6_say 11 = .ok (.invokevirtual 125, 3) := by decide +kernel
theorem dX6_say_14 : decode cX6_say 14 = .ok (.invokevirtual 129, 3) := by decide +kernel
theorem dX6_say_17 : decode cX6_say 17 = .ok (.ireturn, 1) := by decide +kernel
theorem dX6_takeBack_0 : decode cX6_takeBack 0 = .ok (.aload_n 0, 1) := by decide +kernel
theorem dX6_takeBack_1 : decode cX6_takeBack 1 = .ok (.invokevirtual 122, 3) := by decide +kernel
theorem dX6_takeBack_4 : decode cX6_takeBack 4 = .ok (.aload_n 0, 1) := by decide +kernel
theorem dX6_takeBack_5 : decode cX6_takeBack 5 = .ok (.aload_n 0, 1) := by decide +kernel
theorem dX6_takeBack_6 : decode cX6_takeBack 6 = .ok (.iload_n 1, 1) := by decide +kernel
theorem dX6_takeBack_7 : decode cX6_takeBack 7 = .ok (.invokevirtual 132, 3) := by decide +kernel
theorem dX6_takeBack_10 : decode cX6_takeBack 10 = .ok (.invokevirtual 129, 3) := by decide +kernel
theorem dX6_takeBack_13 : decode cX6_takeBack 13 = .ok (.ireturn, 1) := by decide +kernel
theorem dX6_hear_0 : decode cX6_hear 0 = .ok (.aload_n 0, 1) := by decide +kernel
theorem dX6_hear_1 : decode cX6_hear 1 = .ok (.invokevirtual 122, 3) := by decide +kernel
theorem dX6_hear_4 : decode cX6_hear 4 = .ok (.aload_n 0, 1) := by decide +kernel
theorem dX6_hear_5 : decode cX6_hear 5 = .ok (.aload_n 0, 1) := by decide +kernel
theorem dX6_hear_6 : decode cX6_hear 6 = .ok (.iload_n 1, 1) := by decide +kernel
theorem dX6_hear_7 : decode cX6_hear 7 = .ok (.iload_n 2, 1) := by decide +kernel
theorem dX6_hear_8 : decode cX6_hear 8 = .ok (.invokevirtual 135, 3) := by decide +kernel
theorem dX6_hear_11 : decode cX6_hear 11 = .ok (.invokevirtual 129, 3) := by decide +kernel
theorem dX6_hear_14 : decode cX6_hear 14 = .ok (.ireturn, 1) := by decide +kernel
theorem dX6_hold_0 : decode cX6_hold 0 = .ok (.aload_n 0, 1) := by decide +kernel
theorem dX6_hold_1 : decode cX6_hold 1 = .ok (.invokevirtual 122, 3) := by decide +kernel
theorem dX6_hold_4 : decode cX6_hold 4 = .ok (.aload_n 0, 1) := by decide +kernel
theorem dX6_hold_5 : decode cX6_hold 5 = .ok (.aload_n 0, 1) := by decide +kernel
theorem dX6_hold_6 : decode cX6_hold 6 = .ok (.iload_n 1, 1) := by decide +kernel
theorem dX6_hold_7 : decode cX6_hold 7 = .ok (.iload_n 2, 1) := by decide +kernel
theorem dX6_hold_8 : decode cX6_hold 8 = .ok (.invokevirtual 138, 3) := by decide +kernel
theorem dX6_hold_11 : decode cX6_hold 11 = .ok (.invokevirtual 129, 3) := by decide +kernel
theorem dX6_hold_14 : decode cX6_hold 14 = .ok (.ireturn, 1) := by decide +kernel
theorem dX6_stick_0 : decode cX6_stick 0 = .ok (.aload_n 0, 1) := by decide +kernel
theorem dX6_stick_1 : decode cX6_stick 1 = .ok (.invokevirtual 122, 3) := by decide +kernel
theorem dX6_stick_4 : decode cX6_stick 4 = .ok (.aload_n 0, 1) := by decide +kernel
theorem dX6_stick_5 : decode cX6_stick 5 = .ok (.aload_n 0, 1) := by decide +kernel
theorem dX6_stick_6 : decode cX6_stick 6 = .ok (.iload_n 1, 1) := by decide +kernel
theorem dX6_stick_7 : decode cX6_stick 7 = .ok (.iload_n 2, 1) := by decide +kernel
theorem dX6_stick_8 : decode cX6_stick 8 = .ok (.invokevirtual 141, 3) := by decide +kernel
theorem dX6_stick_11 : decode cX6_stick 11 = .ok (.invokevirtual 129, 3) := by decide +kernel
theorem dX6_stick_14 : decode cX6_stick 14 = .ok (.ireturn, 1) := by decide +kernel
theorem dX6_set_0 : decode cX6_set 0 = .ok (.aload_n 0, 1) := by decide +kernel
theorem dX6_set_1 : decode cX6_set 1 = .ok (.invokevirtual 122, 3) := by decide +kernel
theorem dX6_set_4 : decode cX6_set 4 = .ok (.aload_n 0, 1) := by decide +kernel
theorem dX6_set_5 : decode cX6_set 5 = .ok (.aload_n 0, 1) := by decide +kernel
theorem dX6_set_6 : decode cX6_set 6 = .ok (.iload_n 1, 1) := by decide +kernel
theorem dX6_set_7 : decode cX6_set 7 = .ok (.iload_n 2, 1) := by decide +kernel
theorem dX6_set_8 : decode cX6_set 8 = .ok (.invokevirtual 144, 3) := by decide +kernel
theorem dX6_set_11 : decode cX6_set 11 = .ok (.invokevirtual 129, 3) := by decide +kernel
theorem dX6_set_14 : decode cX6_set 14 = .ok (.ireturn, 1) := by decide +kernel
theorem dX6_run_0 : decode cX6_run 0 = .ok (.aload_n 0, 1) := by decide +kernel
theorem dX6_run_1 : decode cX6_run 1 = .ok (.invokevirtual 122, 3) := by decide +kernel
theorem dX6_run_4 : decode cX6_run 4 = .ok (.aload_n 0, 1) := by decide +kernel
theorem dX6_run_5 : decode cX6_run 5 = .ok (.aload_n 0, 1) := by decide +kernel
theorem dX6_run_6 : decode cX6_run 6 = .ok (.iload_n 1, 1) := by decide +kernel
theorem dX6_run_7 : decode cX6_run 7 = .ok (.invokevirtual 147, 3) := by decide +kernel
theorem dX6_run_10 : decode cX6_run 10 = .ok (.invokevirtual 129, 3) := by decide +kernel
theorem dX6_run_13 : decode cX6_run 13 = .ok (.ireturn, 1) := by decide +kernel
theorem dX6_type_0 : decode cX6_type 0 = .ok (.aload_n 0, 1) := by decide +kernel
theorem dX6_type_1 : decode cX6_type 1 = .ok (.getfield 150, 3) := by decide +kernel
theorem dX6_type_4 : decode cX6_type 4 = .ok (.bipush 80, 2) := by decide +kernel
theorem dX6_type_6 : decode cX6_type 6 = .ok (.if_icmp .ne 6, 3) := by decide +kernel
theorem dX6_type_9 : decode cX6_type 9 = .ok (.bipush (-3), 2) := by decide +kernel
theorem dX6_type_11 : decode cX6_type 11 = .ok (.ireturn, 1) := by decide +kernel
theorem dX6_type_12 : decode cX6_type 12 = .ok (.aload_n 0, 1) := by decide +kernel
theorem dX6_type_13 : decode cX6_type 13 = .ok (.getfield 22, 3) := by decide +kernel
theorem dX6_type_16 : decode cX6_type 16 = .ok (.aload_n 0, 1) := by decide +kernel
theorem dX6_type_17 : decode cX6_type 17 = .ok (.getfield 150, 3) := by decide +kernel
theorem dX6_type_20 : decode cX6_type 20 = .ok (.iload_n 1, 1) := by decide +kernel
theorem dX6_type_21 : decode cX6_type 21 = .ok (.iastore, 1) := by decide +kernel
theorem dX6_type_22 : decode cX6_type 22 = .ok (.aload_n 0, 1) := by decide +kernel
theorem dX6_type_23 : decode cX6_type 23 = .ok (.dup, 1) := by decide +kernel
theorem dX6_type_24 : decode cX6_type 24 = .ok (.getfield 150, 3) := by decide +kernel
theorem dX6_type_27 : decode cX6_type 27 = .ok (.iconst 1, 1) := by decide +kernel
theorem dX6_type_28 : decode cX6_type 28 = .ok (.iadd, 1) := by decide +kernel
theorem dX6_type_29 : decode cX6_type 29 = .ok (.putfield 150, 3) := by decide +kernel
theorem dX6_type_32 : decode cX6_type 32 = .ok (.aload_n 0, 1) := by decide +kernel
theorem dX6_type_33 : decode cX6_type 33 = .ok (.getfield 150, 3) := by decide +kernel
theorem dX6_type_36 : decode cX6_type 36 = .ok (.ireturn, 1) := by decide +kernel
theorem dX6_clearText_0 : decode cX6_clearText 0 = .ok (.aload_n 0, 1) := by decide +kernel
theorem dX6_clearText_1 : decode cX6_clearText 1 = .ok (.getfield 150, 3) := by decide +kernel
theorem dX6_clearText_4 : decode cX6_clearText 4 = .ok (.istore_n 1, 1) := by decide +kernel
theorem dX6_clearText_5 : decode cX6_clearText 5 = .ok (.aload_n 0, 1) := by decide +kernel
theorem dX6_clearText_6 : decode cX6_clearText 6 = .ok (.iconst 0, 1) := by decide +kernel
theorem dX6_clearText_7 : decode cX6_clearText 7 = .ok (.putfield 150, 3) := by decide +kernel
theorem dX6_clearText_10 : decode cX6_clearText 10 = .ok (.iload_n 1, 1) := by decide +kernel
theorem dX6_clearText_11 : decode cX6_clearText 11 = .ok (.ireturn, 1) := by decide +kernel
theorem dX6_sign_0 : decode cX6_sign 0 = .ok (.aload_n 0, 1) := by decide +kernel
theorem dX6_sign_1 : decode cX6_sign 1 = .ok (.aload_n 0, 1) := by decide +kernel
theorem dX6_sign_2 : decode cX6_sign 2 = .ok (.getfield 153, 3) := by decide +kernel
theorem dX6_sign_5 : decode cX6_sign 5 = .ok (.ifCond .ne 27, 3) := by decide +kernel
theorem dX6_sign_8 : decode cX6_sign 8 = .ok (.aload_n 0, 1) := by decide +kernel
theorem dX6_sign_9 : decode cX6_sign 9 = .ok (.getfield 157, 3) := by decide +kernel
theorem dX6_sign_12 : decode cX6_sign 12 = .ok (.aload_n 0, 1) := by decide +kernel
theorem dX6_sign_13 : decode cX6_sign 13 = .ok (.getfield 150, 3) := by decide +kernel
theorem dX6_sign_16 : decode cX6_sign 16 = .ok (.if_icmp .ge 16, 3) := by decide +kernel
theorem dX6_sign_19 : decode cX6_sign 19 = .ok (.aload_n 0, 1) := by decide +kernel
theorem dX6_sign_20 : decode cX6_sign 20 = .ok (.getfield 22, 3) := by decide +kernel
theorem dX6_sign_23 : decode cX6_sign 23 = .ok (.aload_n 0, 1) := by decide +kernel
theorem dX6_sign_24 : decode cX6_sign 24 = .ok (.getfield 157, 3) := by decide +kernel
theorem dX6_sign_27 : decode cX6_sign 27 = .ok (.iaload, 1) := by decide +kernel
theorem dX6_sign_28 : decode cX6_sign 28 = .ok (.iload_n 1, 1) := by decide +kernel
theorem dX6_sign_29 : decode cX6_sign 29 = .ok (.if_icmp .eq 7, 3) := by decide +kernel
theorem dX6_sign_32 : decode cX6_sign 32 = .ok (.iconst 1, 1) := by decide +kernel
theorem dX6_sign_33 : decode cX6_sign 33 = .ok (.goto 4, 3) := by decide +kernel
theorem dX6_sign_36 : decode cX6_sign 36 = .ok (.iconst 0, 1) := by decide +kernel
theorem dX6_sign_37 : decode cX6_sign 37 = .ok (.putfield 153, 3) := by decide +kernel
theorem dX6_sign_40 : decode cX6_sign 40 = .ok (.aload_n 0, 1) := by decide +kernel
theorem dX6_sign_41 : decode cX6_sign 41 = .ok (.dup, 1) := by decide +kernel
theorem dX6_sign_42 : decode cX6_sign 42 = .ok (.getfield 157, 3) := by decide +kernel
theorem dX6_sign_45 : decode cX6_sign 45 = .ok (.aload_n 0, 1) := by decide +kernel
theorem dX6_sign_46 : decode cX6_sign 46 = .ok (.getfield 153, 3) := by decide +kernel
theorem dX6_sign_49 : decode cX6_sign 49 = .ok (.ifCond .eq 7, 3) := by decide +kernel
theorem dX6_sign_52 : decode cX6_sign 52 = .ok (.iconst 0, 1) := by decide +kernel
theorem dX6_sign_53 : decode cX6_sign 53 = .ok (.goto 4, 3) := by decide +kernel
theorem dX6_sign_56 : decode cX6_sign 56 = .ok (.iconst 1, 1) := by decide +kernel
theorem dX6_sign_57 : decode cX6_sign 57 = .ok (.iadd, 1) := by decide +kernel
theorem dX6_sign_58 : decode cX6_sign 58 = .ok (.putfield 157, 3) := by decide +kernel
theorem dX6_sign_61 : decode cX6_sign 61 = .ok (.return_, 1) := by decide +kernel
theorem dX6_isNext_0 : decode cX6_isNext 0 = .ok (.aload_n 0, 1) := by decide +kernel
theorem dX6_isNext_1 : decode cX6_isNext 1 = .ok (.getfield 153, 3) := by decide +kernel
theorem dX6_isNext_4 : decode cX6_isNext 4 = .ok (.ifCond .ne 31, 3) := by decide +kernel
theorem dX6_isNext_7 : decode cX6_isNext 7 = .ok (.aload_n 0, 1) := by decide +kernel
theorem dX6_isNext_8 : decode cX6_isNext 8 = .ok (.getfield 157, 3) := by decide +kernel
theorem dX6_isNext_11 : decode cX6_isNext 11 = .ok (.aload_n 0, 1) := by decide +kernel
theorem dX6_isNext_12 : decode cX6_isNext 12 = .ok (.getfield 150, 3) := by decide +kernel
theorem dX6_isNext_15 : decode cX6_isNext 15 = .ok (.if_icmp .ge 20, 3) := by decide +kernel
theorem dX6_isNext_18 : decode cX6_isNext 18 = .ok (.aload_n 0, 1) := by decide +kernel
theorem dX6_isNext_19 : decode cX6_isNext 19 = .ok (.getfield 22, 3) := by decide +kernel
theorem dX6_isNext_22 : decode cX6_isNext 22 = .ok (.aload_n 0, 1) := by decide +kernel
theorem dX6_isNext_23 : decode cX6_isNext 23 = .ok (.getfield 157, 3) := by decide +kernel
theorem dX6_isNext_26 : decode cX6_isNext 26 = .ok (.iaload, 1) := by decide +kernel
theorem dX6_isNext_27 : decode cX6_isNext 27 = .ok (.iload_n 1, 1) := by decide +kernel
theorem dX6_isNext_28 : decode cX6_isNext 28 = .ok (.if_icmp .ne 7, 3) := by decide +kernel
theorem dX6_isNext_31 : decode cX6_isNext 31 = .ok (.iconst 1, 1) := by decide +kernel
theorem dX6_isNext_32 : decode cX6_isNext 32 = .ok (.goto 4, 3) := by decide +kernel
theorem dX6_isNext_35 : decode cX6_isNext 35 = .ok (.iconst 0, 1) := by decide +kernel
theorem dX6_isNext_36 : decode cX6_isNext 36 = .ok (.ireturn, 1) := by decide +kernel
theorem dX6_isDigit_0 : decode cX6_isDigit 0 = .ok (.aload_n 0, 1) := by decide +kernel
theorem dX6_isDigit_1 : decode cX6_isDigit 1 = .ok (.getfield 153, 3) := by decide +kernel
theorem dX6_isDigit_4 : decode cX6_isDigit 4 = .ok (.ifCond .ne 37, 3) := by decide +kernel
theorem dX6_isDigit_7 : decode cX6_isDigit 7 = .ok (.aload_n 0, 1) := by decide +kernel
theorem dX6_isDigit_8 : decode cX6_isDigit 8 = .ok (.getfield 157, 3) := by decide +kernel
theorem dX6_isDigit_11 : decode cX6_isDigit 11 = .ok (.aload_n 0, 1) := by decide +kernel
theorem dX6_isDigit_12 : decode cX6_isDigit 12 = .ok (.getfield 150, 3) := by decide +kernel
theorem dX6_isDigit_15 : decode cX6_isDigit 15 = .ok (.if_icmp .ge 26, 3) := by decide +kernel
theorem dX6_isDigit_18 : decode cX6_isDigit 18 = .ok (.aload_n 0, 1) := by decide +kernel
theorem dX6_isDigit_19 : decode cX6_isDigit 19 = .ok (.getfield 22, 3) := by decide +kernel
theorem dX6_isDigit_22 : decode cX6_isDigit 22 = .ok (.aload_n 0, 1) := by decide +kernel
theorem dX6_isDigit_23 : decode cX6_isDigit 23 = .ok (.getfield 157, 3) := by decide +kernel
theorem dX6_isDigit_26 : decode cX6_isDigit 26 = .ok (.iaload, 1) := by decide +kernel
theorem dX6_isDigit_27 : decode cX6_isDigit 27 = .ok (.bipush 48, 2) := by decide +kernel
theorem dX6_isDigit_29 : decode cX6_isDigit 29 = .ok (.bipush 57, 2) := by decide +kernel
theorem dX6_isDigit_31 : decode cX6_isDigit 31 = .ok (.invokestatic 36, 3) := by decide +kernel
theorem dX6_isDigit_34 : decode cX6_isDigit 34 = .ok (.ifCond .eq 7, 3) := by decide +kernel
theorem dX6_isDigit_37 : decode cX6_isDigit 37 = .ok (.iconst 1, 1) := by decide +kernel
theorem dX6_isDigit_38 : decode cX6_isDigit 38 = .ok (.goto 4, 3) := by decide +kernel
theorem dX6_isDigit_41 : decode cX6_isDigit 41 = .ok (.iconst 0, 1) := by decide +kernel
theorem dX6_isDigit_42 : decode cX6_isDigit 42 = .ok (.ireturn, 1) := by decide +kernel
theorem dX6_number_0 : decode cX6_number 0 = .ok (.aload_n 0, 1) := by decide +kernel
theorem dX6_number_1 : decode cX6_number 1 = .ok (.bipush 32, 2) := by decide +kernel
theorem dX6_number_3 : decode cX6_number 3 = .ok (.invokevirtual 160, 3) := by decide +kernel
theorem dX6_number_6 : decode cX6_number 6 = .ok (.aload_n 0, 1) := by decide +kernel
theorem dX6_number_7 : decode cX6_number 7 = .ok (.aload_n 0, 1) := by decide +kernel
theorem dX6_number_8 : decode cX6_number 8 = .ok (.getfield 153, 3) := by decide +kernel
theorem dX6_number_11 : decode cX6_number 11 = .ok (.ifCond .ne 42, 3) := by decide +kernel
theorem dX6_number_14 : decode cX6_number 14 = .ok (.aload_n 0, 1) := by decide +kernel
theorem dX6_number_15 : decode cX6_number 15 = .ok (.invokevirtual 163, 3) := by decide +kernel
theorem dX6_number_18 : decode cX6_number 18 = .ok (.ifCond .eq 35, 3) := by decide +kernel
theorem dX6_number_21 : decode cX6_number 21 = .ok (.aload_n 0, 1) := by decide +kernel
theorem dX6_number_22 : decode cX6_number 22 = .ok (.getfield 22, 3) := by decide +kernel
theorem dX6_number_25 : decode cX6_number 25 = .ok (.aload_n 0, 1) := by decide +kernel
theorem dX6_number_26 : decode cX6_number 26 = .ok (.getfield 157, 3) := by decide +kernel
theorem dX6_number_29 : decode cX6_number 29 = .ok (.iaload, 1) := by decide +kernel
theorem dX6_number_30 : decode cX6_number 30 = .ok (.bipush 48, 2) := by decide +kernel
theorem dX6_number_32 : decode cX6_number 32 = .ok (.isub, 1) := by decide +kernel
theorem dX6_number_33 : decode cX6_number 33 = .ok (.iload_n 1, 1) := by decide +kernel
theorem dX6_number_34 : decode cX6_number 34 = .ok (.if_icmp .lt 19, 3) := by decide +kernel
theorem dX6_number_37 : decode cX6_number 37 = .ok (.aload_n 0, 1) := by decide +kernel
theorem dX6_number_38 : decode cX6_number 38 = .ok (.getfield 22, 3) := by decide +kernel
theorem dX6_number_41 : decode cX6_number 41 = .ok (.aload_n 0, 1) := by decide +kernel
theorem dX6_number_42 : decode cX6_number 42 = .ok (.getfield 157, 3) := by decide +kernel
theorem dX6_number_45 : decode cX6_number 45 = .ok (.iaload, 1) := by decide +kernel
theorem dX6_number_46 : decode cX6_number 46 = .ok (.bipush 48, 2) := by decide +kernel
theorem dX6_number_48 : decode cX6_number 48 = .ok (.isub, 1) := by decide +kernel
theorem dX6_number_49 : decode cX6_number 49 = .ok (.iload_n 2, 1) := by decide +kernel
theorem dX6_number_50 : decode cX6_number 50 = .ok (.if_icmp .le 7, 3) := by decide +kernel
theorem dX6_number_53 : decode cX6_number 53 = .ok (.iconst 1, 1) := by decide +kernel
theorem dX6_number_54 : decode cX6_number 54 = .ok (.goto 4, 3) := by decide +kernel
theorem dX6_number_57 : decode cX6_number 57 = .ok (.iconst 0, 1) := by decide +kernel
theorem dX6_number_58 : decode cX6_number 58 = .ok (.putfield 153, 3) := by decide +kernel
theorem dX6_number_61 : decode cX6_number 61 = .ok (.aload_n 0, 1) := by decide +kernel
theorem dX6_number_62 : decode cX6_number 62 = .ok (.getfield 153, 3) := by decide +kernel
theorem dX6_number_65 : decode cX6_number 65 = .ok (.ifCond .eq 5, 3) := by decide +kernel
theorem dX6_number_68 : decode cX6_number 68 = .ok (.iconst 0, 1) := by decide +kernel
theorem dX6_number_69 : decode cX6_number 69 = .ok (.ireturn, 1) := by decide +kernel
theorem dX6_number_70 : decode cX6_number 70 = .ok (.aload_n 0, 1) := by decide +kernel
theorem dX6_number_71 : decode cX6_number 71 = .ok (.getfield 22, 3) := by decide +kernel
theorem dX6_number_74 : decode cX6_number 74 = .ok (.aload_n 0, 1) := by decide +kernel
theorem dX6_number_75 : decode cX6_number 75 = .ok (.getfield 157, 3) := by decide +kernel
theorem dX6_number_78 : decode cX6_number 78 = .ok (.iaload, 1) := by decide +kernel
theorem dX6_number_79 : decode cX6_number 79 = .ok (.bipush 48, 2) := by decide +kernel
theorem dX6_number_81 : decode cX6_number 81 = .ok (.isub, 1) := by decide +kernel
theorem dX6_number_82 : decode cX6_number 82 = .ok (.istore_n 3, 1) := by decide +kernel
theorem dX6_number_83 : decode cX6_number 83 = .ok (.aload_n 0, 1) := by decide +kernel
theorem dX6_number_84 : decode cX6_number 84 = .ok (.dup, 1) := by decide +kernel
theorem dX6_number_85 : decode cX6_number 85 = .ok (.getfield 157, 3) := by decide +kernel
theorem dX6_number_88 : decode cX6_number 88 = .ok (.iconst 1, 1) := by decide +kernel
theorem dX6_number_89 : decode cX6_number 89 = .ok (.iadd, 1) := by decide +kernel
theorem dX6_number_90 : decode cX6_number 90 = .ok (.putfield 157, 3) := by decide +kernel
theorem dX6_number_93 : decode cX6_number 93 = .ok (.iload_n 3, 1) := by decide +kernel
theorem dX6_number_94 : decode cX6_number 94 = .ok (.ifCond .le 62, 3) := by decide +kernel
theorem dX6_number_97 : decode cX6_number 97 = .ok (.aload_n 0, 1) := by decide +kernel
theorem dX6_number_98 : decode cX6_number 98 = .ok (.invokevirtual 163, 3) := by decide +kernel
theorem dX6_number_101 : decode cX6_number 101 = .ok (.ifCond .eq 55, 3) := by decide +kernel
theorem dX6_number_104 : decode cX6_number 104 = .ok (.bipush 10, 2) := by decide +kernel
theorem dX6_number_106 : decode cX6_number 106 = .ok (.iload_n 3, 1) := by decide +kernel
theorem dX6_number_107 : decode cX6_number 107 = .ok (.imul, 1) := by decide +kernel
theorem dX6_number_108 : decode cX6_number 108 = .ok (.aload_n 0, 1) := by decide +kernel
theorem dX6_number_109 : decode cX6_number 109 = .ok (.getfield 22, 3) := by decide +kernel
theorem dX6_number_112 : decode cX6_number 112 = .ok (.aload_n 0, 1) := by decide +kernel
theorem dX6_number_113 : decode cX6_number 113 = .ok (.getfield 157, 3) := by decide +kernel
theorem dX6_number_116 : decode cX6_number 116 = .ok (.iaload, 1) := by decide +kernel
theorem dX6_number_117 : decode cX6_number 117 = .ok (.iadd, 1) := by decide +kernel
theorem dX6_number_118 : decode cX6_number 118 = .ok (.bipush 48, 2) := by decide +kernel
theorem dX6_number_120 : decode cX6_number 120 = .ok (.isub, 1) := by decide +kernel
theorem dX6_number_121 : decode cX6_number 121 = .ok (.iload_n 2, 1) := by decide +kernel
theorem dX6_number_122 : decode cX6_number 122 = .ok (.if_icmp .gt 34, 3) := by decide +kernel
theorem dX6_number_125 : decode cX6_number 125 = .ok (.bipush 10, 2) := by decide +kernel
theorem dX6_number_127 : decode cX6_number 127 = .ok (.iload_n 3, 1) := by decide +kernel
theorem dX6_number_128 : decode cX6_number 128 = .ok (.imul, 1) := by decide +kernel
theorem dX6_number_129 : decode cX6_number 129 = .ok (.aload_n 0, 1) := by decide +kernel
theorem dX6_number_130 : decode cX6_number 130 = .ok (.getfield 22, 3) := by decide +kernel
theorem dX6_number_133 : decode cX6_number 133 = .ok (.aload_n 0, 1) := by decide +kernel
theorem dX6_number_134 : decode cX6_number 134 = .ok (.getfield 157, 3) := by decide +kernel
theorem dX6_number_137 : decode cX6_number 137 = .ok (.iaload, 1) := by decide +kernel
theorem dX6_number_138 : decode cX6_number 138 = .ok (.iadd, 1) := by decide +kernel
theorem dX6_number_139 : decode cX6_number 139 = .ok (.bipush 48, 2) := by decide +kernel
theorem dX6_number_141 : decode cX6_number 141 = .ok (.isub, 1) := by decide +kernel
theorem dX6_number_142 : decode cX6_number 142 = .ok (.istore_n 3, 1) := by decide +kernel
theorem dX6_number_143 : decode cX6_number 143 = .ok (.aload_n 0, 1) := by decide +kernel
theorem dX6_number_144 : decode cX6_number 144 = .ok (.dup, 1) := by decide +kernel
theorem dX6_number_145 : decode cX6_number 145 = .ok (.getfield 157, 3) := by decide +kernel
theorem dX6_number_148 : decode cX6_number 148 = .ok (.iconst 1, 1) := by decide +kernel
theorem dX6_number_149 : decode cX6_number 149 = .ok (.iadd, 1) := by decide +kernel
theorem dX6_number_150 : decode cX6_number 150 = .ok (.putfield 157, 3) := by decide +kernel
theorem dX6_number_153 : decode cX6_number 153 = .ok (.goto (-60), 3) := by decide +kernel
theorem dX6_number_156 : decode cX6_number 156 = .ok (.iload_n 3, 1) := by decide +kernel
theorem dX6_number_157 : decode cX6_number 157 = .ok (.ireturn, 1) := by decide +kernel
theorem dX6_order_0 : decode cX6_order 0 = .ok (.aload_n 0, 1) := by decide +kernel
theorem dX6_order_1 : decode cX6_order 1 = .ok (.aload_n 0, 1) := by decide +kernel
theorem dX6_order_2 : decode cX6_order 2 = .ok (.getfield 157, 3) := by decide +kernel
theorem dX6_order_5 : decode cX6_order 5 = .ok (.aload_n 0, 1) := by decide +kernel
theorem dX6_order_6 : decode cX6_order 6 = .ok (.getfield 150, 3) := by decide +kernel
theorem dX6_order_9 : decode cX6_order 9 = .ok (.if_icmp .ge 15, 3) := by decide +kernel
theorem dX6_order_12 : decode cX6_order 12 = .ok (.aload_n 0, 1) := by decide +kernel
theorem dX6_order_13 : decode cX6_order 13 = .ok (.getfield 22, 3) := by decide +kernel
theorem dX6_order_16 : decode cX6_order 16 = .ok (.aload_n 0, 1) := by decide +kernel
theorem dX6_order_17 : decode cX6_order 17 = .ok (.getfield 157, 3) := by decide +kernel
theorem dX6_order_20 : decode cX6_order 20 = .ok (.iaload, 1) := by decide +kernel
theorem dX6_order_21 : decode cX6_order 21 = .ok (.goto 4, 3) := by decide +kernel
theorem dX6_order_24 : decode cX6_order 24 = .ok (.iconst 0, 1) := by decide +kernel
theorem dX6_order_25 : decode cX6_order 25 = .ok (.putfield 167, 3) := by decide +kernel
theorem dX6_order_28 : decode cX6_order 28 = .ok (.aload_n 0, 1) := by decide +kernel
theorem dX6_order_29 : decode cX6_order 29 = .ok (.bipush (-5), 2) := by decide +kernel
theorem dX6_order_31 : decode cX6_order 31 = .ok (.putfield 170, 3) := by decide +kernel
theorem dX6_order_34 : decode cX6_order 34 = .ok (.aload_n 0, 1) := by decide +kernel
theorem dX6_order_35 : decode cX6_order 35 = .ok (.getfield 167, 3) := by decide +kernel
theorem dX6_order_38 : decode cX6_order 38 = .ok (.bipush 114, 2) := by decide +kernel
theorem dX6_order_40 : decode cX6_order 40 = .ok (.if_icmp .ne 33, 3) := by decide +kernel
theorem dX6_order_43 : decode cX6_order 43 = .ok (.aload_n 0, 1) := by decide +kernel
theorem dX6_order_44 : decode cX6_order 44 = .ok (.bipush 114, 2) := by decide +kernel
theorem dX6_order_46 : decode cX6_order 46 = .ok (.invokevirtual 160, 3) := by decide +kernel
theorem dX6_order_49 : decode cX6_order 49 = .ok (.aload_n 0, 1) := by decide +kernel
theorem dX6_order_50 : decode cX6_order 50 = .ok (.bipush 117, 2) := by decide +kernel
theorem dX6_order_52 : decode cX6_order 52 = .ok (.invokevirtual 160, 3) := by decide +kernel
theorem dX6_order_55 : decode cX6_order 55 = .ok (.aload_n 0, 1) := by decide +kernel
theorem dX6_order_56 : decode cX6_order 56 = .ok (.bipush 110, 2) := by decide +kernel
theorem dX6_order_58 : decode cX6_order 58 = .ok (.invokevirtual 160, 3) := by decide +kernel
theorem dX6_order_61 : decode cX6_order 61 = .ok (.aload_n 0, 1) := by decide +kernel
theorem dX6_order_62 : decode cX6_order 62 = .ok (.aload_n 0, 1) := by decide +kernel
theorem dX6_order_63 : decode cX6_order 63 = .ok (.iconst 1, 1) := by decide +kernel
theorem dX6_order_64 : decode cX6_order 64 = .ok (.bipush 99, 2) := by decide +kernel
theorem dX6_order_66 : decode cX6_order 66 = .ok (.invokevirtual 173, 3) := by decide +kernel
theorem dX6_order_69 : decode cX6_order 69 = .ok (.putfield 176, 3) := by decide +kernel
theorem dX6_order_72 : decode cX6_order 72 = .ok (.return_, 1) := by decide +kernel
theorem dX6_order_73 : decode cX6_order 73 = .ok (.aload_n 0, 1) := by decide +kernel
