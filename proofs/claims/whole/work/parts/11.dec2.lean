theorem dX4_stuckListeners_41 : decode cX4_stuckListeners 41 = .ok (.iinc 4 1, 3) := by decide +kernel
theorem dX4_stuckListeners_44 : decode cX4_stuckListeners 44 = .ok (.goto (-31), 3) := by decide +kernel
theorem dX4_stuckListeners_47 : decode cX4_stuckListeners 47 = .ok (.iload_n 1, 1) := by decide +kernel
theorem dX4_stuckListeners_48 : decode cX4_stuckListeners 48 = .ok (.ireturn, 1) := by decide +kernel
theorem dX4_holdFor_0 : decode cX4_holdFor 0 = .ok (.aload_n 0, 1) := by decide +kernel
theorem dX4_holdFor_1 : decode cX4_holdFor 1 = .ok (.iload_n 1, 1) := by decide +kernel
theorem dX4_holdFor_2 : decode cX4_holdFor 2 = .ok (.invokevirtual 100, 3) := by decide +kernel
theorem dX4_holdFor_5 : decode cX4_holdFor 5 = .ok (.astore_n 2, 1) := by decide +kernel
theorem dX4_holdFor_6 : decode cX4_holdFor 6 = .ok (.aload_n 2, 1) := by decide +kernel
theorem dX4_holdFor_7 : decode cX4_holdFor 7 = .ok (.ifnonnull 7, 3) := by decide +kernel
theorem dX4_holdFor_10 : decode cX4_holdFor 10 = .ok (.iconst 0, 1) := by decide +kernel
theorem dX4_holdFor_11 : decode cX4_holdFor 11 = .ok (.goto 7, 3) := by decide +kernel
theorem dX4_holdFor_14 : decode cX4_holdFor 14 = .ok (.aload_n 2, 1) := by decide +kernel
theorem dX4_holdFor_15 : decode cX4_holdFor 15 = .ok (.getfield 110, 3) := by decide +kernel
theorem dX4_holdFor_18 : decode cX4_holdFor 18 = .ok (.ireturn, 1) := by decide +kernel
theorem dX4_setting_0 : decode cX4_setting 0 = .ok (.iload_n 1, 1) := by decide +kernel
theorem dX4_setting_1 : decode cX4_setting 1 = .ok (.aload_n 0, 1) := by decide +kernel
theorem dX4_setting_2 : decode cX4_setting 2 = .ok (.getfield 23, 3) := by decide +kernel
theorem dX4_setting_5 : decode cX4_setting 5 = .ok (.arraylength, 1) := by decide +kernel
theorem dX4_setting_6 : decode cX4_setting 6 = .ok (.invokestatic 78, 3) := by decide +kernel
theorem dX4_setting_9 : decode cX4_setting 9 = .ok (.ifCond .eq 12, 3) := by decide +kernel
theorem dX4_setting_12 : decode cX4_setting 12 = .ok (.aload_n 0, 1) := by decide +kernel
theorem dX4_setting_13 : decode cX4_setting 13 = .ok (.getfield 23, 3) := by decide +kernel
theorem dX4_setting_16 : decode cX4_setting 16 = .ok (.iload_n 1, 1) := by decide +kernel
theorem dX4_setting_17 : decode cX4_setting 17 = .ok (.iaload, 1) := by decide +kernel
theorem dX4_setting_18 : decode cX4_setting 18 = .ok (.goto 4, 3) := by decide +kernel
theorem dX4_setting_21 : decode cX4_setting 21 = .ok (.iconst (-1), 1) := by decide +kernel
theorem dX4_setting_22 : decode cX4_setting 22 = .ok (.ireturn, 1) := by decide +kernel
theorem dX4_messagesInLines_0 : decode cX4_messagesInLines 0 = .ok (.iconst 0, 1) := by decide +kernel
theorem dX4_messagesInLines_1 : decode cX4_messagesInLines 1 = .ok (.istore_n 1, 1) := by decide +kernel
theorem dX4_messagesInLines_2 : decode cX4_messagesInLines 2 = .ok (.aload_n 0, 1) := by decide +kernel
theorem dX4_messagesInLines_3 : decode cX4_messagesInLines 3 = .ok (.getfield 11, 3) := by decide +kernel
theorem dX4_messagesInLines_6 : decode cX4_messagesInLines 6 = .ok (.astore_n 2, 1) := by decide +kernel
theorem dX4_messagesInLines_7 : decode cX4_messagesInLines 7 = .ok (.aload_n 2, 1) := by decide +kernel
theorem dX4_messagesInLines_8 : decode cX4_messagesInLines 8 = .ok (.arraylength, 1) := by decide +kernel
theorem dX4_messagesInLines_9 : decode cX4_messagesInLines 9 = .ok (.istore_n 3, 1) := by decide +kernel
theorem dX4_messagesInLines_10 : decode cX4_messagesInLines 10 = .ok (.iconst 0, 1) := by decide +kernel
theorem dX4_messagesInLines_11 : decode cX4_messagesInLines 11 = .ok (.istore 4, 2) := by decide +kernel
theorem dX4_messagesInLines_13 : decode cX4_messagesInLines 13 = .ok (.iload 4, 2) := by decide +kernel
theorem dX4_messagesInLines_15 : decode cX4_messagesInLines 15 = .ok (.iload_n 3, 1) := by decide +kernel
theorem dX4_messagesInLines_16 : decode cX4_messagesInLines 16 = .ok (.if_icmp .ge 23, 3) := by decide +kernel
theorem dX4_messagesInLines_19 : decode cX4_messagesInLines 19 = .ok (.aload_n 2, 1) := by decide +kernel
theorem dX4_messagesInLines_20 : decode cX4_messagesInLines 20 = .ok (.iload 4, 2) := by decide +kernel
theorem dX4_messagesInLines_22 : decode cX4_messagesInLines 22 = .ok (.aaload, 1) := by decide +kernel
theorem dX4_messagesInLines_23 : decode cX4_messagesInLines 23 = .ok (.astore 5, 2) := by decide +kernel
theorem dX4_messagesInLines_25 : decode cX4_messagesInLines 25 = .ok (.iload_n 1, 1) := by decide +kernel
theorem dX4_messagesInLines_26 : decode cX4_messagesInLines 26 = .ok (.aload 5, 2) := by decide +kernel
theorem dX4_messagesInLines_28 : decode cX4_messagesInLines 28 = .ok (.getfield 82, 3) := by decide +kernel
theorem dX4_messagesInLines_31 : decode cX4_messagesInLines 31 = .ok (.iadd, 1) := by decide +kernel
theorem dX4_messagesInLines_32 : decode cX4_messagesInLines 32 = .ok (.istore_n 1, 1) := by decide +kernel
theorem dX4_messagesInLines_33 : decode cX4_messagesInLines 33 = .ok (.iinc 4 1, 3) := by decide +kernel
theorem dX4_messagesInLines_36 : decode cX4_messagesInLines 36 = .ok (.goto (-23), 3) := by decide +kernel
theorem dX4_messagesInLines_39 : decode cX4_messagesInLines 39 = .ok (.iload_n 1, 1) := by decide +kernel
theorem dX4_messagesInLines_40 : decode cX4_messagesInLines 40 = .ok (.ireturn, 1) := by decide +kernel
theorem dX4_messagesThatCame_0 : decode cX4_messagesThatCame 0 = .ok (.iconst 0, 1) := by decide +kernel
theorem dX4_messagesThatCame_1 : decode cX4_messagesThatCame 1 = .ok (.istore_n 1, 1) := by decide +kernel
theorem dX4_messagesThatCame_2 : decode cX4_messagesThatCame 2 = .ok (.aload_n 0, 1) := by decide +kernel
theorem dX4_messagesThatCame_3 : decode cX4_messagesThatCame 3 = .ok (.getfield 11, 3) := by decide +kernel
theorem dX4_messagesThatCame_6 : decode cX4_messagesThatCame 6 = .ok (.astore_n 2, 1) := by decide +kernel
theorem dX4_messagesThatCame_7 : decode cX4_messagesThatCame 7 = .ok (.aload_n 2, 1) := by decide +kernel
theorem dX4_messagesThatCame_8 : decode cX4_messagesThatCame 8 = .ok (.arraylength, 1) := by decide +kernel
theorem dX4_messagesThatCame_9 : decode cX4_messagesThatCame 9 = .ok (.istore_n 3, 1) := by decide +kernel
theorem dX4_messagesThatCame_10 : decode cX4_messagesThatCame 10 = .ok (.iconst 0, 1) := by decide +kernel
theorem dX4_messagesThatCame_11 : decode cX4_messagesThatCame 11 = .ok (.istore 4, 2) := by decide +kernel
theorem dX4_messagesThatCame_13 : decode cX4_messagesThatCame 13 = .ok (.iload 4, 2) := by decide +kernel
theorem dX4_messagesThatCame_15 : decode cX4_messagesThatCame 15 = .ok (.iload_n 3, 1) := by decide +kernel
theorem dX4_messagesThatCame_16 : decode cX4_messagesThatCame 16 = .ok (.if_icmp .ge 23, 3) := by decide +kernel
theorem dX4_messagesThatCame_19 : decode cX4_messagesThatCame 19 = .ok (.aload_n 2, 1) := by decide +kernel
theorem dX4_messagesThatCame_20 : decode cX4_messagesThatCame 20 = .ok (.iload 4, 2) := by decide +kernel
theorem dX4_messagesThatCame_22 : decode cX4_messagesThatCame 22 = .ok (.aaload, 1) := by decide +kernel
theorem dX4_messagesThatCame_23 : decode cX4_messagesThatCame 23 = .ok (.astore 5, 2) := by decide +kernel
theorem dX4_messagesThatCame_25 : decode cX4_messagesThatCame 25 = .ok (.iload_n 1, 1) := by decide +kernel
theorem dX4_messagesThatCame_26 : decode cX4_messagesThatCame 26 = .ok (.aload 5, 2) := by decide +kernel
theorem dX4_messagesThatCame_28 : decode cX4_messagesThatCame 28 = .ok (.getfield 208, 3) := by decide +kernel
theorem dX4_messagesThatCame_31 : decode cX4_messagesThatCame 31 = .ok (.iadd, 1) := by decide +kernel
theorem dX4_messagesThatCame_32 : decode cX4_messagesThatCame 32 = .ok (.istore_n 1, 1) := by decide +kernel
theorem dX4_messagesThatCame_33 : decode cX4_messagesThatCame 33 = .ok (.iinc 4 1, 3) := by decide +kernel
theorem dX4_messagesThatCame_36 : decode cX4_messagesThatCame 36 = .ok (.goto (-23), 3) := by decide +kernel
theorem dX4_messagesThatCame_39 : decode cX4_messagesThatCame 39 = .ok (.iload_n 1, 1) := by decide +kernel
theorem dX4_messagesThatCame_40 : decode cX4_messagesThatCame 40 = .ok (.ireturn, 1) := by decide +kernel
theorem dX4_cameFrom_0 : decode cX4_cameFrom 0 = .ok (.iload_n 1, 1) := by decide +kernel
theorem dX4_cameFrom_1 : decode cX4_cameFrom 1 = .ok (.aload_n 0, 1) := by decide +kernel
theorem dX4_cameFrom_2 : decode cX4_cameFrom 2 = .ok (.getfield 11, 3) := by decide +kernel
theorem dX4_cameFrom_5 : decode cX4_cameFrom 5 = .ok (.arraylength, 1) := by decide +kernel
theorem dX4_cameFrom_6 : decode cX4_cameFrom 6 = .ok (.invokestatic 78, 3) := by decide +kernel
theorem dX4_cameFrom_9 : decode cX4_cameFrom 9 = .ok (.ifCond .eq 15, 3) := by decide +kernel
theorem dX4_cameFrom_12 : decode cX4_cameFrom 12 = .ok (.aload_n 0, 1) := by decide +kernel
theorem dX4_cameFrom_13 : decode cX4_cameFrom 13 = .ok (.getfield 11, 3) := by decide +kernel
theorem dX4_cameFrom_16 : decode cX4_cameFrom 16 = .ok (.iload_n 1, 1) := by decide +kernel
theorem dX4_cameFrom_17 : decode cX4_cameFrom 17 = .ok (.aaload, 1) := by decide +kernel
theorem dX4_cameFrom_18 : decode cX4_cameFrom 18 = .ok (.getfield 208, 3) := by decide +kernel
theorem dX4_cameFrom_21 : decode cX4_cameFrom 21 = .ok (.goto 4, 3) := by decide +kernel
theorem dX4_cameFrom_24 : decode cX4_cameFrom 24 = .ok (.iconst 0, 1) := by decide +kernel
theorem dX4_cameFrom_25 : decode cX4_cameFrom 25 = .ok (.ireturn, 1) := by decide +kernel
theorem dX4_isIn_0 : decode cX4_isIn 0 = .ok (.iload_n 0, 1) := by decide +kernel
theorem dX4_isIn_1 : decode cX4_isIn 1 = .ok (.iload_n 1, 1) := by decide +kernel
theorem dX4_isIn_2 : decode cX4_isIn 2 = .ok (.ishr, 1) := by decide +kernel
theorem dX4_isIn_3 : decode cX4_isIn 3 = .ok (.iconst 1, 1) := by decide +kernel
theorem dX4_isIn_4 : decode cX4_isIn 4 = .ok (.iand, 1) := by decide +kernel
theorem dX4_isIn_5 : decode cX4_isIn 5 = .ok (.iconst 1, 1) := by decide +kernel
theorem dX4_isIn_6 : decode cX4_isIn 6 = .ok (.if_icmp .ne 7, 3) := by decide +kernel
theorem dX4_isIn_9 : decode cX4_isIn 9 = .ok (.iconst 1, 1) := by decide +kernel
theorem dX4_isIn_10 : decode cX4_isIn 10 = .ok (.goto 4, 3) := by decide +kernel
theorem dX4_isIn_13 : decode cX4_isIn 13 = .ok (.iconst 0, 1) := by decide +kernel
theorem dX4_isIn_14 : decode cX4_isIn 14 = .ok (.ireturn, 1) := by decide +kernel
theorem dX4_talkers_0 : decode cX4_talkers 0 = .ok (.iconst 0, 1) := by decide +kernel
theorem dX4_talkers_1 : decode cX4_talkers 1 = .ok (.istore_n 1, 1) := by decide +kernel
theorem dX4_talkers_2 : decode cX4_talkers 2 = .ok (.iconst 0, 1) := by decide +kernel
theorem dX4_talkers_3 : decode cX4_talkers 3 = .ok (.istore_n 2, 1) := by decide +kernel
theorem dX4_talkers_4 : decode cX4_talkers 4 = .ok (.iload_n 2, 1) := by decide +kernel
theorem dX4_talkers_5 : decode cX4_talkers 5 = .ok (.aload_n 0, 1) := by decide +kernel
theorem dX4_talkers_6 : decode cX4_talkers 6 = .ok (.getfield 11, 3) := by decide +kernel
theorem dX4_talkers_9 : decode cX4_talkers 9 = .ok (.arraylength, 1) := by decide +kernel
theorem dX4_talkers_10 : decode cX4_talkers 10 = .ok (.if_icmp .ge 31, 3) := by decide +kernel
theorem dX4_talkers_13 : decode cX4_talkers 13 = .ok (.iload_n 1, 1) := by decide +kernel
theorem dX4_talkers_14 : decode cX4_talkers 14 = .ok (.aload_n 0, 1) := by decide +kernel
theorem dX4_talkers_15 : decode cX4_talkers 15 = .ok (.getfield 11, 3) := by decide +kernel
theorem dX4_talkers_18 : decode cX4_talkers 18 = .ok (.iload_n 2, 1) := by decide +kernel
theorem dX4_talkers_19 : decode cX4_talkers 19 = .ok (.aaload, 1) := by decide +kernel
theorem dX4_talkers_20 : decode cX4_talkers 20 = .ok (.getfield 89, 3) := by decide +kernel
theorem dX4_talkers_23 : decode cX4_talkers 23 = .ok (.ifCond .eq 9, 3) := by decide +kernel
theorem dX4_talkers_26 : decode cX4_talkers 26 = .ok (.iconst 1, 1) := by decide +kernel
theorem dX4_talkers_27 : decode cX4_talkers 27 = .ok (.iload_n 2, 1) := by decide +kernel
theorem dX4_talkers_28 : decode cX4_talkers 28 = .ok (.ishl, 1) := by decide +kernel
theorem dX4_talkers_29 : decode cX4_talkers 29 = .ok (.goto 4, 3) := by decide +kernel
theorem dX4_talkers_32 : decode cX4_talkers 32 = .ok (.iconst 0, 1) := by decide +kernel
theorem dX4_talkers_33 : decode cX4_talkers 33 = .ok (.ior, 1) := by decide +kernel
theorem dX4_talkers_34 : decode cX4_talkers 34 = .ok (.istore_n 1, 1) := by decide +kernel
theorem dX4_talkers_35 : decode cX4_talkers 35 = .ok (.iinc 2 1, 3) := by decide +kernel
theorem dX4_talkers_38 : decode cX4_talkers 38 = .ok (.goto (-34), 3) := by decide +kernel
theorem dX4_talkers_41 : decode cX4_talkers 41 = .ok (.iload_n 1, 1) := by decide +kernel
theorem dX4_talkers_42 : decode cX4_talkers 42 = .ok (.ireturn, 1) := by decide +kernel
theorem dX4_speakersWithMessage_0 : decode cX4_speakersWithMessage 0 = .ok (.iconst 0, 1) := by decide +kernel
theorem dX4_speakersWithMessage_1 : decode cX4_speakersWithMessage 1 = .ok (.istore_n 1, 1) := by decide +kernel
theorem dX4_speakersWithMessage_2 : decode cX4_speakersWithMessage 2 = .ok (.iconst 0, 1) := by decide +kernel
theorem dX4_speakersWithMessage_3 : decode cX4_speakersWithMessage 3 = .ok (.istore_n 2, 1) := by decide +kernel
theorem dX4_speakersWithMessage_4 : decode cX4_speakersWithMessage 4 = .ok (.iload_n 2, 1) := by decide +kernel
theorem dX4_speakersWithMessage_5 : decode cX4_speakersWithMessage 5 = .ok (.aload_n 0, 1) := by decide +kernel
theorem dX4_speakersWithMessage_6 : decode cX4_speakersWithMessage 6 = .ok (.getfield 11, 3) := by decide +kernel
theorem dX4_speakersWithMessage_9 : decode cX4_speakersWithMessage 9 = .ok (.arraylength, 1) := by decide +kernel
theorem dX4_speakersWithMessage_10 : decode cX4_speakersWithMessage 10 = .ok (.if_icmp .ge 31, 3) := by decide +kernel
theorem dX4_speakersWithMessage_13 : decode cX4_speakersWithMessage 13 = .ok (.iload_n 1, 1) := by decide +kernel
theorem dX4_speakersWithMessage_14 : decode cX4_speakersWithMessage 14 = .ok (.aload_n 0, 1) := by decide +kernel
theorem dX4_speakersWithMessage_15 : decode cX4_speakersWithMessage 15 = .ok (.getfield 11, 3) := by decide +kernel
theorem dX4_speakersWithMessage_18 : decode cX4_speakersWithMessage 18 = .ok (.iload_n 2, 1) := by decide +kernel
theorem dX4_speakersWithMessage_19 : decode cX4_speakersWithMessage 19 = .ok (.aaload, 1) := by decide +kernel
theorem dX4_speakersWithMessage_20 : decode cX4_speakersWithMessage 20 = .ok (.getfield 82, 3) := by decide +kernel
theorem dX4_speakersWithMessage_23 : decode cX4_speakersWithMessage 23 = .ok (.ifCond .le 9, 3) := by decide +kernel
theorem dX4_speakersWithMessage_26 : decode cX4_speakersWithMessage 26 = .ok (.iconst 1, 1) := by decide +kernel
theorem dX4_speakersWithMessage_27 : decode cX4_speakersWithMessage 27 = .ok (.iload_n 2, 1) := by decide +kernel
theorem dX4_speakersWithMessage_28 : decode cX4_speakersWithMessage 28 = .ok (.ishl, 1) := by decide +kernel
theorem dX4_speakersWithMessage_29 : decode cX4_speakersWithMessage 29 = .ok (.goto 4, 3) := by decide +kernel
theorem dX4_speakersWithMessage_32 : decode cX4_speakersWithMessage 32 = .ok (.iconst 0, 1) := by decide +kernel
theorem dX4_speakersWithMessage_33 : decode cX4_speakersWithMessage 33 = .ok (.ior, 1) := by decide +kernel
theorem dX4_speakersWithMessage_34 : decode cX4_speakersWithMessage 34 = .ok (.istore_n 1, 1) := by decide +kernel
theorem dX4_speakersWithMessage_35 : decode cX4_speakersWithMessage 35 = .ok (.iinc 2 1, 3) := by decide +kernel
theorem dX4_speakersWithMessage_38 : decode cX4_speakersWithMessage 38 = .ok (.goto (-34), 3) := by decide +kernel
theorem dX4_speakersWithMessage_41 : decode cX4_speakersWithMessage 41 = .ok (.iload_n 1, 1) := by decide +kernel
theorem dX4_speakersWithMessage_42 : decode cX4_speakersWithMessage 42 = .ok (.ireturn, 1) := by decide +kernel
theorem dX4_sendersOf_0 : decode cX4_sendersOf 0 = .ok (.iload_n 2, 1) := by decide +kernel
theorem dX4_sendersOf_1 : decode cX4_sendersOf 1 = .ok (.bipush 9, 2) := by decide +kernel
theorem dX4_sendersOf_3 : decode cX4_sendersOf 3 = .ok (.idiv, 1) := by decide +kernel
theorem dX4_sendersOf_4 : decode cX4_sendersOf 4 = .ok (.istore 4, 2) := by decide +kernel
theorem dX4_sendersOf_6 : decode cX4_sendersOf 6 = .ok (.bipush 7, 2) := by decide +kernel
theorem dX4_sendersOf_8 : decode cX4_sendersOf 8 = .ok (.iload_n 2, 1) := by decide +kernel
theorem dX4_sendersOf_9 : decode cX4_sendersOf 9 = .ok (.bipush 9, 2) := by decide +kernel
theorem dX4_sendersOf_11 : decode cX4_sendersOf 11 = .ok (.irem, 1) := by decide +kernel
theorem dX4_sendersOf_12 : decode cX4_sendersOf 12 = .ok (.isub, 1) := by decide +kernel
theorem dX4_sendersOf_13 : decode cX4_sendersOf 13 = .ok (.istore 5, 2) := by decide +kernel
theorem dX4_sendersOf_15 : decode cX4_sendersOf 15 = .ok (.iconst 0, 1) := by decide +kernel
theorem dX4_sendersOf_16 : decode cX4_sendersOf 16 = .ok (.istore 6, 2) := by decide +kernel
theorem dX4_sendersOf_18 : decode cX4_sendersOf 18 = .ok (.iconst 0, 1) := by decide +kernel
theorem dX4_sendersOf_19 : decode cX4_sendersOf 19 = .ok (.istore 7, 2) := by decide +kernel
theorem dX4_sendersOf_21 : decode cX4_sendersOf 21 = .ok (.iload 7, 2) := by decide +kernel
theorem dX4_sendersOf_23 : decode cX4_sendersOf 23 = .ok (.aload_n 0, 1) := by decide +kernel
theorem dX4_sendersOf_24 : decode cX4_sendersOf 24 = .ok (.getfield 11, 3) := by decide +kernel
theorem dX4_sendersOf_27 : decode cX4_sendersOf 27 = .ok (.arraylength, 1) := by decide +kernel
theorem dX4_sendersOf_28 : decode cX4_sendersOf 28 = .ok (.if_icmp .ge 57, 3) := by decide +kernel
theorem dX4_sendersOf_31 : decode cX4_sendersOf 31 = .ok (.aload_n 0, 1) := by decide +kernel
theorem dX4_sendersOf_32 : decode cX4_sendersOf 32 = .ok (.getfield 11, 3) := by decide +kernel
theorem dX4_sendersOf_35 : decode cX4_sendersOf 35 = .ok (.iload 7, 2) := by decide +kernel
theorem dX4_sendersOf_37 : decode cX4_sendersOf 37 = .ok (.aaload, 1) := by decide +kernel
theorem dX4_sendersOf_38 : decode cX4_sendersOf 38 = .ok (.iconst 0, 1) := by decide +kernel
theorem dX4_sendersOf_39 : decode cX4_sendersOf 39 = .ok (.iload 4, 2) := by decide +kernel
theorem dX4_sendersOf_41 : decode cX4_sendersOf 41 = .ok (.invokevirtual 211, 3) := by decide +kernel
theorem dX4_sendersOf_44 : decode cX4_sendersOf 44 = .ok (.iload 5, 2) := by decide +kernel
theorem dX4_sendersOf_46 : decode cX4_sendersOf 46 = .ok (.ishr, 1) := by decide +kernel
theorem dX4_sendersOf_47 : decode cX4_sendersOf 47 = .ok (.iconst 1, 1) := by decide +kernel
theorem dX4_sendersOf_48 : decode cX4_sendersOf 48 = .ok (.iand, 1) := by decide +kernel
theorem dX4_sendersOf_49 : decode cX4_sendersOf 49 = .ok (.istore 8, 2) := by decide +kernel
theorem dX4_sendersOf_51 : decode cX4_sendersOf 51 = .ok (.iload 6, 2) := by decide +kernel
theorem dX4_sendersOf_53 : decode cX4_sendersOf 53 = .ok (.iload_n 1, 1) := by decide +kernel
theorem dX4_sendersOf_54 : decode cX4_sendersOf 54 = .ok (.iload 7, 2) := by decide +kernel
theorem dX4_sendersOf_56 : decode cX4_sendersOf 56 = .ok (.invokestatic 203, 3) := by decide +kernel
theorem dX4_sendersOf_59 : decode cX4_sendersOf 59 = .ok (.ifCond .eq 16, 3) := by decide +kernel
theorem dX4_sendersOf_62 : decode cX4_sendersOf 62 = .ok (.iload 8, 2) := by decide +kernel
theorem dX4_sendersOf_64 : decode cX4_sendersOf 64 = .ok (.iload_n 3, 1) := by decide +kernel
theorem dX4_sendersOf_65 : decode cX4_sendersOf 65 = .ok (.if_icmp .ne 10, 3) := by decide +kernel
theorem dX4_sendersOf_68 : decode cX4_sendersOf 68 = .ok (.iconst 1, 1) := by decide +kernel
theorem dX4_sendersOf_69 : decode cX4_sendersOf 69 = .ok (.iload 7, 2) := by decide +kernel
theorem dX4_sendersOf_71 : decode cX4_sendersOf 71 = .ok (.ishl, 1) := by decide +kernel
theorem dX4_sendersOf_72 : decode cX4_sendersOf 72 = .ok (.goto 4, 3) := by decide +kernel
theorem dX4_sendersOf_75 : decode cX4_sendersOf 75 = .ok (.iconst 0, 1) := by decide +kernel
theorem dX4_sendersOf_76 : decode cX4_sendersOf 76 = .ok (.ior, 1) := by decide +kernel
theorem dX4_sendersOf_77 : decode cX4_sendersOf 77 = .ok (.istore 6, 2) := by decide +kernel
theorem dX4_sendersOf_79 : decode cX4_sendersOf 79 = .ok (.iinc 7 1, 3) := by decide +kernel
theorem dX4_sendersOf_82 : decode cX4_sendersOf 82 = .ok (.goto (-61), 3) := by decide +kernel
theorem dX4_sendersOf_85 : decode cX4_sendersOf 85 = .ok (.iload 6, 2) := by decide +kernel
theorem dX4_sendersOf_87 : decode cX4_sendersOf 87 = .ok (.ireturn, 1) := by decide +kernel
theorem dX4_endsAt_0 : decode cX4_endsAt 0 = .ok (.aload_n 0, 1) := by decide +kernel
theorem dX4_endsAt_1 : decode cX4_endsAt 1 = .ok (.iconst 0, 1) := by decide +kernel
theorem dX4_endsAt_2 : decode cX4_endsAt 2 = .ok (.invokevirtual 214, 3) := by decide +kernel
theorem dX4_endsAt_5 : decode cX4_endsAt 5 = .ok (.bipush 9, 2) := by decide +kernel
theorem dX4_endsAt_7 : decode cX4_endsAt 7 = .ok (.imul, 1) := by decide +kernel
theorem dX4_endsAt_8 : decode cX4_endsAt 8 = .ok (.iload_n 1, 1) := by decide +kernel
theorem dX4_endsAt_9 : decode cX4_endsAt 9 = .ok (.iconst 1, 1) := by decide +kernel
theorem dX4_endsAt_10 : decode cX4_endsAt 10 = .ok (.iadd, 1) := by decide +kernel
theorem dX4_endsAt_11 : decode cX4_endsAt 11 = .ok (.if_icmp .ne 7, 3) := by decide +kernel
theorem dX4_endsAt_14 : decode cX4_endsAt 14 = .ok (.iconst 1, 1) := by decide +kernel
theorem dX4_endsAt_15 : decode cX4_endsAt 15 = .ok (.goto 4, 3) := by decide +kernel
theorem dX4_endsAt_18 : decode cX4_endsAt 18 = .ok (.iconst 0, 1) := by decide +kernel
theorem dX4_endsAt_19 : decode cX4_endsAt 19 = .ok (.ireturn, 1) := by decide +kernel
theorem dX4_endingAt_0 : decode cX4_endingAt 0 = .ok (.iconst 0, 1) := by decide +kernel
theorem dX4_endingAt_1 : decode cX4_endingAt 1 = .ok (.istore_n 3, 1) := by decide +kernel
theorem dX4_endingAt_2 : decode cX4_endingAt 2 = .ok (.iconst 0, 1) := by decide +kernel
theorem dX4_endingAt_3 : decode cX4_endingAt 3 = .ok (.istore 4, 2) := by decide +kernel
theorem dX4_endingAt_5 : decode cX4_endingAt 5 = .ok (.iload 4, 2) := by decide +kernel
theorem dX4_endingAt_7 : decode cX4_endingAt 7 = .ok (.aload_n 0, 1) := by decide +kernel
theorem dX4_endingAt_8 : decode cX4_endingAt 8 = .ok (.getfield 11, 3) := by decide +kernel
theorem dX4_endingAt_11 : decode cX4_endingAt 11 = .ok (.arraylength, 1) := by decide +kernel
theorem dX4_endingAt_12 : decode cX4_endingAt 12 = .ok (.if_icmp .ge 43, 3) := by decide +kernel
theorem dX4_endingAt_15 : decode cX4_endingAt 15 = .ok (.iload_n 3, 1) := by decide +kernel
theorem dX4_endingAt_16 : decode cX4_endingAt 16 = .ok (.iload_n 1, 1) := by decide +kernel
theorem dX4_endingAt_17 : decode cX4_endingAt 17 = .ok (.iload 4, 2) := by decide +kernel
theorem dX4_endingAt_19 : decode cX4_endingAt 19 = .ok (.invokestatic 203, 3) := by decide +kernel
theorem dX4_endingAt_22 : decode cX4_endingAt 22 = .ok (.ifCond .eq 24, 3) := by decide +kernel
theorem dX4_endingAt_25 : decode cX4_endingAt 25 = .ok (.aload_n 0, 1) := by decide +kernel
theorem dX4_endingAt_26 : decode cX4_endingAt 26 = .ok (.getfield 11, 3) := by decide +kernel
theorem dX4_endingAt_29 : decode cX4_endingAt 29 = .ok (.iload 4, 2) := by decide +kernel
theorem dX4_endingAt_31 : decode cX4_endingAt 31 = .ok (.aaload, 1) := by decide +kernel
theorem dX4_endingAt_32 : decode cX4_endingAt 32 = .ok (.iload_n 2, 1) := by decide +kernel
theorem dX4_endingAt_33 : decode cX4_endingAt 33 = .ok (.invokestatic 193, 3) := by decide +kernel
theorem dX4_endingAt_36 : decode cX4_endingAt 36 = .ok (.ifCond .eq 10, 3) := by decide +kernel
theorem dX4_endingAt_39 : decode cX4_endingAt 39 = .ok (.iconst 1, 1) := by decide +kernel
theorem dX4_endingAt_40 : decode cX4_endingAt 40 = .ok (.iload 4, 2) := by decide +kernel
theorem dX4_endingAt_42 : decode cX4_endingAt 42 = .ok (.ishl, 1) := by decide +kernel
theorem dX4_endingAt_43 : decode cX4_endingAt 43 = .ok (.goto 4, 3) := by decide +kernel
theorem dX4_endingAt_46 : decode cX4_endingAt 46 = .ok (.iconst 0, 1) := by decide +kernel
theorem dX4_endingAt_47 : decode cX4_endingAt 47 = .ok (.ior, 1) := by decide +kernel
theorem dX4_endingAt_48 : decode cX4_endingAt 48 = .ok (.istore_n 3, 1) := by decide +kernel
theorem dX4_endingAt_49 : decode cX4_endingAt 49 = .ok (.iinc 4 1, 3) := by decide +kernel
theorem dX4_endingAt_52 : decode cX4_endingAt 52 = .ok (.goto (-47), 3) := by decide +kernel
theorem dX4_endingAt_55 : decode cX4_endingAt 55 = .ok (.iload_n 3, 1) := by decide +kernel
theorem dX4_endingAt_56 : decode cX4_endingAt 56 = .ok (.ireturn, 1) := by decide +kernel
theorem dX4_partOfTalk_0 : decode cX4_partOfTalk 0 = .ok (.aload_n 0, 1) := by decide +kernel
theorem dX4_partOfTalk_1 : decode cX4_partOfTalk 1 = .ok (.getfield 11, 3) := by decide +kernel
theorem dX4_partOfTalk_4 : decode cX4_partOfTalk 4 = .ok (.astore_n 2, 1) := by decide +kernel
theorem dX4_partOfTalk_5 : decode cX4_partOfTalk 5 = .ok (.aload_n 2, 1) := by decide +kernel
theorem dX4_partOfTalk_6 : decode cX4_partOfTalk 6 = .ok (.arraylength, 1) := by decide +kernel
theorem dX4_partOfTalk_7 : decode cX4_partOfTalk 7 = .ok (.istore_n 3, 1) := by decide +kernel
theorem dX4_partOfTalk_8 : decode cX4_partOfTalk 8 = .ok (.iconst 0, 1) := by decide +kernel
theorem dX4_partOfTalk_9 : decode cX4_partOfTalk 9 = .ok (.istore 4, 2) := by decide +kernel
theorem dX4_partOfTalk_11 : decode cX4_partOfTalk 11 = .ok (.iload 4, 2) := by decide +kernel
theorem dX4_partOfTalk_13 : decode cX4_partOfTalk 13 = .ok (.iload_n 3, 1) := by decide +kernel
theorem dX4_partOfTalk_14 : decode cX4_partOfTalk 14 = .ok (.if_icmp .ge 31, 3) := by decide +kernel
theorem dX4_partOfTalk_17 : decode cX4_partOfTalk 17 = .ok (.aload_n 2, 1) := by decide +kernel
theorem dX4_partOfTalk_18 : decode cX4_partOfTalk 18 = .ok (.iload 4, 2) := by decide +kernel
theorem dX4_partOfTalk_20 : decode cX4_partOfTalk 20 = .ok (.aaload, 1) := by decide +kernel
theorem dX4_partOfTalk_21 : decode cX4_partOfTalk 21 = .ok (.astore 5, 2) := by decide +kernel
theorem dX4_partOfTalk_23 : decode cX4_partOfTalk 23 = .ok (.aload 5, 2) := by decide +kernel
theorem dX4_partOfTalk_25 : decode cX4_partOfTalk 25 = .ok (.getfield 89, 3) := by decide +kernel
theorem dX4_partOfTalk_28 : decode cX4_partOfTalk 28 = .ok (.ifCond .eq 11, 3) := by decide +kernel
theorem dX4_partOfTalk_31 : decode cX4_partOfTalk 31 = .ok (.aload 5, 2) := by decide +kernel
theorem dX4_partOfTalk_33 : decode cX4_partOfTalk 33 = .ok (.iconst 0, 1) := by decide +kernel
theorem dX4_partOfTalk_34 : decode cX4_partOfTalk 34 = .ok (.iload_n 1, 1) := by decide +kernel
theorem dX4_partOfTalk_35 : decode cX4_partOfTalk 35 = .ok (.invokevirtual 211, 3) := by decide +kernel
theorem dX4_partOfTalk_38 : decode cX4_partOfTalk 38 = .ok (.ireturn, 1) := by decide +kernel
theorem dX4_partOfTalk_39 : decode cX4_partOfTalk 39 = .ok (.iinc 4 1, 3) := by decide +kernel
theorem dX4_partOfTalk_42 : decode cX4_partOfTalk 42 = .ok (.goto (-31), 3) := by decide +kernel
theorem dX4_partOfTalk_45 : decode cX4_partOfTalk 45 = .ok (.bipush (-5), 2) := by decide +kernel
theorem dX4_partOfTalk_47 : decode cX4_partOfTalk 47 = .ok (.ireturn, 1) := by decide +kernel
theorem dX5_init_0 : decode cX5_init 0 = .ok (.aload_n 0, 1) := by decide +kernel
theorem dX5_init_1 : decode cX5_init 1 = .ok (.invokespecial 1, 3) := by decide +kernel
theorem dX5_init_4 : decode cX5_init 4 = .ok (.aload_n 0, 1) := by decide +kernel
theorem dX5_init_5 : decode cX5_init 5 = .ok (.new 7, 3) := by decide +kernel
theorem dX5_init_8 : decode cX5_init 8 = .ok (.dup, 1) := by decide +kernel
theorem dX5_init_9 : decode cX5_init 9 = .ok (.invokespecial 9, 3) := by decide +kernel
theorem dX5_init_12 : decode cX5_init 12 = .ok (.putfield 10, 3) := by decide +kernel
theorem dX5_init_15 : decode cX5_init 15 = .ok (.aload_n 0, 1) := by decide +kernel
theorem dX5_init_16 : decode cX5_init 16 = .ok (.new 7, 3) := by decide +kernel
theorem dX5_init_19 : decode cX5_init 19 = .ok (.dup, 1) := by decide +kernel
theorem dX5_init_20 : decode cX5_init 20 = .ok (.invokespecial 9, 3) := by decide +kernel
theorem dX5_init_23 : decode cX5_init 23 = .ok (.putfield 16, 3) := by decide +kernel
theorem dX5_init_26 : decode cX5_init 26 = .ok (.aload_n 0, 1) := by decide +kernel
theorem dX5_init_27 : decode cX5_init 27 = .ok (.iconst 4, 1) := by decide +kernel
theorem dX5_init_28 : decode cX5_init 28 = .ok (.anewarray 7, 3) := by decide +kernel
theorem dX5_init_31 : decode cX5_init 31 = .ok (.putfield 19, 3) := by decide +kernel
theorem dX5_init_34 : decode cX5_init 34 = .ok (.aload_n 0, 1) := by decide +kernel
theorem dX5_init_35 : decode cX5_init 35 = .ok (.new 23, 3) := by decide +kernel
theorem dX5_init_38 : decode cX5_init 38 = .ok (.dup, 1) := by decide +kernel
theorem dX5_init_39 : decode cX5_init 39 = .ok (.invokespecial 25, 3) := by decide +kernel
theorem dX5_init_42 : decode cX5_init 42 = .ok (.putfield 26, 3) := by decide +kernel
theorem dX5_init_45 : decode cX5_init 45 = .ok (.aload_n 0, 1) := by decide +kernel
theorem dX5_init_46 : decode cX5_init 46 = .ok (.new 7, 3) := by decide +kernel
theorem dX5_init_49 : decode cX5_init 49 = .ok (.dup, 1) := by decide +kernel
theorem dX5_init_50 : decode cX5_init 50 = .ok (.invokespecial 9, 3) := by decide +kernel
theorem dX5_init_53 : decode cX5_init 53 = .ok (.putfield 30, 3) := by decide +kernel
theorem dX5_init_56 : decode cX5_init 56 = .ok (.aload_n 0, 1) := by decide +kernel
theorem dX5_init_57 : decode cX5_init 57 = .ok (.bipush (-5), 2) := by decide +kernel
theorem dX5_init_59 : decode cX5_init 59 = .ok (.putfield 33, 3) := by decide +kernel
theorem dX5_init_62 : decode cX5_init 62 = .ok (.aload_n 0, 1) := by decide +kernel
theorem dX5_init_63 : decode cX5_init 63 = .ok (.bipush (-5), 2) := by decide +kernel
theorem dX5_init_65 : decode cX5_init 65 = .ok (.putfield 37, 3) := by decide +kernel
theorem dX5_init_68 : decode cX5_init 68 = .ok (.iconst 0, 1) := by decide +kernel
theorem dX5_init_69 : decode cX5_init 69 = .ok (.istore_n 1, 1) := by decide +kernel
theorem dX5_init_70 : decode cX5_init 70 = .ok (.iload_n 1, 1) := by decide +kernel
theorem dX5_init_71 : decode cX5_init 71 = .ok (.aload_n 0, 1) := by decide +kernel
theorem dX5_init_72 : decode cX5_init 72 = .ok (.getfield 19, 3) := by decide +kernel
theorem dX5_init_75 : decode cX5_init 75 = .ok (.arraylength, 1) := by decide +kernel
theorem dX5_init_76 : decode cX5_init 76 = .ok (.if_icmp .ge 22, 3) := by decide +kernel
theorem dX5_init_79 : decode cX5_init 79 = .ok (.aload_n 0, 1) := by decide +kernel
theorem dX5_init_80 : decode cX5_init 80 = .ok (.getfield 19, 3) := by decide +kernel
theorem dX5_init_83 : decode cX5_init 83 = .ok (.iload_n 1, 1) := by decide +kernel
theorem dX5_init_84 : decode cX5_init 84 = .ok (.new 7, 3) := by decide +kernel
theorem dX5_init_87 : decode cX5_init 87 = .ok (.dup, 1) := by decide +kernel
theorem dX5_init_88 : decode cX5_init 88 = .ok (.invokespecial 9, 3) := by decide +kernel
theorem dX5_init_91 : decode cX5_init 91 = .ok (.aastore, 1) := by decide +kernel
theorem dX5_init_92 : decode cX5_init 92 = .ok (.iinc 1 1, 3) := by decide +kernel
theorem dX5_init_95 : decode cX5_init 95 = .ok (.goto (-25), 3) := by decide +kernel
theorem dX5_init_98 : decode cX5_init 98 = .ok (.return_, 1) := by decide +kernel
theorem dX5_say_0 : decode cX5_say 0 = .ok (.aload_n 0, 1) := by decide +kernel
theorem dX5_say_1 : decode cX5_say 1 = .ok (.getfield 30, 3) := by decide +kernel
theorem dX5_say_4 : decode cX5_say 4 = .ok (.aload_n 0, 1) := by decide +kernel
theorem dX5_say_5 : decode cX5_say 5 = .ok (.getfield 10, 3) := by decide +kernel
theorem dX5_say_8 : decode cX5_say 8 = .ok (.invokevirtual 40, 3) := by decide +kernel
theorem dX5_say_11 : decode cX5_say 11 = .ok (.aload_n 0, 1) := by decide +kernel
theorem dX5_say_12 : decode cX5_say 12 = .ok (.aload_n 0, 1) := by decide +kernel
theorem dX5_say_13 : decode cX5_say 13 = .ok (.getfield 10, 3) := by decide +kernel
theorem dX5_say_16 : decode cX5_say 16 = .ok (.iload_n 1, 1) := by decide +kernel
theorem dX5_say_17 : decode cX5_say 17 = .ok (.iload_n 2, 1) := by decide +kernel
theorem dX5_say_18 : decode cX5_say 18 = .ok (.iload_n 3, 1) := by decide +kernel
theorem dX5_say_19 : decode cX5_say 19 = .ok (.iload 4, 2) := by decide +kernel
theorem dX5_say_21 : decode cX5_say 21 = .ok (.invokevirtual 44, 3) := by decide +kernel
theorem dX5_say_24 : decode cX5_say 24 = .ok (.invokevirtual 48, 3) := by decide +kernel
theorem dX5_say_27 : decode cX5_say 27 = .ok (.ireturn, 1) := by decide +kernel
theorem dX5_takeBack_0 : decode cX5_takeBack 0 = .ok (.aload_n 0, 1) := by decide +kernel
theorem dX5_takeBack_1 : decode cX5_takeBack 1 = .ok (.getfield 30, 3) := by decide +kernel
theorem dX5_takeBack_4 : decode cX5_takeBack 4 = .ok (.aload_n 0, 1) := by decide +kernel
theorem dX5_takeBack_5 : decode cX5_takeBack 5 = .ok (.getfield 10, 3) := by decide +kernel
theorem dX5_takeBack_8 : decode cX5_takeBack 8 = .ok (.invokevirtual 40, 3) := by decide +kernel
theorem dX5_takeBack_11 : decode cX5_takeBack 11 = .ok (.aload_n 0, 1) := by decide +kernel
theorem dX5_takeBack_12 : decode cX5_takeBack 12 = .ok (.aload_n 0, 1) := by decide +kernel
theorem dX5_takeBack_13 : decode cX5_takeBack 13 = .ok (.getfield 10, 3) := by decide +kernel
theorem dX5_takeBack_16 : decode cX5_takeBack 16 = .ok (.iload_n 1, 1) := by decide +kernel
theorem dX5_takeBack_17 : decode cX5_takeBack 17 = .ok (.invokevirtual 52, 3) := by decide +kernel
theorem dX5_takeBack_20 : decode cX5_takeBack 20 = .ok (.invokevirtual 48, 3) := by decide +kernel
theorem dX5_takeBack_23 : decode cX5_takeBack 23 = .ok (.ireturn, 1) := by decide +kernel
theorem dX5_hear_0 : decode cX5_hear 0 = .ok (.aload_n 0, 1) := by decide +kernel
theorem dX5_hear_1 : decode cX5_hear 1 = .ok (.getfield 30, 3) := by decide +kernel
theorem dX5_hear_4 : decode cX5_hear 4 = .ok (.aload_n 0, 1) := by decide +kernel
theorem dX5_hear_5 : decode cX5_hear 5 = .ok (.getfield 10, 3) := by decide +kernel
theorem dX5_hear_8 : decode cX5_hear 8 = .ok (.invokevirtual 40, 3) := by decide +kernel
theorem dX5_hear_11 : decode cX5_hear 11 = .ok (.aload_n 0, 1) := by decide +kernel
theorem dX5_hear_12 : decode cX5_hear 12 = .ok (.aload_n 0, 1) := by decide +kernel
theorem dX5_hear_13 : decode cX5_hear 13 = .ok (.getfield 10, 3) := by decide +kernel
theorem dX5_hear_16 : decode cX5_hear 16 = .ok (.iload_n 1, 1) := by decide +kernel
theorem dX5_hear_17 : decode cX5_hear 17 = .ok (.iload_n 2, 1) := by decide +kernel
theorem dX5_hear_18 : decode cX5_hear 18 = .ok (.invokevirtual 55, 3) := by decide +kernel
theorem dX5_hear_21 : decode cX5_hear 21 = .ok (.invokevirtual 48, 3) := by decide +kernel
theorem dX5_hear_24 : decode cX5_hear 24 = .ok (.ireturn, 1) := by decide +kernel
theorem dX5_hold_0 : decode cX5_hold 0 = .ok (.aload_n 0, 1) := by decide +kernel
theorem dX5_hold_1 : decode cX5_hold 1 = .ok (.getfield 30, 3) := by decide +kernel
theorem dX5_hold_4 : decode cX5_hold 4 = .ok (.aload_n 0, 1) := by decide +kernel
theorem dX5_hold_5 : decode cX5_hold 5 = .ok (.getfield 10, 3) := by decide +kernel
theorem dX5_hold_8 : decode cX5_hold 8 = .ok (.invokevirtual 40, 3) := by decide +kernel
theorem dX5_hold_11 : decode cX5_hold 11 = .ok (.aload_n 0, 1) := by decide +kernel
theorem dX5_hold_12 : decode cX5_hold 12 = .ok (.aload_n 0, 1) := by decide +kernel
theorem dX5_hold_13 : decode cX5_hold 13 = .ok (.getfield 10, 3) := by decide +kernel
theorem dX5_hold_16 : decode cX5_hold 16 = .ok (.iload_n 1, 1) := by decide +kernel
theorem dX5_hold_17 : decode cX5_hold 17 = .ok (.iload_n 2, 1) := by decide +kernel
theorem dX5_hold_18 : decode cX5_hold 18 = .ok (.invokevirtual 59, 3) := by decide +kernel
theorem dX5_hold_21 : decode cX5_hold 21 = .ok (.invokevirtual 48, 3) := by decide +kernel
theorem dX5_hold_24 : decode cX5_hold 24 = .ok (.ireturn, 1) := by decide +kernel
theorem dX5_stick_0 : decode cX5_stick 0 = .ok (.aload_n 0, 1) := by decide +kernel
theorem dX5_stick_1 : decode cX5_stick 1 = .ok (.getfield 30, 3) := by decide +kernel
theorem dX5_stick_4 : decode cX5_stick 4 = .ok (.aload_n 0, 1) := by decide +kernel
theorem dX5_stick_5 : decode cX5_stick 5 = .ok (.getfield 10, 3) := by decide +kernel
theorem dX5_stick_8 : decode cX5_stick 8 = .ok (.invokevirtual 40, 3) := by decide +kernel
theorem dX5_stick_11 : decode cX5_stick 11 = .ok (.aload_n 0, 1) := by decide +kernel
theorem dX5_stick_12 : decode cX5_stick 12 = .ok (.aload_n 0, 1) := by decide +kernel
theorem dX5_stick_13 : decode cX5_stick 13 = .ok (.getfield 10, 3) := by decide +kernel
theorem dX5_stick_16 : decode cX5_stick 16 = .ok (.iload_n 1, 1) := by decide +kernel
theorem dX5_stick_17 : decode cX5_stick 17 = .ok (.iload_n 2, 1) := by decide +kernel
theorem dX5_stick_18 : decode cX5_stick 18 = .ok (.invokevirtual 62, 3) := by decide +kernel
theorem dX5_stick_21 : decode cX5_stick 21 = .ok (.invokevirtual 48, 3) := by decide +kernel
theorem dX5_stick_24 : decode cX5_stick 24 = .ok (.ireturn, 1) := by decide +kernel
theorem dX5_set_0 : decode cX5_set 0 = .ok (.aload_n 0, 1) := by decide +kernel
theorem dX5_set_1 : decode cX5_set 1 = .ok (.getfield 30, 3) := by decide +kernel
theorem dX5_set_4 : decode cX5_set 4 = .ok (.aload_n 0, 1) := by decide +kernel
theorem dX5_set_5 : decode cX5_set 5 = .ok (.getfield 10, 3) := by decide +kernel
theorem dX5_set_8 : decode cX5_set 8 = .ok (.invokevirtual 40, 3) := by decide +kernel
theorem dX5_set_11 : decode cX5_set 11 = .ok (.aload_n 0, 1) := by decide +kernel
theorem dX5_set_12 : decode cX5_set 12 = .ok (.aload_n 0, 1) := by decide +kernel
theorem dX5_set_13 : decode cX5_set 13 = .ok (.getfield 10, 3) := by decide +kernel
theorem dX5_set_16 : decode cX5_set 16 = .ok (.iload_n 1, 1) := by decide +kernel
theorem dX5_set_17 : decode cX5_set 17 = .ok (.iload_n 2, 1) := by decide +kernel
theorem dX5_set_18 : decode cX5_set 18 = .ok (.invokevirtual 65, 3) := by decide +kernel
theorem dX5_set_21 : decode cX5_set 21 = .ok (.invokevirtual 48, 3) := by decide +kernel
theorem dX5_set_24 : decode cX5_set 24 = .ok (.ireturn, 1) := by decide +kernel
theorem dX5_run_0 : decode cX5_run 0 = .ok (.aload_n 0, 1) := by decide +kernel
theorem dX5_run_1 : decode cX5_run 1 = .ok (.getfield 30, 3) := by decide +kernel
theorem dX5_run_4 : decode cX5_run 4 = .ok (.aload_n 0, 1) := by decide +kernel
theorem dX5_run_5 : decode cX5_run 5 = .ok (.getfield 10, 3) := by decide +kernel
theorem dX5_run_8 : decode cX5_run 8 = .ok (.invokevirtual 40, 3) := by decide +kernel
theorem dX5_run_11 : decode cX5_run 11 = .ok (.aload_n 0, 1) := by decide +kernel
theorem dX5_run_12 : decode cX5_run 12 = .ok (.aload_n 0, 1) := by decide +kernel
theorem dX5_run_13 : decode cX5_run 13 = .ok (.getfield 10, 3) := by decide +kernel
theorem dX5_run_16 : decode cX5_run 16 = .ok (.iload_n 1, 1) := by decide +kernel
theorem dX5_run_17 : decode cX5_run 17 = .ok (.invokevirtual 68, 3) := by decide +kernel
theorem dX5_run_20 : decode cX5_run 20 = .ok (.invokevirtual 48, 3) := by decide +kernel
theorem dX5_run_23 : decode cX5_run 23 = .ok (.ireturn, 1) := by decide +kernel
theorem dX5_type_0 : decode cX5_type 0 = .ok (.aload_n 0, 1) := by decide +kernel
theorem dX5_type_1 : decode cX5_type 1 = .ok (.getfield 26, 3) := by decide +kernel
theorem dX5_type_4 : decode cX5_type 4 = .ok (.iload_n 1, 1) := by decide +kernel
theorem dX5_type_5 : decode cX5_type 5 = .ok (.invokevirtual 71, 3) := by decide +kernel
theorem dX5_type_8 : decode cX5_type 8 = .ok (.ireturn, 1) := by decide +kernel
theorem dX5_clearText_0 : decode cX5_clearText 0 = .ok (.aload_n 0, 1) := by decide +kernel
theorem dX5_clearText_1 : decode cX5_clearText 1 = .ok (.getfield 26, 3) := by decide +kernel
theorem dX5_clearText_4 : decode cX5_clearText 4 = .ok (.invokevirtual 75, 3) := by decide +kernel
theorem dX5_clearText_7 : decode cX5_clearText 7 = .ok (.ireturn, 1) := by decide +kernel
theorem dX5_perform_0 : decode cX5_perform 0 = .ok (.aload_n 0, 1) := by decide +kernel
theorem dX5_perform_1 : decode cX5_perform 1 = .ok (.getfield 26, 3) := by decide +kernel
theorem dX5_perform_4 : decode cX5_perform 4 = .ok (.invokevirtual 79, 3) := by decide +kernel
theorem dX5_perform_7 : decode cX5_perform 7 = .ok (.istore_n 1, 1) := by decide +kernel
theorem dX5_perform_8 : decode cX5_perform 8 = .ok (.iload_n 1, 1) := by decide +kernel
theorem dX5_perform_9 : decode cX5_perform 9 = .ok (.ifCond .ge 5, 3) := by decide +kernel
theorem dX5_perform_12 : decode cX5_perform 12 = .ok (.iload_n 1, 1) := by decide +kernel
theorem dX5_perform_13 : decode cX5_perform 13 = .ok (.ireturn, 1) := by decide +kernel
theorem dX5_perform_14 : decode cX5_perform 14 = .ok (.aload_n 0, 1) := by decide +kernel
theorem dX5_perform_15 : decode cX5_perform 15 = .ok (.getfield 30, 3) := by decide +kernel
theorem dX5_perform_18 : decode cX5_perform 18 = .ok (.aload_n 0, 1) := by decide +kernel
theorem dX5_perform_19 : decode cX5_perform 19 = .ok (.getfield 10, 3) := by decide +kernel
theorem dX5_perform_22 : decode cX5_perform 22 = .ok (.invokevirtual 40, 3) := by decide +kernel
theorem dX5_perform_25 : decode cX5_perform 25 = .ok (.aload_n 0, 1) := by decide +kernel
theorem dX5_perform_26 : decode cX5_perform 26 = .ok (.getfield 26, 3) := by decide +kernel
theorem dX5_perform_29 : decode cX5_perform 29 = .ok (.invokevirtual 82, 3) := by decide +kernel
theorem dX5_perform_32 : decode cX5_perform 32 = .ok (.iconst 0, 1) := by decide +kernel
theorem dX5_perform_33 : decode cX5_perform 33 = .ok (.istore_n 2, 1) := by decide +kernel
theorem dX5_perform_34 : decode cX5_perform 34 = .ok (.iload_n 2, 1) := by decide +kernel
theorem dX5_perform_35 : decode cX5_perform 35 = .ok (.iload_n 1, 1) := by decide +kernel
theorem dX5_perform_36 : decode cX5_perform 36 = .ok (.if_icmp .ge 64, 3) := by decide +kernel
theorem dX5_perform_39 : decode cX5_perform 39 = .ok (.aload_n 0, 1) := by decide +kernel
theorem dX5_perform_40 : decode cX5_perform 40 = .ok (.getfield 26, 3) := by decide +kernel
theorem dX5_perform_43 : decode cX5_perform 43 = .ok (.invokevirtual 85, 3) := by decide +kernel
theorem dX5_perform_46 : decode cX5_perform 46 = .ok (.pop, 1) := by decide +kernel
theorem dX5_perform_47 : decode cX5_perform 47 = .ok (.aload_n 0, 1) := by decide +kernel
theorem dX5_perform_48 : decode cX5_perform 48 = .ok (.getfield 26, 3) := by decide +kernel
theorem dX5_perform_51 : decode cX5_perform 51 = .ok (.invokevirtual 89, 3) := by decide +kernel
theorem dX5_perform_54 : decode cX5_perform 54 = .ok (.pop, 1) := by decide +kernel
theorem dX5_perform_55 : decode cX5_perform 55 = .ok (.aload_n 0, 1) := by decide +kernel
theorem dX5_perform_56 : decode cX5_perform 56 = .ok (.invokevirtual 92, 3) := by decide +kernel
theorem dX5_perform_59 : decode cX5_perform 59 = .ok (.istore_n 3, 1) := by decide +kernel
theorem dX5_perform_60 : decode cX5_perform 60 = .ok (.iload_n 3, 1) := by decide +kernel
theorem dX5_perform_61 : decode cX5_perform 61 = .ok (.ifCond .ge 33, 3) := by decide +kernel
theorem dX5_perform_64 : decode cX5_perform 64 = .ok (.iload_n 3, 1) := by decide +kernel
theorem dX5_perform_65 : decode cX5_perform 65 = .ok (.bipush (-5), 2) := by decide +kernel
theorem dX5_perform_67 : decode cX5_perform 67 = .ok (.if_icmp .eq 27, 3) := by decide +kernel
theorem dX5_perform_70 : decode cX5_perform 70 = .ok (.aload_n 0, 1) := by decide +kernel
theorem dX5_perform_71 : decode cX5_perform 71 = .ok (.iload_n 2, 1) := by decide +kernel
theorem dX5_perform_72 : decode cX5_perform 72 = .ok (.putfield 33, 3) := by decide +kernel
theorem dX5_perform_75 : decode cX5_perform 75 = .ok (.aload_n 0, 1) := by decide +kernel
theorem dX5_perform_76 : decode cX5_perform 76 = .ok (.iload_n 3, 1) := by decide +kernel
theorem dX5_perform_77 : decode cX5_perform 77 = .ok (.putfield 37, 3) := by decide +kernel
theorem dX5_perform_80 : decode cX5_perform 80 = .ok (.aload_n 0, 1) := by decide +kernel
theorem dX5_perform_81 : decode cX5_perform 81 = .ok (.getfield 10, 3) := by decide +kernel
theorem dX5_perform_84 : decode cX5_perform 84 = .ok (.aload_n 0, 1) := by decide +kernel
theorem dX5_perform_85 : decode cX5_perform 85 = .ok (.getfield 30, 3) := by decide +kernel
theorem dX5_perform_88 : decode cX5_perform 88 = .ok (.invokevirtual 40, 3) := by decide +kernel
theorem dX5_perform_91 : decode cX5_perform 91 = .ok (.bipush (-4), 2) := by decide +kernel
theorem dX5_perform_93 : decode cX5_perform 93 = .ok (.ireturn, 1) := by decide +kernel
theorem dX5_perform_94 : decode cX5_perform 94 = .ok (.iinc 2 1, 3) := by decide +kernel
theorem dX5_perform_97 : decode cX5_perform 97 = .ok (.goto (-63), 3) := by decide +kernel
theorem dX5_perform_100 : decode cX5_perform 100 = .ok (.aload_n 0, 1) := by decide +kernel
theorem dX5_perform_101 : decode cX5_perform 101 = .ok (.iload_n 1, 1) := by decide +kernel
theorem dX5_perform_102 : decode cX5_perform 102 = .ok (.invokevirtual 48, 3) := by decide +kernel
theorem dX5_perform_105 : decode cX5_perform 105 = .ok (.ireturn, 1) := by decide +kernel
theorem dX5_stopped_0 : decode cX5_stopped 0 = .ok (.iload_n 1, 1) := by decide +kernel
theorem dX5_stopped_1 : decode cX5_stopped 1 = .ok (.lookupswitch 37 #[(0, 27), (1, 32)], 27) := by decide +kernel
theorem dX5_stopped_28 : decode cX5_stopped 28 = .ok (.aload_n 0, 1) := by decide +kernel
theorem dX5_stopped_29 : decode cX5_stopped 29 = .ok (.getfield 33, 3) := by decide +kernel
theorem dX5_stopped_32 : decode cX5_stopped 32 = .ok (.ireturn, 1) := by decide +kernel
theorem dX5_stopped_33 : decode cX5_stopped 33 = .ok (.aload_n 0, 1) := by decide +kernel
theorem dX5_stopped_34 : decode cX5_stopped 34 = .ok (.getfield 37, 3) := by decide +kernel
theorem dX5_stopped_37 : decode cX5_stopped 37 = .ok (.ireturn, 1) := by decide +kernel
theorem dX5_stopped_38 : decode cX5_stopped 38 = .ok (.bipush (-2), 2) := by decide +kernel
theorem dX5_stopped_40 : decode cX5_stopped 40 = .ok (.ireturn, 1) := by decide +kernel
theorem dX5_undo_0 : decode cX5_undo 0 = .ok (.aload_n 0, 1) := by decide +kernel
theorem dX5_undo_1 : decode cX5_undo 1 = .ok (.getfield 95, 3) := by decide +kernel
theorem dX5_undo_4 : decode cX5_undo 4 = .ok (.iconst 1, 1) := by decide +kernel
theorem dX5_undo_5 : decode cX5_undo 5 = .ok (.if_icmp .lt 15, 3) := by decide +kernel
theorem dX5_undo_8 : decode cX5_undo 8 = .ok (.aload_n 0, 1) := by decide +kernel
theorem dX5_undo_9 : decode cX5_undo 9 = .ok (.getfield 95, 3) := by decide +kernel
theorem dX5_undo_12 : decode cX5_undo 12 = .ok (.aload_n 0, 1) := by decide +kernel
theorem dX5_undo_13 : decode cX5_undo 13 = .ok (.getfield 19, 3) := by decide +kernel
theorem dX5_undo_16 : decode cX5_undo 16 = .ok (.arraylength, 1) := by decide +kernel
theorem dX5_undo_17 : decode cX5_undo 17 = .ok (.if_icmp .le 6, 3) := by decide +kernel
theorem dX5_undo_20 : decode cX5_undo 20 = .ok (.bipush (-5), 2) := by decide +kernel
theorem dX5_undo_22 : decode cX5_undo 22 = .ok (.ireturn, 1) := by decide +kernel
theorem dX5_undo_23 : decode cX5_undo 23 = .ok (.aload_n 0, 1) := by decide +kernel
theorem dX5_undo_24 : decode cX5_undo 24 = .ok (.dup, 1) := by decide +kernel
theorem dX5_undo_25 : decode cX5_undo 25 = .ok (.getfield 95, 3) := by decide +kernel
theorem dX5_undo_28 : decode cX5_undo 28 = .ok (.iconst 1, 1) := by decide +kernel
theorem dX5_undo_29 : decode cX5_undo 29 = .ok (.isub, 1) := by decide +kernel
theorem dX5_undo_30 : decode cX5_undo 30 = .ok (.putfield 95, 3) := by decide +kernel
theorem dX5_undo_33 : decode cX5_undo 33 = .ok (.aload_n 0, 1) := by decide +kernel
theorem dX5_undo_34 : decode cX5_undo 34 = .ok (.getfield 10, 3) := by decide +kernel
theorem dX5_undo_37 : decode cX5_undo 37 = .ok (.aload_n 0, 1) := by decide +kernel
theorem dX5_undo_38 : decode cX5_undo 38 = .ok (.getfield 19, 3) := by decide +kernel
theorem dX5_undo_41 : decode cX5_undo 41 = .ok (.aload_n 0, 1) := by decide +kernel
theorem dX5_undo_42 : decode cX5_undo 42 = .ok (.getfield 95, 3) := by decide +kernel
theorem dX5_undo_45 : decode cX5_undo 45 = .ok (.aaload, 1) := by decide +kernel
theorem dX5_undo_46 : decode cX5_undo 46 = .ok (.invokevirtual 40, 3) := by decide +kernel
theorem dX5_undo_49 : decode cX5_undo 49 = .ok (.aload_n 0, 1) := by decide +kernel
theorem dX5_undo_50 : decode cX5_undo 50 = .ok (.getfield 95, 3) := by decide +kernel
theorem dX5_undo_53 : decode cX5_undo 53 = .ok (.ireturn, 1) := by decide +kernel
theorem dX5_keep_0 : decode cX5_keep 0 = .ok (.aload_n 0, 1) := by decide +kernel
theorem dX5_keep_1 : decode cX5_keep 1 = .ok (.getfield 16, 3) := by decide +kernel
theorem dX5_keep_4 : decode cX5_keep 4 = .ok (.aload_n 0, 1) := by decide +kernel
theorem dX5_keep_5 : decode cX5_keep 5 = .ok (.getfield 10, 3) := by decide +kernel
theorem dX5_keep_8 : decode cX5_keep 8 = .ok (.invokevirtual 40, 3) := by decide +kernel
theorem dX5_keep_11 : decode cX5_keep 11 = .ok (.aload_n 0, 1) := by decide +kernel
theorem dX5_keep_12 : decode cX5_keep 12 = .ok (.iconst 1, 1) := by decide +kernel
theorem dX5_keep_13 : decode cX5_keep 13 = .ok (.putfield 98, 3) := by decide +kernel
theorem dX5_keep_16 : decode cX5_keep 16 = .ok (.aload_n 0, 1) := by decide +kernel
theorem dX5_keep_17 : decode cX5_keep 17 = .ok (.getfield 10, 3) := by decide +kernel
theorem dX5_keep_20 : decode cX5_keep 20 = .ok (.getfield 102, 3) := by decide +kernel
theorem dX5_keep_23 : decode cX5_keep 23 = .ok (.ireturn, 1) := by decide +kernel
theorem dX5_restore_0 : decode cX5_restore 0 = .ok (.aload_n 0, 1) := by decide +kernel
theorem dX5_restore_1 : decode cX5_restore 1 = .ok (.getfield 98, 3) := by decide +kernel
theorem dX5_restore_4 : decode cX5_restore 4 = .ok (.ifCond .ne 6, 3) := by decide +kernel
theorem dX5_restore_7 : decode cX5_restore 7 = .ok (.bipush (-5), 2) := by decide +kernel
theorem dX5_restore_9 : decode cX5_restore 9 = .ok (.ireturn, 1) := by decide +kernel
theorem dX5_restore_10 : decode cX5_restore 10 = .ok (.aload_n 0, 1) := by decide +kernel
theorem dX5_restore_11 : decode cX5_restore 11 = .ok (.getfield 30, 3) := by decide +kernel
theorem dX5_restore_14 : decode cX5_restore 14 = .ok (.aload_n 0, 1) := by decide +kernel
theorem dX5_restore_15 : decode cX5_restore 15 = .ok (.getfield 10, 3) := by decide +kernel
theorem dX5_restore_18 : decode cX5_restore 18 = .ok (.invokevirtual 40, 3) := by decide +kernel
theorem dX5_restore_21 : decode cX5_restore 21 = .ok (.aload_n 0, 1) := by decide +kernel
theorem dX5_restore_22 : decode cX5_restore 22 = .ok (.getfield 10, 3) := by decide +kernel
theorem dX5_restore_25 : decode cX5_restore 25 = .ok (.aload_n 0, 1) := by decide +kernel
theorem dX5_restore_26 : decode cX5_restore 26 = .ok (.getfield 16, 3) := by decide +kernel
theorem dX5_restore_29 : decode cX5_restore 29 = .ok (.invokevirtual 40, 3) := by decide +kernel
theorem dX5_restore_32 : decode cX5_restore 32 = .ok (.aload_n 0, 1) := by decide +kernel
theorem dX5_restore_33 : decode cX5_restore 33 = .ok (.aload_n 0, 1) := by decide +kernel
theorem dX5_restore_34 : decode cX5_restore 34 = .ok (.getfield 10, 3) := by decide +kernel
theorem dX5_restore_37 : decode cX5_restore 37 = .ok (.getfield 102, 3) := by decide +kernel
theorem dX5_restore_40 : decode cX5_restore 40 = .ok (.invokevirtual 48, 3) := by decide +kernel
theorem dX5_restore_43 : decode cX5_restore 43 = .ok (.ireturn, 1) := by decide +kernel
theorem dX5_speaker_0 : decode cX5_speaker 0 = .ok (.aload_n 0, 1) := by decide +kernel
theorem dX5_speaker_1 : decode cX5_speaker 1 = .ok (.getfield 10, 3) := by decide +kernel
theorem dX5_speaker_4 : decode cX5_speaker 4 = .ok (.iload_n 1, 1) := by decide +kernel
theorem dX5_speaker_5 : decode cX5_speaker 5 = .ok (.invokevirtual 105, 3) := by decide +kernel
theorem dX5_speaker_8 : decode cX5_speaker 8 = .ok (.astore_n 3, 1) := by decide +kernel
theorem dX5_speaker_9 : decode cX5_speaker 9 = .ok (.aload_n 3, 1) := by decide +kernel
theorem dX5_speaker_10 : decode cX5_speaker 10 = .ok (.ifnonnull 5, 3) := by decide +kernel
theorem dX5_speaker_13 : decode cX5_speaker 13 = .ok (.iconst (-1), 1) := by decide +kernel
theorem dX5_speaker_14 : decode cX5_speaker 14 = .ok (.ireturn, 1) := by decide +kernel
theorem dX5_speaker_15 : decode cX5_speaker 15 = .ok (.iload_n 2, 1) := by decide +kernel
theorem dX5_speaker_16 : decode cX5_speaker 16 = .ok (.tableswitch 87 0 6 #[44, 49, 62, 67, 72, 77, 82], 44) := by decide +kernel
theorem dX5_speaker_60 : decode cX5_speaker 60 = .ok (.aload_n 3, 1) := by decide +kernel
theorem dX5_speaker_61 : decode cX5_speaker 61 = .ok (.getfield 109, 3) := by decide +kernel
theorem dX5_speaker_64 : decode cX5_speaker 64 = .ok (.ireturn, 1) := by decide +kernel
theorem dX5_speaker_65 : decode cX5_speaker 65 = .ok (.aload_n 3, 1) := by decide +kernel
theorem dX5_speaker_66 : decode cX5_speaker 66 = .ok (.getfield 114, 3) := by decide +kernel
theorem dX5_speaker_69 : decode cX5_speaker 69 = .ok (.ifCond .eq 7, 3) := by decide +kernel
theorem dX5_speaker_72 : decode cX5_speaker 72 = .ok (.iconst 1, 1) := by decide +kernel
theorem dX5_speaker_73 : decode cX5_speaker 73 = .ok (.goto 4, 3) := by decide +kernel
theorem dX5_speaker_76 : decode cX5_speaker 76 = .ok (.iconst 0, 1) := by decide +kernel
theorem dX5_speaker_77 : decode cX5_speaker 77 = .ok (.ireturn, 1) := by decide +kernel
theorem dX5_speaker_78 : decode cX5_speaker 78 = .ok (.aload_n 3, 1) := by decide +kernel
theorem dX5_speaker_79 : decode cX5_speaker 79 = .ok (.getfield 117, 3) := by decide +kernel
theorem dX5_speaker_82 : decode cX5_speaker 82 = .ok (.ireturn, 1) := by decide +kernel
theorem dX5_speaker_83 : decode cX5_speaker 83 = .ok (.aload_n 3, 1) := by decide +kernel
theorem dX5_speaker_84 : decode cX5_speaker 84 = .ok (.getfield 120, 3) := by decide +kernel
theorem dX5_speaker_87 : decode cX5_speaker 87 = .ok (.ireturn, 1) := by decide +kernel
theorem dX5_speaker_88 : decode cX5_speaker 88 = .ok (.aload_n 3, 1) := by decide +kernel
theorem dX5_speaker_89 : decode cX5_speaker 89 = .ok (.getfield 123, 3) := by decide +kernel
theorem dX5_speaker_92 : decode cX5_speaker 92 = .ok (.ireturn, 1) := by decide +kernel
theorem dX5_speaker_93 : decode cX5_speaker 93 = .ok (.aload_n 3, 1) := by decide +kernel
theorem dX5_speaker_94 : decode cX5_speaker 94 = .ok (.getfield 126, 3) := by decide +kernel
theorem dX5_speaker_97 : decode cX5_speaker 97 = .ok (.ireturn, 1) := by decide +kernel
theorem dX5_speaker_98 : decode cX5_speaker 98 = .ok (.aload_n 3, 1) := by decide +kernel
theorem dX5_speaker_99 : decode cX5_speaker 99 = .ok (.getfield 129, 3) := by decide +kernel
theorem dX5_speaker_102 : decode cX5_speaker 102 = .ok (.ireturn, 1) := by decide +kernel
theorem dX5_speaker_103 : decode cX5_speaker 103 = .ok (.bipush (-2), 2) := by decide +kernel
theorem dX5_speaker_105 : decode cX5_speaker 105 = .ok (.ireturn, 1) := by decide +kernel
theorem dX5_message_0 : decode cX5_message 0 = .ok (.aload_n 0, 1) := by decide +kernel
theorem dX5_message_1 : decode cX5_message 1 = .ok (.getfield 10, 3) := by decide +kernel
theorem dX5_message_4 : decode cX5_message 4 = .ok (.iload_n 1, 1) := by decide +kernel
theorem dX5_message_5 : decode cX5_message 5 = .ok (.invokevirtual 105, 3) := by decide +kernel
theorem dX5_message_8 : decode cX5_message 8 = .ok (.astore 4, 2) := by decide +kernel
theorem dX5_message_10 : decode cX5_message 10 = .ok (.aload 4, 2) := by decide +kernel
theorem dX5_message_12 : decode cX5_message 12 = .ok (.ifnull 15, 3) := by decide +kernel
theorem dX5_message_15 : decode cX5_message 15 = .ok (.iload_n 2, 1) := by decide +kernel
theorem dX5_message_16 : decode cX5_message 16 = .ok (.aload 4, 2) := by decide +kernel
theorem dX5_message_18 : decode cX5_message 18 = .ok (.getfield 109, 3) := by decide +kernel
theorem dX5_message_21 : decode cX5_message 21 = .ok (.invokestatic 132, 3) := by decide +kernel
theorem dX5_message_24 : decode cX5_message 24 = .ok (.ifCond .ne 5, 3) := by decide +kernel
theorem dX5_message_27 : decode cX5_message 27 = .ok (.iconst (-1), 1) := by decide +kernel
theorem dX5_message_28 : decode cX5_message 28 = .ok (.ireturn, 1) := by decide +kernel
theorem dX5_message_29 : decode cX5_message 29 = .ok (.iload_n 3, 1) := by decide +kernel
theorem dX5_message_30 : decode cX5_message 30 = .ok (.tableswitch 97 0 4 #[34, 44, 52, 60, 70], 34) := by decide +kernel
theorem dX5_message_64 : decode cX5_message 64 = .ok (.aload 4, 2) := by decide +kernel
theorem dX5_message_66 : decode cX5_message 66 = .ok (.iload_n 2, 1) := by decide +kernel
theorem dX5_message_67 : decode cX5_message 67 = .ok (.iconst 0, 1) := by decide +kernel
theorem dX5_message_68 : decode cX5_message 68 = .ok (.invokevirtual 136, 3) := by decide +kernel
theorem dX5_message_71 : decode cX5_message 71 = .ok (.iconst 1, 1) := by decide +kernel
theorem dX5_message_72 : decode cX5_message 72 = .ok (.ishr, 1) := by decide +kernel
theorem dX5_message_73 : decode cX5_message 73 = .ok (.ireturn, 1) := by decide +kernel
theorem dX5_message_74 : decode cX5_message 74 = .ok (.aload 4, 2) := by decide +kernel
theorem dX5_message_76 : decode cX5_message 76 = .ok (.iload_n 2, 1) := by decide +kernel
theorem dX5_message_77 : decode cX5_message 77 = .ok (.iconst 1, 1) := by decide +kernel
theorem dX5_message_78 : decode cX5_message 78 = .ok (.invokevirtual 136, 3) := by decide +kernel
theorem dX5_message_81 : decode cX5_message 81 = .ok (.ireturn, 1) := by decide +kernel
theorem dX5_message_82 : decode cX5_message 82 = .ok (.aload 4, 2) := by decide +kernel
theorem dX5_message_84 : decode cX5_message 84 = .ok (.iload_n 2, 1) := by decide +kernel
theorem dX5_message_85 : decode cX5_message 85 = .ok (.iconst 2, 1) := by decide +kernel
theorem dX5_message_86 : decode cX5_message 86 = .ok (.invokevirtual 136, 3) := by decide +kernel
theorem dX5_message_89 : decode cX5_message 89 = .ok (.ireturn, 1) := by decide +kernel
theorem dX5_message_90 : decode cX5_message 90 = .ok (.aload 4, 2) := by decide +kernel
theorem dX5_message_92 : decode cX5_message 92 = .ok (.iload_n 2, 1) := by decide +kernel
theorem dX5_message_93 : decode cX5_message 93 = .ok (.invokevirtual 139, 3) := by decide +kernel
theorem dX5_message_96 : decode cX5_message 96 = .ok (.bipush 9, 2) := by decide +kernel
theorem dX5_message_98 : decode cX5_message 98 = .ok (.imul, 1) := by decide +kernel
theorem dX5_message_99 : decode cX5_message 99 = .ok (.ireturn, 1) := by decide +kernel
theorem dX5_message_100 : decode cX5_message 100 = .ok (.aload 4, 2) := by decide +kernel
theorem dX5_message_102 : decode cX5_message 102 = .ok (.iload_n 2, 1) := by decide +kernel
theorem dX5_message_103 : decode cX5_message 103 = .ok (.invokevirtual 139, 3) := by decide +kernel
theorem dX5_message_106 : decode cX5_message 106 = .ok (.bipush 9, 2) := by decide +kernel
theorem dX5_message_108 : decode cX5_message 108 = .ok (.aload_n 0, 1) := by decide +kernel
theorem dX5_message_109 : decode cX5_message 109 = .ok (.getfield 10, 3) := by decide +kernel
theorem dX5_message_112 : decode cX5_message 112 = .ok (.aload 4, 2) := by decide +kernel
theorem dX5_message_114 : decode cX5_message 114 = .ok (.iload_n 2, 1) := by decide +kernel
theorem dX5_message_115 : decode cX5_message 115 = .ok (.iconst 0, 1) := by decide +kernel
theorem dX5_message_116 : decode cX5_message 116 = .ok (.invokevirtual 136, 3) := by decide +kernel
theorem dX5_message_119 : decode cX5_message 119 = .ok (.iconst 1, 1) := by decide +kernel
theorem dX5_message_120 : decode cX5_message 120 = .ok (.ishr, 1) := by decide +kernel
theorem dX5_message_121 : decode cX5_message 121 = .ok (.invokevirtual 142, 3) := by decide +kernel
theorem dX5_message_124 : decode cX5_message 124 = .ok (.iadd, 1) := by decide +kernel
theorem dX5_message_125 : decode cX5_message 125 = .ok (.imul, 1) := by decide +kernel
theorem dX5_message_126 : decode cX5_message 126 = .ok (.ireturn, 1) := by decide +kernel
theorem dX5_message_127 : decode cX5_message 127 = .ok (.bipush (-2), 2) := by decide +kernel
theorem dX5_message_129 : decode cX5_message 129 = .ok (.ireturn, 1) := by decide +kernel
theorem dX5_listener_0 : decode cX5_listener 0 = .ok (.aload_n 0, 1) := by decide +kernel
theorem dX5_listener_1 : decode cX5_listener 1 = .ok (.getfield 10, 3) := by decide +kernel
theorem dX5_listener_4 : decode cX5_listener 4 = .ok (.iload_n 1, 1) := by decide +kernel
theorem dX5_listener_5 : decode cX5_listener 5 = .ok (.invokevirtual 145, 3) := by decide +kernel
theorem dX5_listener_8 : decode cX5_listener 8 = .ok (.astore_n 3, 1) := by decide +kernel
theorem dX5_listener_9 : decode cX5_listener 9 = .ok (.aload_n 3, 1) := by decide +kernel
theorem dX5_listener_10 : decode cX5_listener 10 = .ok (.ifnonnull 5, 3) := by decide +kernel
theorem dX5_listener_13 : decode cX5_listener 13 = .ok (.iconst (-1), 1) := by decide +kernel
theorem dX5_listener_14 : decode cX5_listener 14 = .ok (.ireturn, 1) := by decide +kernel
theorem dX5_listener_15 : decode cX5_listener 15 = .ok (.iload_n 2, 1) := by decide +kernel
theorem dX5_listener_16 : decode cX5_listener 16 = .ok (.tableswitch 61 0 4 #[36, 41, 46, 51, 56], 36) := by decide +kernel
theorem dX5_listener_52 : decode cX5_listener 52 = .ok (.aload_n 3, 1) := by decide +kernel
theorem dX5_listener_53 : decode cX5_listener 53 = .ok (.getfield 149, 3) := by decide +kernel
theorem dX5_listener_56 : decode cX5_listener 56 = .ok (.ireturn, 1) := by decide +kernel
theorem dX5_listener_57 : decode cX5_listener 57 = .ok (.aload_n 3, 1) := by decide +kernel
theorem dX5_listener_58 : decode cX5_listener 58 = .ok (.getfield 154, 3) := by decide +kernel
theorem dX5_listener_61 : decode cX5_listener 61 = .ok (.ireturn, 1) := by decide +kernel
theorem dX5_listener_62 : decode cX5_listener 62 = .ok (.aload_n 3, 1) := by decide +kernel
theorem dX5_listener_63 : decode cX5_listener 63 = .ok (.getfield 157, 3) := by decide +kernel
theorem dX5_listener_66 : decode cX5_listener 66 = .ok (.ireturn, 1) := by decide +kernel
theorem dX5_listener_67 : decode cX5_listener 67 = .ok (.aload_n 3, 1) := by decide +kernel
theorem dX5_listener_68 : decode cX5_listener 68 = .ok (.getfield 160, 3) := by decide +kernel
theorem dX5_listener_71 : decode cX5_listener 71 = .ok (.ireturn, 1) := by decide +kernel
theorem dX5_listener_72 : decode cX5_listener 72 = .ok (.aload_n 3, 1) := by decide +kernel
theorem dX5_listener_73 : decode cX5_listener 73 = .ok (.getfield 163, 3) := by decide +kernel
theorem dX5_listener_76 : decode cX5_listener 76 = .ok (.ireturn, 1) := by decide +kernel
theorem dX5_listener_77 : decode cX5_listener 77 = .ok (.bipush (-2), 2) := by decide +kernel
theorem dX5_listener_79 : decode cX5_listener 79 = .ok (.ireturn, 1) := by decide +kernel
theorem dX5_bit_0 : decode cX5_bit 0 = .ok (.aload_n 0, 1) := by decide +kernel
theorem dX5_bit_1 : decode cX5_bit 1 = .ok (.getfield 10, 3) := by decide +kernel
theorem dX5_bit_4 : decode cX5_bit 4 = .ok (.getfield 166, 3) := by decide +kernel
theorem dX5_bit_7 : decode cX5_bit 7 = .ok (.iload_n 1, 1) := by decide +kernel
theorem dX5_bit_8 : decode cX5_bit 8 = .ok (.iload_n 2, 1) := by decide +kernel
theorem dX5_bit_9 : decode cX5_bit 9 = .ok (.invokevirtual 170, 3) := by decide +kernel
theorem dX5_bit_12 : decode cX5_bit 12 = .ok (.ireturn, 1) := by decide +kernel
theorem dX5_winners_0 : decode cX5_winners 0 = .ok (.aload_n 0, 1) := by decide +kernel
theorem dX5_winners_1 : decode cX5_winners 1 = .ok (.getfield 10, 3) := by decide +kernel
theorem dX5_winners_4 : decode cX5_winners 4 = .ok (.invokevirtual 175, 3) := by decide +kernel
theorem dX5_winners_7 : decode cX5_winners 7 = .ok (.istore_n 1, 1) := by decide +kernel
theorem dX5_winners_8 : decode cX5_winners 8 = .ok (.iconst 0, 1) := by decide +kernel
theorem dX5_winners_9 : decode cX5_winners 9 = .ok (.istore_n 2, 1) := by decide +kernel
theorem dX5_winners_10 : decode cX5_winners 10 = .ok (.iconst 0, 1) := by decide +kernel
theorem dX5_winners_11 : decode cX5_winners 11 = .ok (.istore_n 3, 1) := by decide +kernel
theorem dX5_winners_12 : decode cX5_winners 12 = .ok (.iload_n 3, 1) := by decide +kernel
theorem dX5_winners_13 : decode cX5_winners 13 = .ok (.bipush 27, 2) := by decide +kernel
theorem dX5_winners_15 : decode cX5_winners 15 = .ok (.if_icmp .ge 66, 3) := by decide +kernel
theorem dX5_winners_18 : decode cX5_winners 18 = .ok (.iload_n 3, 1) := by decide +kernel
theorem dX5_winners_19 : decode cX5_winners 19 = .ok (.invokestatic 178, 3) := by decide +kernel
theorem dX5_winners_22 : decode cX5_winners 22 = .ok (.ifCond .eq 29, 3) := by decide +kernel
theorem dX5_winners_25 : decode cX5_winners 25 = .ok (.aload_n 0, 1) := by decide +kernel
theorem dX5_winners_26 : decode cX5_winners 26 = .ok (.getfield 10, 3) := by decide +kernel
theorem dX5_winners_29 : decode cX5_winners 29 = .ok (.iload_n 1, 1) := by decide +kernel
theorem dX5_winners_30 : decode cX5_winners 30 = .ok (.iload_n 3, 1) := by decide +kernel
theorem dX5_winners_31 : decode cX5_winners 31 = .ok (.invokevirtual 182, 3) := by decide +kernel
theorem dX5_winners_34 : decode cX5_winners 34 = .ok (.istore 4, 2) := by decide +kernel
theorem dX5_winners_36 : decode cX5_winners 36 = .ok (.iload_n 2, 1) := by decide +kernel
theorem dX5_winners_37 : decode cX5_winners 37 = .ok (.iload 4, 2) := by decide +kernel
theorem dX5_winners_39 : decode cX5_winners 39 = .ok (.ior, 1) := by decide +kernel
theorem dX5_winners_40 : decode cX5_winners 40 = .ok (.istore_n 2, 1) := by decide +kernel
theorem dX5_winners_41 : decode cX5_winners 41 = .ok (.iload_n 1, 1) := by decide +kernel
theorem dX5_winners_42 : decode cX5_winners 42 = .ok (.iload 4, 2) := by decide +kernel
theorem dX5_winners_44 : decode cX5_winners 44 = .ok (.iconst (-1), 1) := by decide +kernel
theorem dX5_winners_45 : decode cX5_winners 45 = .ok (.ixor, 1) := by decide +kernel
theorem dX5_winners_46 : decode cX5_winners 46 = .ok (.iand, 1) := by decide +kernel
theorem dX5_winners_47 : decode cX5_winners 47 = .ok (.istore_n 1, 1) := by decide +kernel
theorem dX5_winners_48 : decode cX5_winners 48 = .ok (.goto 27, 3) := by decide +kernel
theorem dX5_winners_51 : decode cX5_winners 51 = .ok (.aload_n 0, 1) := by decide +kernel
theorem dX5_winners_52 : decode cX5_winners 52 = .ok (.getfield 10, 3) := by decide +kernel
theorem dX5_winners_55 : decode cX5_winners 55 = .ok (.iload_n 1, 1) := by decide +kernel
theorem dX5_winners_56 : decode cX5_winners 56 = .ok (.iload_n 3, 1) := by decide +kernel
theorem dX5_winners_57 : decode cX5_winners 57 = .ok (.iconst 0, 1) := by decide +kernel
theorem dX5_winners_58 : decode cX5_winners 58 = .ok (.invokevirtual 185, 3) := by decide +kernel
theorem dX5_winners_61 : decode cX5_winners 61 = .ok (.istore 4, 2) := by decide +kernel
theorem dX5_winners_63 : decode cX5_winners 63 = .ok (.iload 4, 2) := by decide +kernel
theorem dX5_winners_65 : decode cX5_winners 65 = .ok (.ifCond .ne 7, 3) := by decide +kernel
theorem dX5_winners_68 : decode cX5_winners 68 = .ok (.iload_n 1, 1) := by decide +kernel
theorem dX5_winners_69 : decode cX5_winners 69 = .ok (.goto 5, 3) := by decide +kernel
theorem dX5_winners_72 : decode cX5_winners 72 = .ok (.iload 4, 2) := by decide +kernel
theorem dX5_winners_74 : decode cX5_winners 74 = .ok (.istore_n 1, 1) := by decide +kernel
theorem dX5_winners_75 : decode cX5_winners 75 = .ok (.iinc 3 1, 3) := by decide +kernel
theorem dX5_winners_78 : decode cX5_winners 78 = .ok (.goto (-66), 3) := by decide +kernel
theorem dX5_winners_81 : decode cX5_winners 81 = .ok (.iload_n 2, 1) := by decide +kernel
theorem dX5_winners_82 : decode cX5_winners 82 = .ok (.ireturn, 1) := by decide +kernel
theorem dX5_emptyIn_0 : decode cX5_emptyIn 0 = .ok (.aload_n 0, 1) := by decide +kernel
theorem dX5_emptyIn_1 : decode cX5_emptyIn 1 = .ok (.getfield 30, 3) := by decide +kernel
theorem dX5_emptyIn_4 : decode cX5_emptyIn 4 = .ok (.aload_n 0, 1) := by decide +kernel
theorem dX5_emptyIn_5 : decode cX5_emptyIn 5 = .ok (.getfield 10, 3) := by decide +kernel
theorem dX5_emptyIn_8 : decode cX5_emptyIn 8 = .ok (.invokevirtual 40, 3) := by decide +kernel
theorem dX5_emptyIn_11 : decode cX5_emptyIn 11 = .ok (.iconst 0, 1) := by decide +kernel
theorem dX5_emptyIn_12 : decode cX5_emptyIn 12 = .ok (.istore_n 1, 1) := by decide +kernel
theorem dX5_emptyIn_13 : decode cX5_emptyIn 13 = .ok (.iload_n 1, 1) := by decide +kernel
theorem dX5_emptyIn_14 : decode cX5_emptyIn 14 = .ok (.sipush 1000, 3) := by decide +kernel
theorem dX5_emptyIn_17 : decode cX5_emptyIn 17 = .ok (.if_icmp .gt 28, 3) := by decide +kernel
theorem dX5_emptyIn_20 : decode cX5_emptyIn 20 = .ok (.aload_n 0, 1) := by decide +kernel
theorem dX5_emptyIn_21 : decode cX5_emptyIn 21 = .ok (.getfield 30, 3) := by decide +kernel
theorem dX5_emptyIn_24 : decode cX5_emptyIn 24 = .ok (.invokevirtual 189, 3) := by decide +kernel
theorem dX5_emptyIn_27 : decode cX5_emptyIn 27 = .ok (.ifCond .ne 5, 3) := by decide +kernel
theorem dX5_emptyIn_30 : decode cX5_emptyIn 30 = .ok (.iload_n 1, 1) := by decide +kernel
theorem dX5_emptyIn_31 : decode cX5_emptyIn 31 = .ok (.ireturn, 1) := by decide +kernel
theorem dX5_emptyIn_32 : decode cX5_emptyIn 32 = .ok (.aload_n 0, 1) := by decide +kernel
theorem dX5_emptyIn_33 : decode cX5_emptyIn 33 = .ok (.getfield 30, 3) := by decide +kernel
theorem dX5_emptyIn_36 : decode cX5_emptyIn 36 = .ok (.invokevirtual 192, 3) := by decide +kernel
theorem dX5_emptyIn_39 : decode cX5_emptyIn 39 = .ok (.iinc 1 1, 3) := by decide +kernel
theorem dX5_emptyIn_42 : decode cX5_emptyIn 42 = .ok (.goto (-29), 3) := by decide +kernel
theorem dX5_emptyIn_45 : decode cX5_emptyIn 45 = .ok (.bipush (-5), 2) := by decide +kernel
theorem dX5_emptyIn_47 : decode cX5_emptyIn 47 = .ok (.ireturn, 1) := by decide +kernel
theorem dX5_ifRun_0 : decode cX5_ifRun 0 = .ok (.iload_n 1, 1) := by decide +kernel
theorem dX5_ifRun_1 : decode cX5_ifRun 1 = .ok (.iconst 4, 1) := by decide +kernel
theorem dX5_ifRun_2 : decode cX5_ifRun 2 = .ok (.invokestatic 132, 3) := by decide +kernel
theorem dX5_ifRun_5 : decode cX5_ifRun 5 = .ok (.ifCond .ne 5, 3) := by decide +kernel
theorem dX5_ifRun_8 : decode cX5_ifRun 8 = .ok (.iconst (-1), 1) := by decide +kernel
theorem dX5_ifRun_9 : decode cX5_ifRun 9 = .ok (.ireturn, 1) := by decide +kernel
theorem dX5_ifRun_10 : decode cX5_ifRun 10 = .ok (.iload_n 2, 1) := by decide +kernel
theorem dX5_ifRun_11 : decode cX5_ifRun 11 = .ok (.iconst 1, 1) := by decide +kernel
theorem dX5_ifRun_12 : decode cX5_ifRun 12 = .ok (.if_icmp .lt 10, 3) := by decide +kernel
theorem dX5_ifRun_15 : decode cX5_ifRun 15 = .ok (.iload_n 2, 1) := by decide +kernel
theorem dX5_ifRun_16 : decode cX5_ifRun 16 = .ok (.sipush 300, 3) := by decide +kernel
theorem dX5_ifRun_19 : decode cX5_ifRun 19 = .ok (.if_icmp .le 6, 3) := by decide +kernel
theorem dX5_ifRun_22 : decode cX5_ifRun 22 = .ok (.bipush (-2), 2) := by decide +kernel
theorem dX5_ifRun_24 : decode cX5_ifRun 24 = .ok (.ireturn, 1) := by decide +kernel
theorem dX5_ifRun_25 : decode cX5_ifRun 25 = .ok (.aload_n 0, 1) := by decide +kernel
theorem dX5_ifRun_26 : decode cX5_ifRun 26 = .ok (.getfield 30, 3) := by decide +kernel
theorem dX5_ifRun_29 : decode cX5_ifRun 29 = .ok (.aload_n 0, 1) := by decide +kernel
theorem dX5_ifRun_30 : decode cX5_ifRun 30 = .ok (.getfield 10, 3) := by decide +kernel
theorem dX5_ifRun_33 : decode cX5_ifRun 33 = .ok (.invokevirtual 40, 3) := by decide +kernel
theorem dX5_ifRun_36 : decode cX5_ifRun 36 = .ok (.aload_n 0, 1) := by decide +kernel
theorem dX5_ifRun_37 : decode cX5_ifRun 37 = .ok (.getfield 30, 3) := by decide +kernel
theorem dX5_ifRun_40 : decode cX5_ifRun 40 = .ok (.iload_n 1, 1) := by decide +kernel
theorem dX5_ifRun_41 : decode cX5_ifRun 41 = .ok (.invokevirtual 195, 3) := by decide +kernel
theorem dX5_ifRun_44 : decode cX5_ifRun 44 = .ok (.istore_n 3, 1) := by decide +kernel
theorem dX5_ifRun_45 : decode cX5_ifRun 45 = .ok (.iconst 0, 1) := by decide +kernel
theorem dX5_ifRun_46 : decode cX5_ifRun 46 = .ok (.istore 4, 2) := by decide +kernel
theorem dX5_ifRun_48 : decode cX5_ifRun 48 = .ok (.iload 4, 2) := by decide +kernel
theorem dX5_ifRun_50 : decode cX5_ifRun 50 = .ok (.iload_n 2, 1) := by decide +kernel
theorem dX5_ifRun_51 : decode cX5_ifRun 51 = .ok (.if_icmp .ge 16, 3) := by decide +kernel
theorem dX5_ifRun_54 : decode cX5_ifRun 54 = .ok (.aload_n 0, 1) := by decide +kernel
theorem dX5_ifRun_55 : decode cX5_ifRun 55 = .ok (.getfield 30, 3) := by decide +kernel
theorem dX5_ifRun_58 : decode cX5_ifRun 58 = .ok (.invokevirtual 192, 3) := by decide +kernel
theorem dX5_ifRun_61 : decode cX5_ifRun 61 = .ok (.iinc 4 1, 3) := by decide +kernel
theorem dX5_ifRun_64 : decode cX5_ifRun 64 = .ok (.goto (-16), 3) := by decide +kernel
theorem dX5_ifRun_67 : decode cX5_ifRun 67 = .ok (.aload_n 0, 1) := by decide +kernel
theorem dX5_ifRun_68 : decode cX5_ifRun 68 = .ok (.getfield 30, 3) := by decide +kernel
theorem dX5_ifRun_71 : decode cX5_ifRun 71 = .ok (.iload_n 1, 1) := by decide +kernel
theorem dX5_ifRun_72 : decode cX5_ifRun 72 = .ok (.invokevirtual 195, 3) := by decide +kernel
theorem dX5_ifRun_75 : decode cX5_ifRun 75 = .ok (.iload_n 3, 1) := by decide +kernel
theorem dX5_ifRun_76 : decode cX5_ifRun 76 = .ok (.isub, 1) := by decide +kernel
theorem dX5_ifRun_77 : decode cX5_ifRun 77 = .ok (.ireturn, 1) := by decide +kernel
theorem dX5_count_0 : decode cX5_count 0 = .ok (.iload_n 1, 1) := by decide +kernel
theorem dX5_count_1 : decode cX5_count 1 = .ok (.tableswitch 210 0 15 #[79, 87, 98, 106, 114, 122, 130, 138, 146, 154, 162, 170, 179, 188, 197, 202], 79) := by decide +kernel
theorem dX5_count_80 : decode cX5_count 80 = .ok (.aload_n 0, 1) := by decide +kernel
theorem dX5_count_81 : decode cX5_count 81 = .ok (.getfield 10, 3) := by decide +kernel
theorem dX5_count_84 : decode cX5_count 84 = .ok (.getfield 102, 3) := by decide +kernel
theorem dX5_count_87 : decode cX5_count 87 = .ok (.ireturn, 1) := by decide +kernel
theorem dX5_count_88 : decode cX5_count 88 = .ok (.aload_n 0, 1) := by decide +kernel
theorem dX5_count_89 : decode cX5_count 89 = .ok (.getfield 10, 3) := by decide +kernel
theorem dX5_count_92 : decode cX5_count 92 = .ok (.invokevirtual 198, 3) := by decide +kernel
theorem dX5_count_95 : decode cX5_count 95 = .ok (.invokestatic 201, 3) := by decide +kernel
theorem dX5_count_98 : decode cX5_count 98 = .ok (.ireturn, 1) := by decide +kernel
theorem dX5_count_99 : decode cX5_count 99 = .ok (.aload_n 0, 1) := by decide +kernel
theorem dX5_count_100 : decode cX5_count 100 = .ok (.getfield 10, 3) := by decide +kernel
theorem dX5_count_103 : decode cX5_count 103 = .ok (.invokevirtual 206, 3) := by decide +kernel
theorem dX5_count_106 : decode cX5_count 106 = .ok (.ireturn, 1) := by decide +kernel
theorem dX5_count_107 : decode cX5_count 107 = .ok (.aload_n 0, 1) := by decide +kernel
theorem dX5_count_108 : decode cX5_count 108 = .ok (.getfield 10, 3) := by decide +kernel
theorem dX5_count_111 : decode cX5_count 111 = .ok (.getfield 209, 3) := by decide +kernel
theorem dX5_count_114 : decode cX5_count 114 = .ok (.ireturn, 1) := by decide +kernel
theorem dX5_count_115 : decode cX5_count 115 = .ok (.aload_n 0, 1) := by decide +kernel
theorem dX5_count_116 : decode cX5_count 116 = .ok (.getfield 10, 3) := by decide +kernel
theorem dX5_count_119 : decode cX5_count 119 = .ok (.getfield 212, 3) := by decide +kernel
theorem dX5_count_122 : decode cX5_count 122 = .ok (.ireturn, 1) := by decide +kernel
theorem dX5_count_123 : decode cX5_count 123 = .ok (.aload_n 0, 1) := by decide +kernel
theorem dX5_count_124 : decode cX5_count 124 = .ok (.getfield 10, 3) := by decide +kernel
theorem dX5_count_127 : decode cX5_count 127 = .ok (.getfield 215, 3) := by decide +kernel
theorem dX5_count_130 : decode cX5_count 130 = .ok (.ireturn, 1) := by decide +kernel
theorem dX5_count_131 : decode cX5_count 131 = .ok (.aload_n 0, 1) := by decide +kernel
theorem dX5_count_132 : decode cX5_count 132 = .ok (.getfield 10, 3) := by decide +kernel
theorem dX5_count_135 : decode cX5_count 135 = .ok (.getfield 218, 3) := by decide +kernel
theorem dX5_count_138 : decode cX5_count 138 = .ok (.ireturn, 1) := by decide +kernel
theorem dX5_count_139 : decode cX5_count 139 = .ok (.aload_n 0, 1) := by decide +kernel
theorem dX5_count_140 : decode cX5_count 140 = .ok (.getfield 10, 3) := by decide +kernel
theorem dX5_count_143 : decode cX5_count 143 = .ok (.invokevirtual 189, 3) := by decide +kernel
theorem dX5_count_146 : decode cX5_count 146 = .ok (.ireturn, 1) := by decide +kernel
theorem dX5_count_147 : decode cX5_count 147 = .ok (.aload_n 0, 1) := by decide +kernel
theorem dX5_count_148 : decode cX5_count 148 = .ok (.getfield 10, 3) := by decide +kernel
theorem dX5_count_151 : decode cX5_count 151 = .ok (.invokevirtual 221, 3) := by decide +kernel
theorem dX5_count_154 : decode cX5_count 154 = .ok (.ireturn, 1) := by decide +kernel
theorem dX5_count_155 : decode cX5_count 155 = .ok (.aload_n 0, 1) := by decide +kernel
theorem dX5_count_156 : decode cX5_count 156 = .ok (.getfield 10, 3) := by decide +kernel
theorem dX5_count_159 : decode cX5_count 159 = .ok (.getfield 224, 3) := by decide +kernel
theorem dX5_count_162 : decode cX5_count 162 = .ok (.ireturn, 1) := by decide +kernel
theorem dX5_count_163 : decode cX5_count 163 = .ok (.aload_n 0, 1) := by decide +kernel
theorem dX5_count_164 : decode cX5_count 164 = .ok (.getfield 10, 3) := by decide +kernel
theorem dX5_count_167 : decode cX5_count 167 = .ok (.getfield 227, 3) := by decide +kernel
theorem dX5_count_170 : decode cX5_count 170 = .ok (.ireturn, 1) := by decide +kernel
theorem dX5_count_171 : decode cX5_count 171 = .ok (.aload_n 0, 1) := by decide +kernel
theorem dX5_count_172 : decode cX5_count 172 = .ok (.getfield 10, 3) := by decide +kernel
theorem dX5_count_175 : decode cX5_count 175 = .ok (.iconst 0, 1) := by decide +kernel
theorem dX5_count_176 : decode cX5_count 176 = .ok (.invokevirtual 230, 3) := by decide +kernel
theorem dX5_count_179 : decode cX5_count 179 = .ok (.ireturn, 1) := by decide +kernel
theorem dX5_count_180 : decode cX5_count 180 = .ok (.aload_n 0, 1) := by decide +kernel
theorem dX5_count_181 : decode cX5_count 181 = .ok (.getfield 10, 3) := by decide +kernel
theorem dX5_count_184 : decode cX5_count 184 = .ok (.iconst 1, 1) := by decide +kernel
theorem dX5_count_185 : decode cX5_count 185 = .ok (.invokevirtual 230, 3) := by decide +kernel
theorem dX5_count_188 : decode cX5_count 188 = .ok (.ireturn, 1) := by decide +kernel
theorem dX5_count_189 : decode cX5_count 189 = .ok (.aload_n 0, 1) := by decide +kernel
theorem dX5_count_190 : decode cX5_count 190 = .ok (.getfield 10, 3) := by decide +kernel
theorem dX5_count_193 : decode cX5_count 193 = .ok (.iconst 2, 1) := by decide +kernel
theorem dX5_count_194 : decode cX5_count 194 = .ok (.invokevirtual 230, 3) := by decide +kernel
theorem dX5_count_197 : decode cX5_count 197 = .ok (.ireturn, 1) := by decide +kernel
theorem dX5_count_198 : decode cX5_count 198 = .ok (.aload_n 0, 1) := by decide +kernel
theorem dX5_count_199 : decode cX5_count 199 = .ok (.getfield 95, 3) := by decide +kernel
theorem dX5_count_202 : decode cX5_count 202 = .ok (.ireturn, 1) := by decide +kernel
theorem dX5_count_203 : decode cX5_count 203 = .ok (.aload_n 0, 1) := by decide +kernel
theorem dX5_count_204 : decode cX5_count 204 = .ok (.getfield 26, 3) := by decide +kernel
theorem dX5_count_207 : decode cX5_count 207 = .ok (.getfield 233, 3) := by decide +kernel
theorem dX5_count_210 : decode cX5_count 210 = .ok (.ireturn, 1) := by decide +kernel
theorem dX5_count_211 : decode cX5_count 211 = .ok (.bipush (-2), 2) := by decide +kernel
theorem dX5_count_213 : decode cX5_count 213 = .ok (.ireturn, 1) := by decide +kernel
theorem dX5_recorded_0 : decode cX5_recorded 0 = .ok (.iload_n 1, 1) := by decide +kernel
theorem dX5_recorded_1 : decode cX5_recorded 1 = .ok (.ifCond .ge 5, 3) := by decide +kernel
theorem dX5_recorded_4 : decode cX5_recorded 4 = .ok (.iload_n 1, 1) := by decide +kernel
theorem dX5_recorded_5 : decode cX5_recorded 5 = .ok (.ireturn, 1) := by decide +kernel
theorem dX5_recorded_6 : decode cX5_recorded 6 = .ok (.aload_n 0, 1) := by decide +kernel
theorem dX5_recorded_7 : decode cX5_recorded 7 = .ok (.getfield 30, 3) := by decide +kernel
theorem dX5_recorded_10 : decode cX5_recorded 10 = .ok (.astore_n 2, 1) := by decide +kernel
theorem dX5_recorded_11 : decode cX5_recorded 11 = .ok (.aload_n 0, 1) := by decide +kernel
theorem dX5_recorded_12 : decode cX5_recorded 12 = .ok (.getfield 95, 3) := by decide +kernel
theorem dX5_recorded_15 : decode cX5_recorded 15 = .ok (.aload_n 0, 1) := by decide +kernel
theorem dX5_recorded_16 : decode cX5_recorded 16 = .ok (.getfield 19, 3) := by decide +kernel
theorem dX5_recorded_19 : decode cX5_recorded 19 = .ok (.arraylength, 1) := by decide +kernel
theorem dX5_recorded_20 : decode cX5_recorded 20 = .ok (.invokestatic 132, 3) := by decide +kernel
theorem dX5_recorded_23 : decode cX5_recorded 23 = .ok (.ifCond .eq 39, 3) := by decide +kernel
theorem dX5_recorded_26 : decode cX5_recorded 26 = .ok (.aload_n 0, 1) := by decide +kernel
theorem dX5_recorded_27 : decode cX5_recorded 27 = .ok (.aload_n 0, 1) := by decide +kernel
theorem dX5_recorded_28 : decode cX5_recorded 28 = .ok (.getfield 19, 3) := by decide +kernel
theorem dX5_recorded_31 : decode cX5_recorded 31 = .ok (.aload_n 0, 1) := by decide +kernel
theorem dX5_recorded_32 : decode cX5_recorded 32 = .ok (.getfield 95, 3) := by decide +kernel
theorem dX5_recorded_35 : decode cX5_recorded 35 = .ok (.aaload, 1) := by decide +kernel
theorem dX5_recorded_36 : decode cX5_recorded 36 = .ok (.putfield 30, 3) := by decide +kernel
theorem dX5_recorded_39 : decode cX5_recorded 39 = .ok (.aload_n 0, 1) := by decide +kernel
theorem dX5_recorded_40 : decode cX5_recorded 40 = .ok (.getfield 19, 3) := by decide +kernel
theorem dX5_recorded_43 : decode cX5_recorded 43 = .ok (.aload_n 0, 1) := by decide +kernel
theorem dX5_recorded_44 : decode cX5_recorded 44 = .ok (.getfield 95, 3) := by decide +kernel
theorem dX5_recorded_47 : decode cX5_recorded 47 = .ok (.aload_n 2, 1) := by decide +kernel
theorem dX5_recorded_48 : decode cX5_recorded 48 = .ok (.aastore, 1) := by decide +kernel
theorem dX5_recorded_49 : decode cX5_recorded 49 = .ok (.aload_n 0, 1) := by decide +kernel
theorem dX5_recorded_50 : decode cX5_recorded 50 = .ok (.dup, 1) := by decide +kernel
