theorem d_ZoneNodesModel_drop_9 : decode b_ZoneNodesModel_drop 9 = .ok (.getfield 59, 3) := by decide +kernel
theorem d_ZoneNodesModel_drop_12 : decode b_ZoneNodesModel_drop 12 = .ok (.iload_n 1, 1) := by decide +kernel
theorem d_ZoneNodesModel_drop_13 : decode b_ZoneNodesModel_drop 13 = .ok (.iaload, 1) := by decide +kernel
theorem d_ZoneNodesModel_drop_14 : decode b_ZoneNodesModel_drop 14 = .ok (.iconst 4, 1) := by decide +kernel
theorem d_ZoneNodesModel_drop_15 : decode b_ZoneNodesModel_drop 15 = .ok (.if_icmp .lt 5, 3) := by decide +kernel
theorem d_ZoneNodesModel_drop_18 : decode b_ZoneNodesModel_drop 18 = .ok (.iconst 0, 1) := by decide +kernel
theorem d_ZoneNodesModel_drop_19 : decode b_ZoneNodesModel_drop 19 = .ok (.ireturn, 1) := by decide +kernel
theorem d_ZoneNodesModel_drop_20 : decode b_ZoneNodesModel_drop 20 = .ok (.aload_n 0, 1) := by decide +kernel
theorem d_ZoneNodesModel_drop_21 : decode b_ZoneNodesModel_drop 21 = .ok (.iload_n 1, 1) := by decide +kernel
theorem d_ZoneNodesModel_drop_22 : decode b_ZoneNodesModel_drop 22 = .ok (.invokevirtual 184, 3) := by decide +kernel
theorem d_ZoneNodesModel_drop_25 : decode b_ZoneNodesModel_drop 25 = .ok (.iconst 1, 1) := by decide +kernel
theorem d_ZoneNodesModel_drop_26 : decode b_ZoneNodesModel_drop 26 = .ok (.ireturn, 1) := by decide +kernel
theorem d_ZoneNodesModel_has_0 : decode b_ZoneNodesModel_has 0 = .ok (.iload_n 1, 1) := by decide +kernel
theorem d_ZoneNodesModel_has_1 : decode b_ZoneNodesModel_has 1 = .ok (.invokestatic 218, 3) := by decide +kernel
theorem d_ZoneNodesModel_has_4 : decode b_ZoneNodesModel_has 4 = .ok (.ifCond .eq 47, 3) := by decide +kernel
theorem d_ZoneNodesModel_has_7 : decode b_ZoneNodesModel_has 7 = .ok (.aload_n 0, 1) := by decide +kernel
theorem d_ZoneNodesModel_has_8 : decode b_ZoneNodesModel_has 8 = .ok (.getfield 13, 3) := by decide +kernel
theorem d_ZoneNodesModel_has_11 : decode b_ZoneNodesModel_has 11 = .ok (.iload_n 1, 1) := by decide +kernel
theorem d_ZoneNodesModel_has_12 : decode b_ZoneNodesModel_has 12 = .ok (.baload, 1) := by decide +kernel
theorem d_ZoneNodesModel_has_13 : decode b_ZoneNodesModel_has 13 = .ok (.ifCond .eq 38, 3) := by decide +kernel
theorem d_ZoneNodesModel_has_16 : decode b_ZoneNodesModel_has 16 = .ok (.iload_n 2, 1) := by decide +kernel
theorem d_ZoneNodesModel_has_17 : decode b_ZoneNodesModel_has 17 = .ok (.iload_n 3, 1) := by decide +kernel
theorem d_ZoneNodesModel_has_18 : decode b_ZoneNodesModel_has 18 = .ok (.iload 4, 2) := by decide +kernel
theorem d_ZoneNodesModel_has_20 : decode b_ZoneNodesModel_has 20 = .ok (.invokestatic 101, 3) := by decide +kernel
theorem d_ZoneNodesModel_has_23 : decode b_ZoneNodesModel_has 23 = .ok (.ifCond .eq 28, 3) := by decide +kernel
theorem d_ZoneNodesModel_has_26 : decode b_ZoneNodesModel_has 26 = .ok (.aload_n 0, 1) := by decide +kernel
theorem d_ZoneNodesModel_has_27 : decode b_ZoneNodesModel_has 27 = .ok (.getfield 20, 3) := by decide +kernel
theorem d_ZoneNodesModel_has_30 : decode b_ZoneNodesModel_has 30 = .ok (.sipush 256, 3) := by decide +kernel
theorem d_ZoneNodesModel_has_33 : decode b_ZoneNodesModel_has 33 = .ok (.iload_n 1, 1) := by decide +kernel
theorem d_ZoneNodesModel_has_34 : decode b_ZoneNodesModel_has 34 = .ok (.imul, 1) := by decide +kernel
theorem d_ZoneNodesModel_has_35 : decode b_ZoneNodesModel_has 35 = .ok (.iload_n 2, 1) := by decide +kernel
theorem d_ZoneNodesModel_has_36 : decode b_ZoneNodesModel_has 36 = .ok (.iload_n 3, 1) := by decide +kernel
theorem d_ZoneNodesModel_has_37 : decode b_ZoneNodesModel_has 37 = .ok (.iload 4, 2) := by decide +kernel
theorem d_ZoneNodesModel_has_39 : decode b_ZoneNodesModel_has 39 = .ok (.invokestatic 90, 3) := by decide +kernel
theorem d_ZoneNodesModel_has_42 : decode b_ZoneNodesModel_has 42 = .ok (.iadd, 1) := by decide +kernel
theorem d_ZoneNodesModel_has_43 : decode b_ZoneNodesModel_has 43 = .ok (.baload, 1) := by decide +kernel
theorem d_ZoneNodesModel_has_44 : decode b_ZoneNodesModel_has 44 = .ok (.ifCond .eq 7, 3) := by decide +kernel
theorem d_ZoneNodesModel_has_47 : decode b_ZoneNodesModel_has 47 = .ok (.iconst 1, 1) := by decide +kernel
theorem d_ZoneNodesModel_has_48 : decode b_ZoneNodesModel_has 48 = .ok (.goto 4, 3) := by decide +kernel
theorem d_ZoneNodesModel_has_51 : decode b_ZoneNodesModel_has 51 = .ok (.iconst 0, 1) := by decide +kernel
theorem d_ZoneNodesModel_has_52 : decode b_ZoneNodesModel_has 52 = .ok (.ireturn, 1) := by decide +kernel
theorem d_ZoneNodesModel_journal_0 : decode b_ZoneNodesModel_journal 0 = .ok (.aload_n 0, 1) := by decide +kernel
theorem d_ZoneNodesModel_journal_1 : decode b_ZoneNodesModel_journal 1 = .ok (.getfield 162, 3) := by decide +kernel
theorem d_ZoneNodesModel_journal_4 : decode b_ZoneNodesModel_journal 4 = .ok (.ireturn, 1) := by decide +kernel
theorem d_ZoneNodesModel_key_0 : decode b_ZoneNodesModel_key 0 = .ok (.iload_n 1, 1) := by decide +kernel
theorem d_ZoneNodesModel_key_1 : decode b_ZoneNodesModel_key 1 = .ok (.ifCond .lt 8, 3) := by decide +kernel
theorem d_ZoneNodesModel_key_4 : decode b_ZoneNodesModel_key 4 = .ok (.iload_n 1, 1) := by decide +kernel
theorem d_ZoneNodesModel_key_5 : decode b_ZoneNodesModel_key 5 = .ok (.iconst 2, 1) := by decide +kernel
theorem d_ZoneNodesModel_key_6 : decode b_ZoneNodesModel_key 6 = .ok (.if_icmp .le 5, 3) := by decide +kernel
theorem d_ZoneNodesModel_key_9 : decode b_ZoneNodesModel_key 9 = .ok (.iconst 0, 1) := by decide +kernel
theorem d_ZoneNodesModel_key_10 : decode b_ZoneNodesModel_key 10 = .ok (.ireturn, 1) := by decide +kernel
theorem d_ZoneNodesModel_key_11 : decode b_ZoneNodesModel_key 11 = .ok (.aload_n 0, 1) := by decide +kernel
theorem d_ZoneNodesModel_key_12 : decode b_ZoneNodesModel_key 12 = .ok (.getfield 35, 3) := by decide +kernel
theorem d_ZoneNodesModel_key_15 : decode b_ZoneNodesModel_key 15 = .ok (.iload_n 1, 1) := by decide +kernel
theorem d_ZoneNodesModel_key_16 : decode b_ZoneNodesModel_key 16 = .ok (.iconst 1, 1) := by decide +kernel
theorem d_ZoneNodesModel_key_17 : decode b_ZoneNodesModel_key 17 = .ok (.bastore, 1) := by decide +kernel
theorem d_ZoneNodesModel_key_18 : decode b_ZoneNodesModel_key 18 = .ok (.aload_n 0, 1) := by decide +kernel
theorem d_ZoneNodesModel_key_19 : decode b_ZoneNodesModel_key 19 = .ok (.getfield 38, 3) := by decide +kernel
theorem d_ZoneNodesModel_key_22 : decode b_ZoneNodesModel_key 22 = .ok (.iload_n 1, 1) := by decide +kernel
theorem d_ZoneNodesModel_key_23 : decode b_ZoneNodesModel_key 23 = .ok (.iload_n 2, 1) := by decide +kernel
theorem d_ZoneNodesModel_key_24 : decode b_ZoneNodesModel_key 24 = .ok (.iastore, 1) := by decide +kernel
theorem d_ZoneNodesModel_key_25 : decode b_ZoneNodesModel_key 25 = .ok (.iconst 1, 1) := by decide +kernel
theorem d_ZoneNodesModel_key_26 : decode b_ZoneNodesModel_key 26 = .ok (.ireturn, 1) := by decide +kernel
theorem d_ZoneNodesModel_message_0 : decode b_ZoneNodesModel_message 0 = .ok (.aload_n 0, 1) := by decide +kernel
theorem d_ZoneNodesModel_message_1 : decode b_ZoneNodesModel_message 1 = .ok (.iload_n 1, 1) := by decide +kernel
theorem d_ZoneNodesModel_message_2 : decode b_ZoneNodesModel_message 2 = .ok (.invokevirtual 187, 3) := by decide +kernel
theorem d_ZoneNodesModel_message_5 : decode b_ZoneNodesModel_message 5 = .ok (.ifCond .eq 43, 3) := by decide +kernel
theorem d_ZoneNodesModel_message_8 : decode b_ZoneNodesModel_message 8 = .ok (.ldc 221, 2) := by decide +kernel
theorem d_ZoneNodesModel_message_10 : decode b_ZoneNodesModel_message 10 = .ok (.aload_n 0, 1) := by decide +kernel
theorem d_ZoneNodesModel_message_11 : decode b_ZoneNodesModel_message 11 = .ok (.getfield 59, 3) := by decide +kernel
theorem d_ZoneNodesModel_message_14 : decode b_ZoneNodesModel_message 14 = .ok (.iload_n 1, 1) := by decide +kernel
theorem d_ZoneNodesModel_message_15 : decode b_ZoneNodesModel_message 15 = .ok (.iaload, 1) := by decide +kernel
theorem d_ZoneNodesModel_message_16 : decode b_ZoneNodesModel_message 16 = .ok (.imul, 1) := by decide +kernel
theorem d_ZoneNodesModel_message_17 : decode b_ZoneNodesModel_message 17 = .ok (.sipush 10000, 3) := by decide +kernel
theorem d_ZoneNodesModel_message_20 : decode b_ZoneNodesModel_message 20 = .ok (.aload_n 0, 1) := by decide +kernel
theorem d_ZoneNodesModel_message_21 : decode b_ZoneNodesModel_message 21 = .ok (.getfield 62, 3) := by decide +kernel
theorem d_ZoneNodesModel_message_24 : decode b_ZoneNodesModel_message 24 = .ok (.iload_n 1, 1) := by decide +kernel
theorem d_ZoneNodesModel_message_25 : decode b_ZoneNodesModel_message 25 = .ok (.iaload, 1) := by decide +kernel
theorem d_ZoneNodesModel_message_26 : decode b_ZoneNodesModel_message 26 = .ok (.imul, 1) := by decide +kernel
theorem d_ZoneNodesModel_message_27 : decode b_ZoneNodesModel_message 27 = .ok (.iadd, 1) := by decide +kernel
theorem d_ZoneNodesModel_message_28 : decode b_ZoneNodesModel_message 28 = .ok (.bipush 100, 2) := by decide +kernel
theorem d_ZoneNodesModel_message_30 : decode b_ZoneNodesModel_message 30 = .ok (.aload_n 0, 1) := by decide +kernel
theorem d_ZoneNodesModel_message_31 : decode b_ZoneNodesModel_message 31 = .ok (.getfield 68, 3) := by decide +kernel
theorem d_ZoneNodesModel_message_34 : decode b_ZoneNodesModel_message 34 = .ok (.iload_n 1, 1) := by decide +kernel
theorem d_ZoneNodesModel_message_35 : decode b_ZoneNodesModel_message 35 = .ok (.iaload, 1) := by decide +kernel
theorem d_ZoneNodesModel_message_36 : decode b_ZoneNodesModel_message 36 = .ok (.imul, 1) := by decide +kernel
theorem d_ZoneNodesModel_message_37 : decode b_ZoneNodesModel_message 37 = .ok (.iadd, 1) := by decide +kernel
theorem d_ZoneNodesModel_message_38 : decode b_ZoneNodesModel_message 38 = .ok (.aload_n 0, 1) := by decide +kernel
theorem d_ZoneNodesModel_message_39 : decode b_ZoneNodesModel_message 39 = .ok (.getfield 71, 3) := by decide +kernel
theorem d_ZoneNodesModel_message_42 : decode b_ZoneNodesModel_message 42 = .ok (.iload_n 1, 1) := by decide +kernel
theorem d_ZoneNodesModel_message_43 : decode b_ZoneNodesModel_message 43 = .ok (.iaload, 1) := by decide +kernel
theorem d_ZoneNodesModel_message_44 : decode b_ZoneNodesModel_message 44 = .ok (.iadd, 1) := by decide +kernel
theorem d_ZoneNodesModel_message_45 : decode b_ZoneNodesModel_message 45 = .ok (.goto 4, 3) := by decide +kernel
theorem d_ZoneNodesModel_message_48 : decode b_ZoneNodesModel_message 48 = .ok (.iconst (-1), 1) := by decide +kernel
theorem d_ZoneNodesModel_message_49 : decode b_ZoneNodesModel_message 49 = .ok (.ireturn, 1) := by decide +kernel
theorem d_ZoneNodesModel_messages_0 : decode b_ZoneNodesModel_messages 0 = .ok (.aload_n 0, 1) := by decide +kernel
theorem d_ZoneNodesModel_messages_1 : decode b_ZoneNodesModel_messages 1 = .ok (.getfield 177, 3) := by decide +kernel
theorem d_ZoneNodesModel_messages_4 : decode b_ZoneNodesModel_messages 4 = .ok (.ireturn, 1) := by decide +kernel
theorem d_ZoneNodesModel_need_0 : decode b_ZoneNodesModel_need 0 = .ok (.iload_n 1, 1) := by decide +kernel
theorem d_ZoneNodesModel_need_1 : decode b_ZoneNodesModel_need 1 = .ok (.ifCond .lt 26, 3) := by decide +kernel
theorem d_ZoneNodesModel_need_4 : decode b_ZoneNodesModel_need 4 = .ok (.iload_n 1, 1) := by decide +kernel
theorem d_ZoneNodesModel_need_5 : decode b_ZoneNodesModel_need 5 = .ok (.iconst 4, 1) := by decide +kernel
theorem d_ZoneNodesModel_need_6 : decode b_ZoneNodesModel_need 6 = .ok (.if_icmp .gt 21, 3) := by decide +kernel
theorem d_ZoneNodesModel_need_9 : decode b_ZoneNodesModel_need 9 = .ok (.iload_n 2, 1) := by decide +kernel
theorem d_ZoneNodesModel_need_10 : decode b_ZoneNodesModel_need 10 = .ok (.iload_n 3, 1) := by decide +kernel
theorem d_ZoneNodesModel_need_11 : decode b_ZoneNodesModel_need 11 = .ok (.iload 4, 2) := by decide +kernel
theorem d_ZoneNodesModel_need_13 : decode b_ZoneNodesModel_need 13 = .ok (.invokestatic 101, 3) := by decide +kernel
theorem d_ZoneNodesModel_need_16 : decode b_ZoneNodesModel_need 16 = .ok (.ifCond .eq 11, 3) := by decide +kernel
theorem d_ZoneNodesModel_need_19 : decode b_ZoneNodesModel_need 19 = .ok (.aload_n 0, 1) := by decide +kernel
theorem d_ZoneNodesModel_need_20 : decode b_ZoneNodesModel_need 20 = .ok (.getfield 105, 3) := by decide +kernel
theorem d_ZoneNodesModel_need_23 : decode b_ZoneNodesModel_need 23 = .ok (.iconst 4, 1) := by decide +kernel
theorem d_ZoneNodesModel_need_24 : decode b_ZoneNodesModel_need 24 = .ok (.if_icmp .lt 5, 3) := by decide +kernel
theorem d_ZoneNodesModel_need_27 : decode b_ZoneNodesModel_need 27 = .ok (.iconst 0, 1) := by decide +kernel
theorem d_ZoneNodesModel_need_28 : decode b_ZoneNodesModel_need 28 = .ok (.ireturn, 1) := by decide +kernel
theorem d_ZoneNodesModel_need_29 : decode b_ZoneNodesModel_need 29 = .ok (.aload_n 0, 1) := by decide +kernel
theorem d_ZoneNodesModel_need_30 : decode b_ZoneNodesModel_need 30 = .ok (.aload_n 0, 1) := by decide +kernel
theorem d_ZoneNodesModel_need_31 : decode b_ZoneNodesModel_need 31 = .ok (.getfield 105, 3) := by decide +kernel
theorem d_ZoneNodesModel_need_34 : decode b_ZoneNodesModel_need 34 = .ok (.iload_n 1, 1) := by decide +kernel
theorem d_ZoneNodesModel_need_35 : decode b_ZoneNodesModel_need 35 = .ok (.iload_n 2, 1) := by decide +kernel
theorem d_ZoneNodesModel_need_36 : decode b_ZoneNodesModel_need 36 = .ok (.iload_n 3, 1) := by decide +kernel
theorem d_ZoneNodesModel_need_37 : decode b_ZoneNodesModel_need 37 = .ok (.iload 4, 2) := by decide +kernel
theorem d_ZoneNodesModel_need_39 : decode b_ZoneNodesModel_need 39 = .ok (.invokevirtual 108, 3) := by decide +kernel
theorem d_ZoneNodesModel_need_42 : decode b_ZoneNodesModel_need 42 = .ok (.aload_n 0, 1) := by decide +kernel
theorem d_ZoneNodesModel_need_43 : decode b_ZoneNodesModel_need 43 = .ok (.dup, 1) := by decide +kernel
theorem d_ZoneNodesModel_need_44 : decode b_ZoneNodesModel_need 44 = .ok (.getfield 105, 3) := by decide +kernel
theorem d_ZoneNodesModel_need_47 : decode b_ZoneNodesModel_need 47 = .ok (.iconst 1, 1) := by decide +kernel
theorem d_ZoneNodesModel_need_48 : decode b_ZoneNodesModel_need 48 = .ok (.iadd, 1) := by decide +kernel
theorem d_ZoneNodesModel_need_49 : decode b_ZoneNodesModel_need 49 = .ok (.putfield 105, 3) := by decide +kernel
theorem d_ZoneNodesModel_need_52 : decode b_ZoneNodesModel_need 52 = .ok (.iconst 1, 1) := by decide +kernel
theorem d_ZoneNodesModel_need_53 : decode b_ZoneNodesModel_need 53 = .ok (.ireturn, 1) := by decide +kernel
theorem d_ZoneNodesModel_shown_0 : decode b_ZoneNodesModel_shown 0 = .ok (.iconst 0, 1) := by decide +kernel
theorem d_ZoneNodesModel_shown_1 : decode b_ZoneNodesModel_shown 1 = .ok (.istore 5, 2) := by decide +kernel
theorem d_ZoneNodesModel_shown_3 : decode b_ZoneNodesModel_shown 3 = .ok (.iconst 0, 1) := by decide +kernel
theorem d_ZoneNodesModel_shown_4 : decode b_ZoneNodesModel_shown 4 = .ok (.istore 6, 2) := by decide +kernel
theorem d_ZoneNodesModel_shown_6 : decode b_ZoneNodesModel_shown 6 = .ok (.iload 6, 2) := by decide +kernel
theorem d_ZoneNodesModel_shown_8 : decode b_ZoneNodesModel_shown 8 = .ok (.iload 4, 2) := by decide +kernel
theorem d_ZoneNodesModel_shown_10 : decode b_ZoneNodesModel_shown 10 = .ok (.if_icmp .ge 42, 3) := by decide +kernel
theorem d_ZoneNodesModel_shown_13 : decode b_ZoneNodesModel_shown 13 = .ok (.iload 5, 2) := by decide +kernel
theorem d_ZoneNodesModel_shown_15 : decode b_ZoneNodesModel_shown 15 = .ok (.aload_n 0, 1) := by decide +kernel
theorem d_ZoneNodesModel_shown_16 : decode b_ZoneNodesModel_shown 16 = .ok (.getfield 20, 3) := by decide +kernel
theorem d_ZoneNodesModel_shown_19 : decode b_ZoneNodesModel_shown 19 = .ok (.sipush 256, 3) := by decide +kernel
theorem d_ZoneNodesModel_shown_22 : decode b_ZoneNodesModel_shown 22 = .ok (.iload_n 1, 1) := by decide +kernel
theorem d_ZoneNodesModel_shown_23 : decode b_ZoneNodesModel_shown 23 = .ok (.imul, 1) := by decide +kernel
theorem d_ZoneNodesModel_shown_24 : decode b_ZoneNodesModel_shown 24 = .ok (.bipush 32, 2) := by decide +kernel
theorem d_ZoneNodesModel_shown_26 : decode b_ZoneNodesModel_shown 26 = .ok (.iload_n 2, 1) := by decide +kernel
theorem d_ZoneNodesModel_shown_27 : decode b_ZoneNodesModel_shown 27 = .ok (.imul, 1) := by decide +kernel
theorem d_ZoneNodesModel_shown_28 : decode b_ZoneNodesModel_shown 28 = .ok (.iadd, 1) := by decide +kernel
theorem d_ZoneNodesModel_shown_29 : decode b_ZoneNodesModel_shown 29 = .ok (.iload_n 3, 1) := by decide +kernel
theorem d_ZoneNodesModel_shown_30 : decode b_ZoneNodesModel_shown 30 = .ok (.iadd, 1) := by decide +kernel
theorem d_ZoneNodesModel_shown_31 : decode b_ZoneNodesModel_shown 31 = .ok (.iload 6, 2) := by decide +kernel
theorem d_ZoneNodesModel_shown_33 : decode b_ZoneNodesModel_shown 33 = .ok (.iadd, 1) := by decide +kernel
theorem d_ZoneNodesModel_shown_34 : decode b_ZoneNodesModel_shown 34 = .ok (.baload, 1) := by decide +kernel
theorem d_ZoneNodesModel_shown_35 : decode b_ZoneNodesModel_shown 35 = .ok (.ifCond .eq 7, 3) := by decide +kernel
theorem d_ZoneNodesModel_shown_38 : decode b_ZoneNodesModel_shown 38 = .ok (.iconst 1, 1) := by decide +kernel
theorem d_ZoneNodesModel_shown_39 : decode b_ZoneNodesModel_shown 39 = .ok (.goto 4, 3) := by decide +kernel
theorem d_ZoneNodesModel_shown_42 : decode b_ZoneNodesModel_shown 42 = .ok (.iconst 0, 1) := by decide +kernel
theorem d_ZoneNodesModel_shown_43 : decode b_ZoneNodesModel_shown 43 = .ok (.iadd, 1) := by decide +kernel
theorem d_ZoneNodesModel_shown_44 : decode b_ZoneNodesModel_shown 44 = .ok (.istore 5, 2) := by decide +kernel
theorem d_ZoneNodesModel_shown_46 : decode b_ZoneNodesModel_shown 46 = .ok (.iinc 6 1, 3) := by decide +kernel
theorem d_ZoneNodesModel_shown_49 : decode b_ZoneNodesModel_shown 49 = .ok (.goto (-43), 3) := by decide +kernel
theorem d_ZoneNodesModel_shown_52 : decode b_ZoneNodesModel_shown 52 = .ok (.iload 5, 2) := by decide +kernel
theorem d_ZoneNodesModel_shown_54 : decode b_ZoneNodesModel_shown 54 = .ok (.ireturn, 1) := by decide +kernel
theorem d_ZoneNodesModel_query_0 : decode b_ZoneNodesModel_query 0 = .ok (.iload_n 1, 1) := by decide +kernel
theorem d_ZoneNodesModel_query_1 : decode b_ZoneNodesModel_query 1 = .ok (.invokestatic 218, 3) := by decide +kernel
theorem d_ZoneNodesModel_query_4 : decode b_ZoneNodesModel_query 4 = .ok (.ifCond .eq 47, 3) := by decide +kernel
theorem d_ZoneNodesModel_query_7 : decode b_ZoneNodesModel_query 7 = .ok (.iload_n 2, 1) := by decide +kernel
theorem d_ZoneNodesModel_query_8 : decode b_ZoneNodesModel_query 8 = .ok (.iload_n 3, 1) := by decide +kernel
theorem d_ZoneNodesModel_query_9 : decode b_ZoneNodesModel_query 9 = .ok (.iconst 0, 1) := by decide +kernel
theorem d_ZoneNodesModel_query_10 : decode b_ZoneNodesModel_query 10 = .ok (.invokestatic 101, 3) := by decide +kernel
theorem d_ZoneNodesModel_query_13 : decode b_ZoneNodesModel_query 13 = .ok (.ifCond .eq 38, 3) := by decide +kernel
theorem d_ZoneNodesModel_query_16 : decode b_ZoneNodesModel_query 16 = .ok (.aload_n 0, 1) := by decide +kernel
theorem d_ZoneNodesModel_query_17 : decode b_ZoneNodesModel_query 17 = .ok (.getfield 7, 3) := by decide +kernel
theorem d_ZoneNodesModel_query_20 : decode b_ZoneNodesModel_query 20 = .ok (.iload_n 1, 1) := by decide +kernel
theorem d_ZoneNodesModel_query_21 : decode b_ZoneNodesModel_query 21 = .ok (.baload, 1) := by decide +kernel
theorem d_ZoneNodesModel_query_22 : decode b_ZoneNodesModel_query 22 = .ok (.ifCond .eq 29, 3) := by decide +kernel
theorem d_ZoneNodesModel_query_25 : decode b_ZoneNodesModel_query 25 = .ok (.aload_n 0, 1) := by decide +kernel
theorem d_ZoneNodesModel_query_26 : decode b_ZoneNodesModel_query 26 = .ok (.getfield 13, 3) := by decide +kernel
theorem d_ZoneNodesModel_query_29 : decode b_ZoneNodesModel_query 29 = .ok (.iload_n 1, 1) := by decide +kernel
theorem d_ZoneNodesModel_query_30 : decode b_ZoneNodesModel_query 30 = .ok (.baload, 1) := by decide +kernel
theorem d_ZoneNodesModel_query_31 : decode b_ZoneNodesModel_query 31 = .ok (.ifCond .eq 20, 3) := by decide +kernel
theorem d_ZoneNodesModel_query_34 : decode b_ZoneNodesModel_query 34 = .ok (.iload_n 1, 1) := by decide +kernel
theorem d_ZoneNodesModel_query_35 : decode b_ZoneNodesModel_query 35 = .ok (.ifCond .le 18, 3) := by decide +kernel
theorem d_ZoneNodesModel_query_38 : decode b_ZoneNodesModel_query 38 = .ok (.aload_n 0, 1) := by decide +kernel
theorem d_ZoneNodesModel_query_39 : decode b_ZoneNodesModel_query 39 = .ok (.getfield 98, 3) := by decide +kernel
theorem d_ZoneNodesModel_query_42 : decode b_ZoneNodesModel_query 42 = .ok (.aload_n 0, 1) := by decide +kernel
theorem d_ZoneNodesModel_query_43 : decode b_ZoneNodesModel_query 43 = .ok (.getfield 32, 3) := by decide +kernel
theorem d_ZoneNodesModel_query_46 : decode b_ZoneNodesModel_query 46 = .ok (.iload_n 1, 1) := by decide +kernel
theorem d_ZoneNodesModel_query_47 : decode b_ZoneNodesModel_query 47 = .ok (.iaload, 1) := by decide +kernel
theorem d_ZoneNodesModel_query_48 : decode b_ZoneNodesModel_query 48 = .ok (.if_icmp .lt 5, 3) := by decide +kernel
theorem d_ZoneNodesModel_query_51 : decode b_ZoneNodesModel_query 51 = .ok (.iconst (-1), 1) := by decide +kernel
theorem d_ZoneNodesModel_query_52 : decode b_ZoneNodesModel_query 52 = .ok (.ireturn, 1) := by decide +kernel
theorem d_ZoneNodesModel_query_53 : decode b_ZoneNodesModel_query 53 = .ok (.iload_n 2, 1) := by decide +kernel
theorem d_ZoneNodesModel_query_54 : decode b_ZoneNodesModel_query 54 = .ok (.istore 4, 2) := by decide +kernel
theorem d_ZoneNodesModel_query_56 : decode b_ZoneNodesModel_query 56 = .ok (.iconst 0, 1) := by decide +kernel
theorem d_ZoneNodesModel_query_57 : decode b_ZoneNodesModel_query 57 = .ok (.istore 5, 2) := by decide +kernel
theorem d_ZoneNodesModel_query_59 : decode b_ZoneNodesModel_query 59 = .ok (.iload 5, 2) := by decide +kernel
theorem d_ZoneNodesModel_query_61 : decode b_ZoneNodesModel_query 61 = .ok (.bipush 9, 2) := by decide +kernel
theorem d_ZoneNodesModel_query_63 : decode b_ZoneNodesModel_query 63 = .ok (.if_icmp .ge 108, 3) := by decide +kernel
theorem d_ZoneNodesModel_query_66 : decode b_ZoneNodesModel_query 66 = .ok (.iconst (-1), 1) := by decide +kernel
theorem d_ZoneNodesModel_query_67 : decode b_ZoneNodesModel_query 67 = .ok (.istore 6, 2) := by decide +kernel
theorem d_ZoneNodesModel_query_69 : decode b_ZoneNodesModel_query 69 = .ok (.iconst 0, 1) := by decide +kernel
theorem d_ZoneNodesModel_query_70 : decode b_ZoneNodesModel_query 70 = .ok (.istore 7, 2) := by decide +kernel
theorem d_ZoneNodesModel_query_72 : decode b_ZoneNodesModel_query 72 = .ok (.iload 7, 2) := by decide +kernel
theorem d_ZoneNodesModel_query_74 : decode b_ZoneNodesModel_query 74 = .ok (.bipush 8, 2) := by decide +kernel
theorem d_ZoneNodesModel_query_76 : decode b_ZoneNodesModel_query 76 = .ok (.if_icmp .ge 45, 3) := by decide +kernel
theorem d_ZoneNodesModel_query_79 : decode b_ZoneNodesModel_query 79 = .ok (.iload_n 3, 1) := by decide +kernel
theorem d_ZoneNodesModel_query_80 : decode b_ZoneNodesModel_query 80 = .ok (.iconst 2, 1) := by decide +kernel
theorem d_ZoneNodesModel_query_81 : decode b_ZoneNodesModel_query 81 = .ok (.if_icmp .eq 30, 3) := by decide +kernel
theorem d_ZoneNodesModel_query_84 : decode b_ZoneNodesModel_query 84 = .ok (.aload_n 0, 1) := by decide +kernel
theorem d_ZoneNodesModel_query_85 : decode b_ZoneNodesModel_query 85 = .ok (.getfield 20, 3) := by decide +kernel
theorem d_ZoneNodesModel_query_88 : decode b_ZoneNodesModel_query 88 = .ok (.sipush 256, 3) := by decide +kernel
theorem d_ZoneNodesModel_query_91 : decode b_ZoneNodesModel_query 91 = .ok (.iload_n 1, 1) := by decide +kernel
theorem d_ZoneNodesModel_query_92 : decode b_ZoneNodesModel_query 92 = .ok (.imul, 1) := by decide +kernel
theorem d_ZoneNodesModel_query_93 : decode b_ZoneNodesModel_query 93 = .ok (.iload 4, 2) := by decide +kernel
theorem d_ZoneNodesModel_query_95 : decode b_ZoneNodesModel_query 95 = .ok (.iconst 2, 1) := by decide +kernel
theorem d_ZoneNodesModel_query_96 : decode b_ZoneNodesModel_query 96 = .ok (.iload 7, 2) := by decide +kernel
theorem d_ZoneNodesModel_query_98 : decode b_ZoneNodesModel_query 98 = .ok (.invokestatic 90, 3) := by decide +kernel
theorem d_ZoneNodesModel_query_101 : decode b_ZoneNodesModel_query 101 = .ok (.iadd, 1) := by decide +kernel
theorem d_ZoneNodesModel_query_102 : decode b_ZoneNodesModel_query 102 = .ok (.baload, 1) := by decide +kernel
theorem d_ZoneNodesModel_query_103 : decode b_ZoneNodesModel_query 103 = .ok (.ifCond .eq 8, 3) := by decide +kernel
theorem d_ZoneNodesModel_query_106 : decode b_ZoneNodesModel_query 106 = .ok (.iload 7, 2) := by decide +kernel
theorem d_ZoneNodesModel_query_108 : decode b_ZoneNodesModel_query 108 = .ok (.goto 5, 3) := by decide +kernel
theorem d_ZoneNodesModel_query_111 : decode b_ZoneNodesModel_query 111 = .ok (.iload 6, 2) := by decide +kernel
theorem d_ZoneNodesModel_query_113 : decode b_ZoneNodesModel_query 113 = .ok (.istore 6, 2) := by decide +kernel
theorem d_ZoneNodesModel_query_115 : decode b_ZoneNodesModel_query 115 = .ok (.iinc 7 1, 3) := by decide +kernel
theorem d_ZoneNodesModel_query_118 : decode b_ZoneNodesModel_query 118 = .ok (.goto (-46), 3) := by decide +kernel
theorem d_ZoneNodesModel_query_121 : decode b_ZoneNodesModel_query 121 = .ok (.iload 6, 2) := by decide +kernel
theorem d_ZoneNodesModel_query_123 : decode b_ZoneNodesModel_query 123 = .ok (.ifCond .ge 38, 3) := by decide +kernel
theorem d_ZoneNodesModel_query_126 : decode b_ZoneNodesModel_query 126 = .ok (.aload_n 0, 1) := by decide +kernel
theorem d_ZoneNodesModel_query_127 : decode b_ZoneNodesModel_query 127 = .ok (.iload_n 1, 1) := by decide +kernel
theorem d_ZoneNodesModel_query_128 : decode b_ZoneNodesModel_query 128 = .ok (.iload 4, 2) := by decide +kernel
theorem d_ZoneNodesModel_query_130 : decode b_ZoneNodesModel_query 130 = .ok (.iconst 0, 1) := by decide +kernel
theorem d_ZoneNodesModel_query_131 : decode b_ZoneNodesModel_query 131 = .ok (.bipush 32, 2) := by decide +kernel
theorem d_ZoneNodesModel_query_133 : decode b_ZoneNodesModel_query 133 = .ok (.invokevirtual 222, 3) := by decide +kernel
theorem d_ZoneNodesModel_query_136 : decode b_ZoneNodesModel_query 136 = .ok (.ifCond .ne 9, 3) := by decide +kernel
theorem d_ZoneNodesModel_query_139 : decode b_ZoneNodesModel_query 139 = .ok (.sipush 300, 3) := by decide +kernel
theorem d_ZoneNodesModel_query_142 : decode b_ZoneNodesModel_query 142 = .ok (.goto 18, 3) := by decide +kernel
theorem d_ZoneNodesModel_query_145 : decode b_ZoneNodesModel_query 145 = .ok (.aload_n 0, 1) := by decide +kernel
theorem d_ZoneNodesModel_query_146 : decode b_ZoneNodesModel_query 146 = .ok (.iload_n 1, 1) := by decide +kernel
theorem d_ZoneNodesModel_query_147 : decode b_ZoneNodesModel_query 147 = .ok (.iload 4, 2) := by decide +kernel
theorem d_ZoneNodesModel_query_149 : decode b_ZoneNodesModel_query 149 = .ok (.bipush 8, 2) := by decide +kernel
theorem d_ZoneNodesModel_query_151 : decode b_ZoneNodesModel_query 151 = .ok (.iload_n 3, 1) := by decide +kernel
theorem d_ZoneNodesModel_query_152 : decode b_ZoneNodesModel_query 152 = .ok (.iconst 1, 1) := by decide +kernel
theorem d_ZoneNodesModel_query_153 : decode b_ZoneNodesModel_query 153 = .ok (.isub, 1) := by decide +kernel
theorem d_ZoneNodesModel_query_154 : decode b_ZoneNodesModel_query 154 = .ok (.imul, 1) := by decide +kernel
theorem d_ZoneNodesModel_query_155 : decode b_ZoneNodesModel_query 155 = .ok (.bipush 8, 2) := by decide +kernel
theorem d_ZoneNodesModel_query_157 : decode b_ZoneNodesModel_query 157 = .ok (.invokevirtual 222, 3) := by decide +kernel
theorem d_ZoneNodesModel_query_160 : decode b_ZoneNodesModel_query 160 = .ok (.ireturn, 1) := by decide +kernel
theorem d_ZoneNodesModel_query_161 : decode b_ZoneNodesModel_query 161 = .ok (.iload 6, 2) := by decide +kernel
theorem d_ZoneNodesModel_query_163 : decode b_ZoneNodesModel_query 163 = .ok (.istore 4, 2) := by decide +kernel
theorem d_ZoneNodesModel_query_165 : decode b_ZoneNodesModel_query 165 = .ok (.iinc 5 1, 3) := by decide +kernel
theorem d_ZoneNodesModel_query_168 : decode b_ZoneNodesModel_query 168 = .ok (.goto (-109), 3) := by decide +kernel
theorem d_ZoneNodesModel_query_171 : decode b_ZoneNodesModel_query 171 = .ok (.sipush 200, 3) := by decide +kernel
theorem d_ZoneNodesModel_query_174 : decode b_ZoneNodesModel_query 174 = .ok (.ireturn, 1) := by decide +kernel
theorem d_ZoneNodesModel_notifyBoth_0 : decode b_ZoneNodesModel_notifyBoth 0 = .ok (.aload_n 0, 1) := by decide +kernel
theorem d_ZoneNodesModel_notifyBoth_1 : decode b_ZoneNodesModel_notifyBoth 1 = .ok (.iconst 1, 1) := by decide +kernel
theorem d_ZoneNodesModel_notifyBoth_2 : decode b_ZoneNodesModel_notifyBoth 2 = .ok (.iconst 1, 1) := by decide +kernel
theorem d_ZoneNodesModel_notifyBoth_3 : decode b_ZoneNodesModel_notifyBoth 3 = .ok (.aload_n 0, 1) := by decide +kernel
theorem d_ZoneNodesModel_notifyBoth_4 : decode b_ZoneNodesModel_notifyBoth 4 = .ok (.getfield 16, 3) := by decide +kernel
theorem d_ZoneNodesModel_notifyBoth_7 : decode b_ZoneNodesModel_notifyBoth 7 = .ok (.iconst 0, 1) := by decide +kernel
theorem d_ZoneNodesModel_notifyBoth_8 : decode b_ZoneNodesModel_notifyBoth 8 = .ok (.iaload, 1) := by decide +kernel
theorem d_ZoneNodesModel_notifyBoth_9 : decode b_ZoneNodesModel_notifyBoth 9 = .ok (.invokevirtual 174, 3) := by decide +kernel
theorem d_ZoneNodesModel_notifyBoth_12 : decode b_ZoneNodesModel_notifyBoth 12 = .ok (.aload_n 0, 1) := by decide +kernel
theorem d_ZoneNodesModel_notifyBoth_13 : decode b_ZoneNodesModel_notifyBoth 13 = .ok (.iconst 1, 1) := by decide +kernel
theorem d_ZoneNodesModel_notifyBoth_14 : decode b_ZoneNodesModel_notifyBoth 14 = .ok (.iconst 2, 1) := by decide +kernel
theorem d_ZoneNodesModel_notifyBoth_15 : decode b_ZoneNodesModel_notifyBoth 15 = .ok (.aload_n 0, 1) := by decide +kernel
theorem d_ZoneNodesModel_notifyBoth_16 : decode b_ZoneNodesModel_notifyBoth 16 = .ok (.getfield 16, 3) := by decide +kernel
theorem d_ZoneNodesModel_notifyBoth_19 : decode b_ZoneNodesModel_notifyBoth 19 = .ok (.iconst 0, 1) := by decide +kernel
theorem d_ZoneNodesModel_notifyBoth_20 : decode b_ZoneNodesModel_notifyBoth 20 = .ok (.iaload, 1) := by decide +kernel
theorem d_ZoneNodesModel_notifyBoth_21 : decode b_ZoneNodesModel_notifyBoth 21 = .ok (.invokevirtual 174, 3) := by decide +kernel
theorem d_ZoneNodesModel_notifyBoth_24 : decode b_ZoneNodesModel_notifyBoth 24 = .ok (.return_, 1) := by decide +kernel
theorem d_ZoneNodesModel_install_0 : decode b_ZoneNodesModel_install 0 = .ok (.aload_n 0, 1) := by decide +kernel
theorem d_ZoneNodesModel_install_1 : decode b_ZoneNodesModel_install 1 = .ok (.getfield 162, 3) := by decide +kernel
theorem d_ZoneNodesModel_install_4 : decode b_ZoneNodesModel_install 4 = .ok (.iconst 1, 1) := by decide +kernel
theorem d_ZoneNodesModel_install_5 : decode b_ZoneNodesModel_install 5 = .ok (.isub, 1) := by decide +kernel
theorem d_ZoneNodesModel_install_6 : decode b_ZoneNodesModel_install 6 = .ok (.istore_n 1, 1) := by decide +kernel
theorem d_ZoneNodesModel_install_7 : decode b_ZoneNodesModel_install 7 = .ok (.iconst 0, 1) := by decide +kernel
theorem d_ZoneNodesModel_install_8 : decode b_ZoneNodesModel_install 8 = .ok (.istore_n 2, 1) := by decide +kernel
theorem d_ZoneNodesModel_install_9 : decode b_ZoneNodesModel_install 9 = .ok (.iload_n 2, 1) := by decide +kernel
theorem d_ZoneNodesModel_install_10 : decode b_ZoneNodesModel_install 10 = .ok (.sipush 256, 3) := by decide +kernel
theorem d_ZoneNodesModel_install_13 : decode b_ZoneNodesModel_install 13 = .ok (.if_icmp .ge 27, 3) := by decide +kernel
theorem d_ZoneNodesModel_install_16 : decode b_ZoneNodesModel_install 16 = .ok (.aload_n 0, 1) := by decide +kernel
theorem d_ZoneNodesModel_install_17 : decode b_ZoneNodesModel_install 17 = .ok (.getfield 20, 3) := by decide +kernel
theorem d_ZoneNodesModel_install_20 : decode b_ZoneNodesModel_install 20 = .ok (.iload_n 2, 1) := by decide +kernel
theorem d_ZoneNodesModel_install_21 : decode b_ZoneNodesModel_install 21 = .ok (.aload_n 0, 1) := by decide +kernel
theorem d_ZoneNodesModel_install_22 : decode b_ZoneNodesModel_install 22 = .ok (.getfield 50, 3) := by decide +kernel
theorem d_ZoneNodesModel_install_25 : decode b_ZoneNodesModel_install 25 = .ok (.sipush 256, 3) := by decide +kernel
theorem d_ZoneNodesModel_install_28 : decode b_ZoneNodesModel_install 28 = .ok (.iload_n 1, 1) := by decide +kernel
theorem d_ZoneNodesModel_install_29 : decode b_ZoneNodesModel_install 29 = .ok (.imul, 1) := by decide +kernel
theorem d_ZoneNodesModel_install_30 : decode b_ZoneNodesModel_install 30 = .ok (.iload_n 2, 1) := by decide +kernel
theorem d_ZoneNodesModel_install_31 : decode b_ZoneNodesModel_install 31 = .ok (.iadd, 1) := by decide +kernel
theorem d_ZoneNodesModel_install_32 : decode b_ZoneNodesModel_install 32 = .ok (.baload, 1) := by decide +kernel
theorem d_ZoneNodesModel_install_33 : decode b_ZoneNodesModel_install 33 = .ok (.bastore, 1) := by decide +kernel
theorem d_ZoneNodesModel_install_34 : decode b_ZoneNodesModel_install 34 = .ok (.iinc 2 1, 3) := by decide +kernel
theorem d_ZoneNodesModel_install_37 : decode b_ZoneNodesModel_install 37 = .ok (.goto (-28), 3) := by decide +kernel
theorem d_ZoneNodesModel_install_40 : decode b_ZoneNodesModel_install 40 = .ok (.aload_n 0, 1) := by decide +kernel
theorem d_ZoneNodesModel_install_41 : decode b_ZoneNodesModel_install 41 = .ok (.getfield 16, 3) := by decide +kernel
theorem d_ZoneNodesModel_install_44 : decode b_ZoneNodesModel_install 44 = .ok (.iconst 0, 1) := by decide +kernel
theorem d_ZoneNodesModel_install_45 : decode b_ZoneNodesModel_install 45 = .ok (.aload_n 0, 1) := by decide +kernel
theorem d_ZoneNodesModel_install_46 : decode b_ZoneNodesModel_install 46 = .ok (.getfield 44, 3) := by decide +kernel
theorem d_ZoneNodesModel_install_49 : decode b_ZoneNodesModel_install 49 = .ok (.iload_n 1, 1) := by decide +kernel
theorem d_ZoneNodesModel_install_50 : decode b_ZoneNodesModel_install 50 = .ok (.iaload, 1) := by decide +kernel
theorem d_ZoneNodesModel_install_51 : decode b_ZoneNodesModel_install 51 = .ok (.iconst 1, 1) := by decide +kernel
theorem d_ZoneNodesModel_install_52 : decode b_ZoneNodesModel_install 52 = .ok (.iadd, 1) := by decide +kernel
theorem d_ZoneNodesModel_install_53 : decode b_ZoneNodesModel_install 53 = .ok (.iastore, 1) := by decide +kernel
theorem d_ZoneNodesModel_install_54 : decode b_ZoneNodesModel_install 54 = .ok (.aload_n 0, 1) := by decide +kernel
theorem d_ZoneNodesModel_install_55 : decode b_ZoneNodesModel_install 55 = .ok (.getfield 162, 3) := by decide +kernel
theorem d_ZoneNodesModel_install_58 : decode b_ZoneNodesModel_install 58 = .ok (.iconst 5, 1) := by decide +kernel
theorem d_ZoneNodesModel_install_59 : decode b_ZoneNodesModel_install 59 = .ok (.if_icmp .ne 94, 3) := by decide +kernel
theorem d_ZoneNodesModel_install_62 : decode b_ZoneNodesModel_install 62 = .ok (.aload_n 0, 1) := by decide +kernel
theorem d_ZoneNodesModel_install_63 : decode b_ZoneNodesModel_install 63 = .ok (.iconst 4, 1) := by decide +kernel
theorem d_ZoneNodesModel_install_64 : decode b_ZoneNodesModel_install 64 = .ok (.putfield 162, 3) := by decide +kernel
theorem d_ZoneNodesModel_install_67 : decode b_ZoneNodesModel_install 67 = .ok (.iconst 0, 1) := by decide +kernel
theorem d_ZoneNodesModel_install_68 : decode b_ZoneNodesModel_install 68 = .ok (.istore_n 2, 1) := by decide +kernel
theorem d_ZoneNodesModel_install_69 : decode b_ZoneNodesModel_install 69 = .ok (.iload_n 2, 1) := by decide +kernel
theorem d_ZoneNodesModel_install_70 : decode b_ZoneNodesModel_install 70 = .ok (.iconst 4, 1) := by decide +kernel
theorem d_ZoneNodesModel_install_71 : decode b_ZoneNodesModel_install 71 = .ok (.if_icmp .ge 51, 3) := by decide +kernel
theorem d_ZoneNodesModel_install_74 : decode b_ZoneNodesModel_install 74 = .ok (.aload_n 0, 1) := by decide +kernel
theorem d_ZoneNodesModel_install_75 : decode b_ZoneNodesModel_install 75 = .ok (.getfield 44, 3) := by decide +kernel
theorem d_ZoneNodesModel_install_78 : decode b_ZoneNodesModel_install 78 = .ok (.iload_n 2, 1) := by decide +kernel
theorem d_ZoneNodesModel_install_79 : decode b_ZoneNodesModel_install 79 = .ok (.aload_n 0, 1) := by decide +kernel
theorem d_ZoneNodesModel_install_80 : decode b_ZoneNodesModel_install 80 = .ok (.getfield 44, 3) := by decide +kernel
theorem d_ZoneNodesModel_install_83 : decode b_ZoneNodesModel_install 83 = .ok (.iload_n 2, 1) := by decide +kernel
theorem d_ZoneNodesModel_install_84 : decode b_ZoneNodesModel_install 84 = .ok (.iconst 1, 1) := by decide +kernel
theorem d_ZoneNodesModel_install_85 : decode b_ZoneNodesModel_install 85 = .ok (.iadd, 1) := by decide +kernel
theorem d_ZoneNodesModel_install_86 : decode b_ZoneNodesModel_install 86 = .ok (.iaload, 1) := by decide +kernel
theorem d_ZoneNodesModel_install_87 : decode b_ZoneNodesModel_install 87 = .ok (.iastore, 1) := by decide +kernel
theorem d_ZoneNodesModel_install_88 : decode b_ZoneNodesModel_install 88 = .ok (.aload_n 0, 1) := by decide +kernel
theorem d_ZoneNodesModel_install_89 : decode b_ZoneNodesModel_install 89 = .ok (.getfield 47, 3) := by decide +kernel
theorem d_ZoneNodesModel_install_92 : decode b_ZoneNodesModel_install 92 = .ok (.iload_n 2, 1) := by decide +kernel
theorem d_ZoneNodesModel_install_93 : decode b_ZoneNodesModel_install 93 = .ok (.aload_n 0, 1) := by decide +kernel
theorem d_ZoneNodesModel_install_94 : decode b_ZoneNodesModel_install 94 = .ok (.getfield 47, 3) := by decide +kernel
theorem d_ZoneNodesModel_install_97 : decode b_ZoneNodesModel_install 97 = .ok (.iload_n 2, 1) := by decide +kernel
theorem d_ZoneNodesModel_install_98 : decode b_ZoneNodesModel_install 98 = .ok (.iconst 1, 1) := by decide +kernel
theorem d_ZoneNodesModel_install_99 : decode b_ZoneNodesModel_install 99 = .ok (.iadd, 1) := by decide +kernel
theorem d_ZoneNodesModel_install_100 : decode b_ZoneNodesModel_install 100 = .ok (.baload, 1) := by decide +kernel
theorem d_ZoneNodesModel_install_101 : decode b_ZoneNodesModel_install 101 = .ok (.bastore, 1) := by decide +kernel
theorem d_ZoneNodesModel_install_102 : decode b_ZoneNodesModel_install 102 = .ok (.aload_n 0, 1) := by decide +kernel
theorem d_ZoneNodesModel_install_103 : decode b_ZoneNodesModel_install 103 = .ok (.getfield 53, 3) := by decide +kernel
theorem d_ZoneNodesModel_install_106 : decode b_ZoneNodesModel_install 106 = .ok (.iload_n 2, 1) := by decide +kernel
theorem d_ZoneNodesModel_install_107 : decode b_ZoneNodesModel_install 107 = .ok (.aload_n 0, 1) := by decide +kernel
theorem d_ZoneNodesModel_install_108 : decode b_ZoneNodesModel_install 108 = .ok (.getfield 53, 3) := by decide +kernel
theorem d_ZoneNodesModel_install_111 : decode b_ZoneNodesModel_install 111 = .ok (.iload_n 2, 1) := by decide +kernel
theorem d_ZoneNodesModel_install_112 : decode b_ZoneNodesModel_install 112 = .ok (.iconst 1, 1) := by decide +kernel
theorem d_ZoneNodesModel_install_113 : decode b_ZoneNodesModel_install 113 = .ok (.iadd, 1) := by decide +kernel
theorem d_ZoneNodesModel_install_114 : decode b_ZoneNodesModel_install 114 = .ok (.iaload, 1) := by decide +kernel
theorem d_ZoneNodesModel_install_115 : decode b_ZoneNodesModel_install 115 = .ok (.iastore, 1) := by decide +kernel
theorem d_ZoneNodesModel_install_116 : decode b_ZoneNodesModel_install 116 = .ok (.iinc 2 1, 3) := by decide +kernel
theorem d_ZoneNodesModel_install_119 : decode b_ZoneNodesModel_install 119 = .ok (.goto (-50), 3) := by decide +kernel
theorem d_ZoneNodesModel_install_122 : decode b_ZoneNodesModel_install 122 = .ok (.iconst 0, 1) := by decide +kernel
theorem d_ZoneNodesModel_install_123 : decode b_ZoneNodesModel_install 123 = .ok (.istore_n 2, 1) := by decide +kernel
theorem d_ZoneNodesModel_install_124 : decode b_ZoneNodesModel_install 124 = .ok (.iload_n 2, 1) := by decide +kernel
theorem d_ZoneNodesModel_install_125 : decode b_ZoneNodesModel_install 125 = .ok (.sipush 1024, 3) := by decide +kernel
theorem d_ZoneNodesModel_install_128 : decode b_ZoneNodesModel_install 128 = .ok (.if_icmp .ge 25, 3) := by decide +kernel
theorem d_ZoneNodesModel_install_131 : decode b_ZoneNodesModel_install 131 = .ok (.aload_n 0, 1) := by decide +kernel
theorem d_ZoneNodesModel_install_132 : decode b_ZoneNodesModel_install 132 = .ok (.getfield 50, 3) := by decide +kernel
theorem d_ZoneNodesModel_install_135 : decode b_ZoneNodesModel_install 135 = .ok (.iload_n 2, 1) := by decide +kernel
theorem d_ZoneNodesModel_install_136 : decode b_ZoneNodesModel_install 136 = .ok (.aload_n 0, 1) := by decide +kernel
theorem d_ZoneNodesModel_install_137 : decode b_ZoneNodesModel_install 137 = .ok (.getfield 50, 3) := by decide +kernel
theorem d_ZoneNodesModel_install_140 : decode b_ZoneNodesModel_install 140 = .ok (.iload_n 2, 1) := by decide +kernel
theorem d_ZoneNodesModel_install_141 : decode b_ZoneNodesModel_install 141 = .ok (.sipush 256, 3) := by decide +kernel
theorem d_ZoneNodesModel_install_144 : decode b_ZoneNodesModel_install 144 = .ok (.iadd, 1) := by decide +kernel
theorem d_ZoneNodesModel_install_145 : decode b_ZoneNodesModel_install 145 = .ok (.baload, 1) := by decide +kernel
theorem d_ZoneNodesModel_install_146 : decode b_ZoneNodesModel_install 146 = .ok (.bastore, 1) := by decide +kernel
theorem d_ZoneNodesModel_install_147 : decode b_ZoneNodesModel_install 147 = .ok (.iinc 2 1, 3) := by decide +kernel
theorem d_ZoneNodesModel_install_150 : decode b_ZoneNodesModel_install 150 = .ok (.goto (-26), 3) := by decide +kernel
theorem d_ZoneNodesModel_install_153 : decode b_ZoneNodesModel_install 153 = .ok (.aload_n 0, 1) := by decide +kernel
theorem d_ZoneNodesModel_install_154 : decode b_ZoneNodesModel_install 154 = .ok (.invokevirtual 171, 3) := by decide +kernel
theorem d_ZoneNodesModel_install_157 : decode b_ZoneNodesModel_install 157 = .ok (.return_, 1) := by decide +kernel
theorem d_ZoneNodesModel_restart_0 : decode b_ZoneNodesModel_restart 0 = .ok (.iload_n 1, 1) := by decide +kernel
theorem d_ZoneNodesModel_restart_1 : decode b_ZoneNodesModel_restart 1 = .ok (.invokestatic 218, 3) := by decide +kernel
theorem d_ZoneNodesModel_restart_4 : decode b_ZoneNodesModel_restart 4 = .ok (.ifCond .eq 12, 3) := by decide +kernel
theorem d_ZoneNodesModel_restart_7 : decode b_ZoneNodesModel_restart 7 = .ok (.aload_n 0, 1) := by decide +kernel
theorem d_ZoneNodesModel_restart_8 : decode b_ZoneNodesModel_restart 8 = .ok (.getfield 7, 3) := by decide +kernel
theorem d_ZoneNodesModel_restart_11 : decode b_ZoneNodesModel_restart 11 = .ok (.iload_n 1, 1) := by decide +kernel
theorem d_ZoneNodesModel_restart_12 : decode b_ZoneNodesModel_restart 12 = .ok (.baload, 1) := by decide +kernel
theorem d_ZoneNodesModel_restart_13 : decode b_ZoneNodesModel_restart 13 = .ok (.ifCond .eq 5, 3) := by decide +kernel
theorem d_ZoneNodesModel_restart_16 : decode b_ZoneNodesModel_restart 16 = .ok (.iconst 0, 1) := by decide +kernel
theorem d_ZoneNodesModel_restart_17 : decode b_ZoneNodesModel_restart 17 = .ok (.ireturn, 1) := by decide +kernel
theorem d_ZoneNodesModel_restart_18 : decode b_ZoneNodesModel_restart 18 = .ok (.aload_n 0, 1) := by decide +kernel
theorem d_ZoneNodesModel_restart_19 : decode b_ZoneNodesModel_restart 19 = .ok (.getfield 7, 3) := by decide +kernel
theorem d_ZoneNodesModel_restart_22 : decode b_ZoneNodesModel_restart 22 = .ok (.iload_n 1, 1) := by decide +kernel
theorem d_ZoneNodesModel_restart_23 : decode b_ZoneNodesModel_restart 23 = .ok (.iconst 1, 1) := by decide +kernel
theorem d_ZoneNodesModel_restart_24 : decode b_ZoneNodesModel_restart 24 = .ok (.bastore, 1) := by decide +kernel
theorem d_ZoneNodesModel_restart_25 : decode b_ZoneNodesModel_restart 25 = .ok (.iload_n 1, 1) := by decide +kernel
theorem d_ZoneNodesModel_restart_26 : decode b_ZoneNodesModel_restart 26 = .ok (.ifCond .le 26, 3) := by decide +kernel
theorem d_ZoneNodesModel_restart_29 : decode b_ZoneNodesModel_restart 29 = .ok (.aload_n 0, 1) := by decide +kernel
theorem d_ZoneNodesModel_restart_30 : decode b_ZoneNodesModel_restart 30 = .ok (.iload_n 1, 1) := by decide +kernel
theorem d_ZoneNodesModel_restart_31 : decode b_ZoneNodesModel_restart 31 = .ok (.iconst 1, 1) := by decide +kernel
theorem d_ZoneNodesModel_restart_32 : decode b_ZoneNodesModel_restart 32 = .ok (.invokevirtual 94, 3) := by decide +kernel
theorem d_ZoneNodesModel_restart_35 : decode b_ZoneNodesModel_restart 35 = .ok (.aload_n 0, 1) := by decide +kernel
theorem d_ZoneNodesModel_restart_36 : decode b_ZoneNodesModel_restart 36 = .ok (.getfield 32, 3) := by decide +kernel
theorem d_ZoneNodesModel_restart_39 : decode b_ZoneNodesModel_restart 39 = .ok (.iload_n 1, 1) := by decide +kernel
theorem d_ZoneNodesModel_restart_40 : decode b_ZoneNodesModel_restart 40 = .ok (.aload_n 0, 1) := by decide +kernel
theorem d_ZoneNodesModel_restart_41 : decode b_ZoneNodesModel_restart 41 = .ok (.getfield 98, 3) := by decide +kernel
theorem d_ZoneNodesModel_restart_44 : decode b_ZoneNodesModel_restart 44 = .ok (.aload_n 0, 1) := by decide +kernel
theorem d_ZoneNodesModel_restart_45 : decode b_ZoneNodesModel_restart 45 = .ok (.getfield 87, 3) := by decide +kernel
theorem d_ZoneNodesModel_restart_48 : decode b_ZoneNodesModel_restart 48 = .ok (.iadd, 1) := by decide +kernel
theorem d_ZoneNodesModel_restart_49 : decode b_ZoneNodesModel_restart 49 = .ok (.iastore, 1) := by decide +kernel
theorem d_ZoneNodesModel_restart_50 : decode b_ZoneNodesModel_restart 50 = .ok (.iconst 1, 1) := by decide +kernel
theorem d_ZoneNodesModel_restart_51 : decode b_ZoneNodesModel_restart 51 = .ok (.ireturn, 1) := by decide +kernel
theorem d_ZoneNodesModel_restart_52 : decode b_ZoneNodesModel_restart 52 = .ok (.aload_n 0, 1) := by decide +kernel
theorem d_ZoneNodesModel_restart_53 : decode b_ZoneNodesModel_restart 53 = .ok (.getfield 162, 3) := by decide +kernel
theorem d_ZoneNodesModel_restart_56 : decode b_ZoneNodesModel_restart 56 = .ok (.ifCond .le 27, 3) := by decide +kernel
theorem d_ZoneNodesModel_restart_59 : decode b_ZoneNodesModel_restart 59 = .ok (.aload_n 0, 1) := by decide +kernel
theorem d_ZoneNodesModel_restart_60 : decode b_ZoneNodesModel_restart 60 = .ok (.getfield 47, 3) := by decide +kernel
theorem d_ZoneNodesModel_restart_63 : decode b_ZoneNodesModel_restart 63 = .ok (.aload_n 0, 1) := by decide +kernel
theorem d_ZoneNodesModel_restart_64 : decode b_ZoneNodesModel_restart 64 = .ok (.getfield 162, 3) := by decide +kernel
theorem d_ZoneNodesModel_restart_67 : decode b_ZoneNodesModel_restart 67 = .ok (.iconst 1, 1) := by decide +kernel
theorem d_ZoneNodesModel_restart_68 : decode b_ZoneNodesModel_restart 68 = .ok (.isub, 1) := by decide +kernel
theorem d_ZoneNodesModel_restart_69 : decode b_ZoneNodesModel_restart 69 = .ok (.baload, 1) := by decide +kernel
theorem d_ZoneNodesModel_restart_70 : decode b_ZoneNodesModel_restart 70 = .ok (.ifCond .ne 13, 3) := by decide +kernel
theorem d_ZoneNodesModel_restart_73 : decode b_ZoneNodesModel_restart 73 = .ok (.aload_n 0, 1) := by decide +kernel
theorem d_ZoneNodesModel_restart_74 : decode b_ZoneNodesModel_restart 74 = .ok (.dup, 1) := by decide +kernel
theorem d_ZoneNodesModel_restart_75 : decode b_ZoneNodesModel_restart 75 = .ok (.getfield 162, 3) := by decide +kernel
theorem d_ZoneNodesModel_restart_78 : decode b_ZoneNodesModel_restart 78 = .ok (.iconst 1, 1) := by decide +kernel
theorem d_ZoneNodesModel_restart_79 : decode b_ZoneNodesModel_restart 79 = .ok (.isub, 1) := by decide +kernel
theorem d_ZoneNodesModel_restart_80 : decode b_ZoneNodesModel_restart 80 = .ok (.putfield 162, 3) := by decide +kernel
theorem d_ZoneNodesModel_restart_83 : decode b_ZoneNodesModel_restart 83 = .ok (.aload_n 0, 1) := by decide +kernel
theorem d_ZoneNodesModel_restart_84 : decode b_ZoneNodesModel_restart 84 = .ok (.getfield 162, 3) := by decide +kernel
theorem d_ZoneNodesModel_restart_87 : decode b_ZoneNodesModel_restart 87 = .ok (.ifCond .le 27, 3) := by decide +kernel
theorem d_ZoneNodesModel_restart_90 : decode b_ZoneNodesModel_restart 90 = .ok (.aload_n 0, 1) := by decide +kernel
theorem d_ZoneNodesModel_restart_91 : decode b_ZoneNodesModel_restart 91 = .ok (.getfield 44, 3) := by decide +kernel
theorem d_ZoneNodesModel_restart_94 : decode b_ZoneNodesModel_restart 94 = .ok (.aload_n 0, 1) := by decide +kernel
theorem d_ZoneNodesModel_restart_95 : decode b_ZoneNodesModel_restart 95 = .ok (.getfield 162, 3) := by decide +kernel
theorem d_ZoneNodesModel_restart_98 : decode b_ZoneNodesModel_restart 98 = .ok (.iconst 1, 1) := by decide +kernel
theorem d_ZoneNodesModel_restart_99 : decode b_ZoneNodesModel_restart 99 = .ok (.isub, 1) := by decide +kernel
theorem d_ZoneNodesModel_restart_100 : decode b_ZoneNodesModel_restart 100 = .ok (.iaload, 1) := by decide +kernel
theorem d_ZoneNodesModel_restart_101 : decode b_ZoneNodesModel_restart 101 = .ok (.aload_n 0, 1) := by decide +kernel
theorem d_ZoneNodesModel_restart_102 : decode b_ZoneNodesModel_restart 102 = .ok (.getfield 16, 3) := by decide +kernel
theorem d_ZoneNodesModel_restart_105 : decode b_ZoneNodesModel_restart 105 = .ok (.iconst 0, 1) := by decide +kernel
theorem d_ZoneNodesModel_restart_106 : decode b_ZoneNodesModel_restart 106 = .ok (.iaload, 1) := by decide +kernel
theorem d_ZoneNodesModel_restart_107 : decode b_ZoneNodesModel_restart 107 = .ok (.if_icmp .ne 7, 3) := by decide +kernel
theorem d_ZoneNodesModel_restart_110 : decode b_ZoneNodesModel_restart 110 = .ok (.iconst 1, 1) := by decide +kernel
theorem d_ZoneNodesModel_restart_111 : decode b_ZoneNodesModel_restart 111 = .ok (.goto 4, 3) := by decide +kernel
theorem d_ZoneNodesModel_restart_114 : decode b_ZoneNodesModel_restart 114 = .ok (.iconst 0, 1) := by decide +kernel
theorem d_ZoneNodesModel_restart_115 : decode b_ZoneNodesModel_restart 115 = .ok (.istore_n 2, 1) := by decide +kernel
theorem d_ZoneNodesModel_restart_116 : decode b_ZoneNodesModel_restart 116 = .ok (.iload_n 2, 1) := by decide +kernel
theorem d_ZoneNodesModel_restart_117 : decode b_ZoneNodesModel_restart 117 = .ok (.ifCond .eq 10, 3) := by decide +kernel
theorem d_ZoneNodesModel_restart_120 : decode b_ZoneNodesModel_restart 120 = .ok (.aload_n 0, 1) := by decide +kernel
theorem d_ZoneNodesModel_restart_121 : decode b_ZoneNodesModel_restart 121 = .ok (.invokevirtual 168, 3) := by decide +kernel
theorem d_ZoneNodesModel_restart_124 : decode b_ZoneNodesModel_restart 124 = .ok (.goto 7, 3) := by decide +kernel
theorem d_ZoneNodesModel_restart_127 : decode b_ZoneNodesModel_restart 127 = .ok (.aload_n 0, 1) := by decide +kernel
theorem d_ZoneNodesModel_restart_128 : decode b_ZoneNodesModel_restart 128 = .ok (.invokevirtual 171, 3) := by decide +kernel
theorem d_ZoneNodesModel_restart_131 : decode b_ZoneNodesModel_restart 131 = .ok (.iconst 1, 1) := by decide +kernel
theorem d_ZoneNodesModel_restart_132 : decode b_ZoneNodesModel_restart 132 = .ok (.ireturn, 1) := by decide +kernel
theorem d_ZoneNodesModel_line_0 : decode b_ZoneNodesModel_line 0 = .ok (.sipush 1000, 3) := by decide +kernel
theorem d_ZoneNodesModel_line_3 : decode b_ZoneNodesModel_line 3 = .ok (.aload_n 0, 1) := by decide +kernel
theorem d_ZoneNodesModel_line_4 : decode b_ZoneNodesModel_line 4 = .ok (.getfield 41, 3) := by decide +kernel
theorem d_ZoneNodesModel_line_7 : decode b_ZoneNodesModel_line 7 = .ok (.iconst 4, 1) := by decide +kernel
theorem d_ZoneNodesModel_line_8 : decode b_ZoneNodesModel_line 8 = .ok (.iload_n 1, 1) := by decide +kernel
theorem d_ZoneNodesModel_line_9 : decode b_ZoneNodesModel_line 9 = .ok (.imul, 1) := by decide +kernel
theorem d_ZoneNodesModel_line_10 : decode b_ZoneNodesModel_line 10 = .ok (.iaload, 1) := by decide +kernel
theorem d_ZoneNodesModel_line_11 : decode b_ZoneNodesModel_line 11 = .ok (.imul, 1) := by decide +kernel
theorem d_ZoneNodesModel_line_12 : decode b_ZoneNodesModel_line 12 = .ok (.bipush 100, 2) := by decide +kernel
theorem d_ZoneNodesModel_line_14 : decode b_ZoneNodesModel_line 14 = .ok (.aload_n 0, 1) := by decide +kernel
theorem d_ZoneNodesModel_line_15 : decode b_ZoneNodesModel_line 15 = .ok (.getfield 41, 3) := by decide +kernel
theorem d_ZoneNodesModel_line_18 : decode b_ZoneNodesModel_line 18 = .ok (.iconst 4, 1) := by decide +kernel
theorem d_ZoneNodesModel_line_19 : decode b_ZoneNodesModel_line 19 = .ok (.iload_n 1, 1) := by decide +kernel
theorem d_ZoneNodesModel_line_20 : decode b_ZoneNodesModel_line 20 = .ok (.imul, 1) := by decide +kernel
theorem d_ZoneNodesModel_line_21 : decode b_ZoneNodesModel_line 21 = .ok (.iconst 1, 1) := by decide +kernel
theorem d_ZoneNodesModel_line_22 : decode b_ZoneNodesModel_line 22 = .ok (.iadd, 1) := by decide +kernel
theorem d_ZoneNodesModel_line_23 : decode b_ZoneNodesModel_line 23 = .ok (.iaload, 1) := by decide +kernel
theorem d_ZoneNodesModel_line_24 : decode b_ZoneNodesModel_line 24 = .ok (.imul, 1) := by decide +kernel
theorem d_ZoneNodesModel_line_25 : decode b_ZoneNodesModel_line 25 = .ok (.iadd, 1) := by decide +kernel
theorem d_ZoneNodesModel_line_26 : decode b_ZoneNodesModel_line 26 = .ok (.bipush 10, 2) := by decide +kernel
theorem d_ZoneNodesModel_line_28 : decode b_ZoneNodesModel_line 28 = .ok (.aload_n 0, 1) := by decide +kernel
theorem d_ZoneNodesModel_line_29 : decode b_ZoneNodesModel_line 29 = .ok (.getfield 41, 3) := by decide +kernel
theorem d_ZoneNodesModel_line_32 : decode b_ZoneNodesModel_line 32 = .ok (.iconst 4, 1) := by decide +kernel
theorem d_ZoneNodesModel_line_33 : decode b_ZoneNodesModel_line 33 = .ok (.iload_n 1, 1) := by decide +kernel
theorem d_ZoneNodesModel_line_34 : decode b_ZoneNodesModel_line 34 = .ok (.imul, 1) := by decide +kernel
theorem d_ZoneNodesModel_line_35 : decode b_ZoneNodesModel_line 35 = .ok (.iconst 2, 1) := by decide +kernel
theorem d_ZoneNodesModel_line_36 : decode b_ZoneNodesModel_line 36 = .ok (.iadd, 1) := by decide +kernel
theorem d_ZoneNodesModel_line_37 : decode b_ZoneNodesModel_line 37 = .ok (.iaload, 1) := by decide +kernel
theorem d_ZoneNodesModel_line_38 : decode b_ZoneNodesModel_line 38 = .ok (.imul, 1) := by decide +kernel
theorem d_ZoneNodesModel_line_39 : decode b_ZoneNodesModel_line 39 = .ok (.iadd, 1) := by decide +kernel
theorem d_ZoneNodesModel_line_40 : decode b_ZoneNodesModel_line 40 = .ok (.aload_n 0, 1) := by decide +kernel
theorem d_ZoneNodesModel_line_41 : decode b_ZoneNodesModel_line 41 = .ok (.getfield 41, 3) := by decide +kernel
theorem d_ZoneNodesModel_line_44 : decode b_ZoneNodesModel_line 44 = .ok (.iconst 4, 1) := by decide +kernel
theorem d_ZoneNodesModel_line_45 : decode b_ZoneNodesModel_line 45 = .ok (.iload_n 1, 1) := by decide +kernel
theorem d_ZoneNodesModel_line_46 : decode b_ZoneNodesModel_line 46 = .ok (.imul, 1) := by decide +kernel
theorem d_ZoneNodesModel_line_47 : decode b_ZoneNodesModel_line 47 = .ok (.iconst 3, 1) := by decide +kernel
theorem d_ZoneNodesModel_line_48 : decode b_ZoneNodesModel_line 48 = .ok (.iadd, 1) := by decide +kernel
theorem d_ZoneNodesModel_line_49 : decode b_ZoneNodesModel_line 49 = .ok (.iaload, 1) := by decide +kernel
theorem d_ZoneNodesModel_line_50 : decode b_ZoneNodesModel_line 50 = .ok (.iadd, 1) := by decide +kernel
theorem d_ZoneNodesModel_line_51 : decode b_ZoneNodesModel_line 51 = .ok (.ireturn, 1) := by decide +kernel
theorem d_ZoneNodesModel_mixed_0 : decode b_ZoneNodesModel_mixed 0 = .ok (.iload_n 0, 1) := by decide +kernel
theorem d_ZoneNodesModel_mixed_1 : decode b_ZoneNodesModel_mixed 1 = .ok (.iload_n 1, 1) := by decide +kernel
theorem d_ZoneNodesModel_mixed_2 : decode b_ZoneNodesModel_mixed 2 = .ok (.ixor, 1) := by decide +kernel
theorem d_ZoneNodesModel_mixed_3 : decode b_ZoneNodesModel_mixed 3 = .ok (.ldc 115, 2) := by decide +kernel
theorem d_ZoneNodesModel_mixed_5 : decode b_ZoneNodesModel_mixed 5 = .ok (.imul, 1) := by decide +kernel
theorem d_ZoneNodesModel_mixed_6 : decode b_ZoneNodesModel_mixed 6 = .ok (.istore_n 2, 1) := by decide +kernel
theorem d_ZoneNodesModel_mixed_7 : decode b_ZoneNodesModel_mixed 7 = .ok (.iload_n 2, 1) := by decide +kernel
theorem d_ZoneNodesModel_mixed_8 : decode b_ZoneNodesModel_mixed 8 = .ok (.iload_n 2, 1) := by decide +kernel
theorem d_ZoneNodesModel_mixed_9 : decode b_ZoneNodesModel_mixed 9 = .ok (.bipush 15, 2) := by decide +kernel
theorem d_ZoneNodesModel_mixed_11 : decode b_ZoneNodesModel_mixed 11 = .ok (.iushr, 1) := by decide +kernel
theorem d_ZoneNodesModel_mixed_12 : decode b_ZoneNodesModel_mixed 12 = .ok (.ixor, 1) := by decide +kernel
theorem d_ZoneNodesModel_mixed_13 : decode b_ZoneNodesModel_mixed 13 = .ok (.ireturn, 1) := by decide +kernel
theorem d_ZoneNodesModel_sealed_0 : decode b_ZoneNodesModel_sealed 0 = .ok (.aload_n 0, 1) := by decide +kernel
theorem d_ZoneNodesModel_sealed_1 : decode b_ZoneNodesModel_sealed 1 = .ok (.getfield 38, 3) := by decide +kernel
theorem d_ZoneNodesModel_sealed_4 : decode b_ZoneNodesModel_sealed 4 = .ok (.iload_n 1, 1) := by decide +kernel
theorem d_ZoneNodesModel_sealed_5 : decode b_ZoneNodesModel_sealed 5 = .ok (.iaload, 1) := by decide +kernel
theorem d_ZoneNodesModel_sealed_6 : decode b_ZoneNodesModel_sealed 6 = .ok (.aload_n 0, 1) := by decide +kernel
theorem d_ZoneNodesModel_sealed_7 : decode b_ZoneNodesModel_sealed 7 = .ok (.getfield 105, 3) := by decide +kernel
theorem d_ZoneNodesModel_sealed_10 : decode b_ZoneNodesModel_sealed 10 = .ok (.invokestatic 116, 3) := by decide +kernel
theorem d_ZoneNodesModel_sealed_13 : decode b_ZoneNodesModel_sealed 13 = .ok (.istore_n 3, 1) := by decide +kernel
theorem d_ZoneNodesModel_sealed_14 : decode b_ZoneNodesModel_sealed 14 = .ok (.iconst 0, 1) := by decide +kernel
theorem d_ZoneNodesModel_sealed_15 : decode b_ZoneNodesModel_sealed 15 = .ok (.istore 4, 2) := by decide +kernel
theorem d_ZoneNodesModel_sealed_17 : decode b_ZoneNodesModel_sealed 17 = .ok (.iload 4, 2) := by decide +kernel
theorem d_ZoneNodesModel_sealed_19 : decode b_ZoneNodesModel_sealed 19 = .ok (.aload_n 0, 1) := by decide +kernel
theorem d_ZoneNodesModel_sealed_20 : decode b_ZoneNodesModel_sealed 20 = .ok (.getfield 105, 3) := by decide +kernel
theorem d_ZoneNodesModel_sealed_23 : decode b_ZoneNodesModel_sealed 23 = .ok (.if_icmp .ge 20, 3) := by decide +kernel
theorem d_ZoneNodesModel_sealed_26 : decode b_ZoneNodesModel_sealed 26 = .ok (.iload_n 3, 1) := by decide +kernel
theorem d_ZoneNodesModel_sealed_27 : decode b_ZoneNodesModel_sealed 27 = .ok (.aload_n 0, 1) := by decide +kernel
theorem d_ZoneNodesModel_sealed_28 : decode b_ZoneNodesModel_sealed 28 = .ok (.iload 4, 2) := by decide +kernel
theorem d_ZoneNodesModel_sealed_30 : decode b_ZoneNodesModel_sealed 30 = .ok (.invokevirtual 120, 3) := by decide +kernel
theorem d_ZoneNodesModel_sealed_33 : decode b_ZoneNodesModel_sealed 33 = .ok (.invokestatic 116, 3) := by decide +kernel
theorem d_ZoneNodesModel_sealed_36 : decode b_ZoneNodesModel_sealed 36 = .ok (.istore_n 3, 1) := by decide +kernel
theorem d_ZoneNodesModel_sealed_37 : decode b_ZoneNodesModel_sealed 37 = .ok (.iinc 4 1, 3) := by decide +kernel
theorem d_ZoneNodesModel_sealed_40 : decode b_ZoneNodesModel_sealed 40 = .ok (.goto (-23), 3) := by decide +kernel
theorem d_ZoneNodesModel_sealed_43 : decode b_ZoneNodesModel_sealed 43 = .ok (.iload_n 3, 1) := by decide +kernel
theorem d_ZoneNodesModel_sealed_44 : decode b_ZoneNodesModel_sealed 44 = .ok (.aload_n 0, 1) := by decide +kernel
theorem d_ZoneNodesModel_sealed_45 : decode b_ZoneNodesModel_sealed 45 = .ok (.getfield 112, 3) := by decide +kernel
theorem d_ZoneNodesModel_sealed_48 : decode b_ZoneNodesModel_sealed 48 = .ok (.invokestatic 116, 3) := by decide +kernel
theorem d_ZoneNodesModel_sealed_51 : decode b_ZoneNodesModel_sealed 51 = .ok (.istore_n 3, 1) := by decide +kernel
theorem d_ZoneNodesModel_sealed_52 : decode b_ZoneNodesModel_sealed 52 = .ok (.iconst 0, 1) := by decide +kernel
theorem d_ZoneNodesModel_sealed_53 : decode b_ZoneNodesModel_sealed 53 = .ok (.istore 4, 2) := by decide +kernel
theorem d_ZoneNodesModel_sealed_55 : decode b_ZoneNodesModel_sealed 55 = .ok (.iload 4, 2) := by decide +kernel
theorem d_ZoneNodesModel_sealed_57 : decode b_ZoneNodesModel_sealed 57 = .ok (.aload_n 0, 1) := by decide +kernel
theorem d_ZoneNodesModel_sealed_58 : decode b_ZoneNodesModel_sealed 58 = .ok (.getfield 112, 3) := by decide +kernel
theorem d_ZoneNodesModel_sealed_61 : decode b_ZoneNodesModel_sealed 61 = .ok (.if_icmp .ge 22, 3) := by decide +kernel
theorem d_ZoneNodesModel_sealed_64 : decode b_ZoneNodesModel_sealed 64 = .ok (.iload_n 3, 1) := by decide +kernel
theorem d_ZoneNodesModel_sealed_65 : decode b_ZoneNodesModel_sealed 65 = .ok (.aload_n 0, 1) := by decide +kernel
theorem d_ZoneNodesModel_sealed_66 : decode b_ZoneNodesModel_sealed 66 = .ok (.iconst 4, 1) := by decide +kernel
theorem d_ZoneNodesModel_sealed_67 : decode b_ZoneNodesModel_sealed 67 = .ok (.iload 4, 2) := by decide +kernel
theorem d_ZoneNodesModel_sealed_69 : decode b_ZoneNodesModel_sealed 69 = .ok (.iadd, 1) := by decide +kernel
theorem d_ZoneNodesModel_sealed_70 : decode b_ZoneNodesModel_sealed 70 = .ok (.invokevirtual 120, 3) := by decide +kernel
theorem d_ZoneNodesModel_sealed_73 : decode b_ZoneNodesModel_sealed 73 = .ok (.invokestatic 116, 3) := by decide +kernel
theorem d_ZoneNodesModel_sealed_76 : decode b_ZoneNodesModel_sealed 76 = .ok (.istore_n 3, 1) := by decide +kernel
theorem d_ZoneNodesModel_sealed_77 : decode b_ZoneNodesModel_sealed 77 = .ok (.iinc 4 1, 3) := by decide +kernel
theorem d_ZoneNodesModel_sealed_80 : decode b_ZoneNodesModel_sealed 80 = .ok (.goto (-25), 3) := by decide +kernel
theorem d_ZoneNodesModel_sealed_83 : decode b_ZoneNodesModel_sealed 83 = .ok (.iload_n 3, 1) := by decide +kernel
theorem d_ZoneNodesModel_sealed_84 : decode b_ZoneNodesModel_sealed 84 = .ok (.iload_n 2, 1) := by decide +kernel
theorem d_ZoneNodesModel_sealed_85 : decode b_ZoneNodesModel_sealed 85 = .ok (.invokestatic 116, 3) := by decide +kernel
theorem d_ZoneNodesModel_sealed_88 : decode b_ZoneNodesModel_sealed 88 = .ok (.ireturn, 1) := by decide +kernel
theorem d_ZoneNodesModel_seal_0 : decode b_ZoneNodesModel_seal 0 = .ok (.iload_n 1, 1) := by decide +kernel
theorem d_ZoneNodesModel_seal_1 : decode b_ZoneNodesModel_seal 1 = .ok (.ifCond .lt 17, 3) := by decide +kernel
theorem d_ZoneNodesModel_seal_4 : decode b_ZoneNodesModel_seal 4 = .ok (.iload_n 1, 1) := by decide +kernel
theorem d_ZoneNodesModel_seal_5 : decode b_ZoneNodesModel_seal 5 = .ok (.iconst 2, 1) := by decide +kernel
theorem d_ZoneNodesModel_seal_6 : decode b_ZoneNodesModel_seal 6 = .ok (.if_icmp .gt 12, 3) := by decide +kernel
theorem d_ZoneNodesModel_seal_9 : decode b_ZoneNodesModel_seal 9 = .ok (.aload_n 0, 1) := by decide +kernel
theorem d_ZoneNodesModel_seal_10 : decode b_ZoneNodesModel_seal 10 = .ok (.getfield 35, 3) := by decide +kernel
theorem d_ZoneNodesModel_seal_13 : decode b_ZoneNodesModel_seal 13 = .ok (.iload_n 1, 1) := by decide +kernel
theorem d_ZoneNodesModel_seal_14 : decode b_ZoneNodesModel_seal 14 = .ok (.baload, 1) := by decide +kernel
theorem d_ZoneNodesModel_seal_15 : decode b_ZoneNodesModel_seal 15 = .ok (.ifCond .ne 7, 3) := by decide +kernel
theorem d_ZoneNodesModel_seal_18 : decode b_ZoneNodesModel_seal 18 = .ok (.iconst 0, 1) := by decide +kernel
theorem d_ZoneNodesModel_seal_19 : decode b_ZoneNodesModel_seal 19 = .ok (.goto 9, 3) := by decide +kernel
theorem d_ZoneNodesModel_seal_22 : decode b_ZoneNodesModel_seal 22 = .ok (.aload_n 0, 1) := by decide +kernel
theorem d_ZoneNodesModel_seal_23 : decode b_ZoneNodesModel_seal 23 = .ok (.iload_n 1, 1) := by decide +kernel
theorem d_ZoneNodesModel_seal_24 : decode b_ZoneNodesModel_seal 24 = .ok (.iload_n 2, 1) := by decide +kernel
theorem d_ZoneNodesModel_seal_25 : decode b_ZoneNodesModel_seal 25 = .ok (.invokevirtual 124, 3) := by decide +kernel
theorem d_ZoneNodesModel_seal_28 : decode b_ZoneNodesModel_seal 28 = .ok (.ireturn, 1) := by decide +kernel
theorem d_ZoneNodesModel_serial_0 : decode b_ZoneNodesModel_serial 0 = .ok (.iload_n 1, 1) := by decide +kernel
theorem d_ZoneNodesModel_serial_1 : decode b_ZoneNodesModel_serial 1 = .ok (.invokestatic 218, 3) := by decide +kernel
theorem d_ZoneNodesModel_serial_4 : decode b_ZoneNodesModel_serial 4 = .ok (.ifCond .eq 21, 3) := by decide +kernel
theorem d_ZoneNodesModel_serial_7 : decode b_ZoneNodesModel_serial 7 = .ok (.aload_n 0, 1) := by decide +kernel
theorem d_ZoneNodesModel_serial_8 : decode b_ZoneNodesModel_serial 8 = .ok (.getfield 13, 3) := by decide +kernel
theorem d_ZoneNodesModel_serial_11 : decode b_ZoneNodesModel_serial 11 = .ok (.iload_n 1, 1) := by decide +kernel
theorem d_ZoneNodesModel_serial_12 : decode b_ZoneNodesModel_serial 12 = .ok (.baload, 1) := by decide +kernel
theorem d_ZoneNodesModel_serial_13 : decode b_ZoneNodesModel_serial 13 = .ok (.ifCond .eq 12, 3) := by decide +kernel
theorem d_ZoneNodesModel_serial_16 : decode b_ZoneNodesModel_serial 16 = .ok (.aload_n 0, 1) := by decide +kernel
theorem d_ZoneNodesModel_serial_17 : decode b_ZoneNodesModel_serial 17 = .ok (.getfield 16, 3) := by decide +kernel
theorem d_ZoneNodesModel_serial_20 : decode b_ZoneNodesModel_serial 20 = .ok (.iload_n 1, 1) := by decide +kernel
theorem d_ZoneNodesModel_serial_21 : decode b_ZoneNodesModel_serial 21 = .ok (.iaload, 1) := by decide +kernel
theorem d_ZoneNodesModel_serial_22 : decode b_ZoneNodesModel_serial 22 = .ok (.goto 4, 3) := by decide +kernel
theorem d_ZoneNodesModel_serial_25 : decode b_ZoneNodesModel_serial 25 = .ok (.iconst 0, 1) := by decide +kernel
theorem d_ZoneNodesModel_serial_26 : decode b_ZoneNodesModel_serial 26 = .ok (.ireturn, 1) := by decide +kernel
theorem d_ZoneNodesModel_size_0 : decode b_ZoneNodesModel_size 0 = .ok (.iload_n 1, 1) := by decide +kernel
theorem d_ZoneNodesModel_size_1 : decode b_ZoneNodesModel_size 1 = .ok (.invokestatic 218, 3) := by decide +kernel
theorem d_ZoneNodesModel_size_4 : decode b_ZoneNodesModel_size 4 = .ok (.ifCond .eq 12, 3) := by decide +kernel
theorem d_ZoneNodesModel_size_7 : decode b_ZoneNodesModel_size 7 = .ok (.aload_n 0, 1) := by decide +kernel
theorem d_ZoneNodesModel_size_8 : decode b_ZoneNodesModel_size 8 = .ok (.getfield 13, 3) := by decide +kernel
theorem d_ZoneNodesModel_size_11 : decode b_ZoneNodesModel_size 11 = .ok (.iload_n 1, 1) := by decide +kernel
theorem d_ZoneNodesModel_size_12 : decode b_ZoneNodesModel_size 12 = .ok (.baload, 1) := by decide +kernel
theorem d_ZoneNodesModel_size_13 : decode b_ZoneNodesModel_size 13 = .ok (.ifCond .ne 5, 3) := by decide +kernel
theorem d_ZoneNodesModel_size_16 : decode b_ZoneNodesModel_size 16 = .ok (.iconst (-1), 1) := by decide +kernel
theorem d_ZoneNodesModel_size_17 : decode b_ZoneNodesModel_size 17 = .ok (.ireturn, 1) := by decide +kernel
theorem d_ZoneNodesModel_size_18 : decode b_ZoneNodesModel_size 18 = .ok (.iconst 0, 1) := by decide +kernel
theorem d_ZoneNodesModel_size_19 : decode b_ZoneNodesModel_size 19 = .ok (.istore_n 2, 1) := by decide +kernel
theorem d_ZoneNodesModel_size_20 : decode b_ZoneNodesModel_size 20 = .ok (.sipush 256, 3) := by decide +kernel
theorem d_ZoneNodesModel_size_23 : decode b_ZoneNodesModel_size 23 = .ok (.iload_n 1, 1) := by decide +kernel
theorem d_ZoneNodesModel_size_24 : decode b_ZoneNodesModel_size 24 = .ok (.imul, 1) := by decide +kernel
theorem d_ZoneNodesModel_size_25 : decode b_ZoneNodesModel_size 25 = .ok (.istore_n 3, 1) := by decide +kernel
theorem d_ZoneNodesModel_size_26 : decode b_ZoneNodesModel_size 26 = .ok (.iload_n 3, 1) := by decide +kernel
theorem d_ZoneNodesModel_size_27 : decode b_ZoneNodesModel_size 27 = .ok (.sipush 256, 3) := by decide +kernel
theorem d_ZoneNodesModel_size_30 : decode b_ZoneNodesModel_size 30 = .ok (.iload_n 1, 1) := by decide +kernel
theorem d_ZoneNodesModel_size_31 : decode b_ZoneNodesModel_size 31 = .ok (.imul, 1) := by decide +kernel
theorem d_ZoneNodesModel_size_32 : decode b_ZoneNodesModel_size 32 = .ok (.sipush 256, 3) := by decide +kernel
theorem d_ZoneNodesModel_size_35 : decode b_ZoneNodesModel_size 35 = .ok (.iadd, 1) := by decide +kernel
theorem d_ZoneNodesModel_size_36 : decode b_ZoneNodesModel_size 36 = .ok (.if_icmp .ge 26, 3) := by decide +kernel
