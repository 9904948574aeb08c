theorem d_Wire_put_46 : decode b_Wire_put 46 = .ok (.putfield 85, 3) := by decide +kernel
theorem d_Wire_put_49 : decode b_Wire_put 49 = .ok (.aload_n 0, 1) := by decide +kernel
theorem d_Wire_put_50 : decode b_Wire_put 50 = .ok (.dup, 1) := by decide +kernel
theorem d_Wire_put_51 : decode b_Wire_put 51 = .ok (.getfield 18, 3) := by decide +kernel
theorem d_Wire_put_54 : decode b_Wire_put 54 = .ok (.iconst 1, 1) := by decide +kernel
theorem d_Wire_put_55 : decode b_Wire_put 55 = .ok (.iadd, 1) := by decide +kernel
theorem d_Wire_put_56 : decode b_Wire_put 56 = .ok (.putfield 18, 3) := by decide +kernel
theorem d_Wire_put_59 : decode b_Wire_put 59 = .ok (.aload 4, 2) := by decide +kernel
theorem d_Wire_put_61 : decode b_Wire_put 61 = .ok (.areturn, 1) := by decide +kernel
theorem d_Wire_sendLossy_0 : decode b_Wire_sendLossy 0 = .ok (.aload_n 0, 1) := by decide +kernel
theorem d_Wire_sendLossy_1 : decode b_Wire_sendLossy 1 = .ok (.invokevirtual 40, 3) := by decide +kernel
theorem d_Wire_sendLossy_4 : decode b_Wire_sendLossy 4 = .ok (.bipush 24, 2) := by decide +kernel
theorem d_Wire_sendLossy_6 : decode b_Wire_sendLossy 6 = .ok (.if_icmp .ge 11, 3) := by decide +kernel
theorem d_Wire_sendLossy_9 : decode b_Wire_sendLossy 9 = .ok (.aload_n 0, 1) := by decide +kernel
theorem d_Wire_sendLossy_10 : decode b_Wire_sendLossy 10 = .ok (.iload_n 1, 1) := by decide +kernel
theorem d_Wire_sendLossy_11 : decode b_Wire_sendLossy 11 = .ok (.iload_n 2, 1) := by decide +kernel
theorem d_Wire_sendLossy_12 : decode b_Wire_sendLossy 12 = .ok (.iload_n 3, 1) := by decide +kernel
theorem d_Wire_sendLossy_13 : decode b_Wire_sendLossy 13 = .ok (.invokevirtual 44, 3) := by decide +kernel
theorem d_Wire_sendLossy_16 : decode b_Wire_sendLossy 16 = .ok (.pop, 1) := by decide +kernel
theorem d_Wire_sendLossy_17 : decode b_Wire_sendLossy 17 = .ok (.return_, 1) := by decide +kernel
theorem d_Wire_sendParts_0 : decode b_Wire_sendParts 0 = .ok (.iconst 0, 1) := by decide +kernel
theorem d_Wire_sendParts_1 : decode b_Wire_sendParts 1 = .ok (.istore_n 3, 1) := by decide +kernel
theorem d_Wire_sendParts_2 : decode b_Wire_sendParts 2 = .ok (.iconst 0, 1) := by decide +kernel
theorem d_Wire_sendParts_3 : decode b_Wire_sendParts 3 = .ok (.istore 4, 2) := by decide +kernel
theorem d_Wire_sendParts_5 : decode b_Wire_sendParts 5 = .ok (.iload 4, 2) := by decide +kernel
theorem d_Wire_sendParts_7 : decode b_Wire_sendParts 7 = .ok (.aload_n 2, 1) := by decide +kernel
theorem d_Wire_sendParts_8 : decode b_Wire_sendParts 8 = .ok (.getfield 52, 3) := by decide +kernel
theorem d_Wire_sendParts_11 : decode b_Wire_sendParts 11 = .ok (.if_icmp .ge 119, 3) := by decide +kernel
theorem d_Wire_sendParts_14 : decode b_Wire_sendParts 14 = .ok (.aload_n 0, 1) := by decide +kernel
theorem d_Wire_sendParts_15 : decode b_Wire_sendParts 15 = .ok (.iconst 5, 1) := by decide +kernel
theorem d_Wire_sendParts_16 : decode b_Wire_sendParts 16 = .ok (.iload_n 1, 1) := by decide +kernel
theorem d_Wire_sendParts_17 : decode b_Wire_sendParts 17 = .ok (.aload_n 2, 1) := by decide +kernel
theorem d_Wire_sendParts_18 : decode b_Wire_sendParts 18 = .ok (.getfield 57, 3) := by decide +kernel
theorem d_Wire_sendParts_21 : decode b_Wire_sendParts 21 = .ok (.invokevirtual 44, 3) := by decide +kernel
theorem d_Wire_sendParts_24 : decode b_Wire_sendParts 24 = .ok (.astore 5, 2) := by decide +kernel
theorem d_Wire_sendParts_26 : decode b_Wire_sendParts 26 = .ok (.aload 5, 2) := by decide +kernel
theorem d_Wire_sendParts_28 : decode b_Wire_sendParts 28 = .ok (.ifnonnull 4, 3) := by decide +kernel
theorem d_Wire_sendParts_31 : decode b_Wire_sendParts 31 = .ok (.return_, 1) := by decide +kernel
theorem d_Wire_sendParts_32 : decode b_Wire_sendParts 32 = .ok (.aload 5, 2) := by decide +kernel
theorem d_Wire_sendParts_34 : decode b_Wire_sendParts 34 = .ok (.iload_n 3, 1) := by decide +kernel
theorem d_Wire_sendParts_35 : decode b_Wire_sendParts 35 = .ok (.putfield 60, 3) := by decide +kernel
theorem d_Wire_sendParts_38 : decode b_Wire_sendParts 38 = .ok (.aload 5, 2) := by decide +kernel
theorem d_Wire_sendParts_40 : decode b_Wire_sendParts 40 = .ok (.aload_n 2, 1) := by decide +kernel
theorem d_Wire_sendParts_41 : decode b_Wire_sendParts 41 = .ok (.getfield 63, 3) := by decide +kernel
theorem d_Wire_sendParts_44 : decode b_Wire_sendParts 44 = .ok (.putfield 66, 3) := by decide +kernel
theorem d_Wire_sendParts_47 : decode b_Wire_sendParts 47 = .ok (.aload 5, 2) := by decide +kernel
theorem d_Wire_sendParts_49 : decode b_Wire_sendParts 49 = .ok (.iload 4, 2) := by decide +kernel
theorem d_Wire_sendParts_51 : decode b_Wire_sendParts 51 = .ok (.iconst 4, 1) := by decide +kernel
theorem d_Wire_sendParts_52 : decode b_Wire_sendParts 52 = .ok (.iadd, 1) := by decide +kernel
theorem d_Wire_sendParts_53 : decode b_Wire_sendParts 53 = .ok (.aload_n 2, 1) := by decide +kernel
theorem d_Wire_sendParts_54 : decode b_Wire_sendParts 54 = .ok (.getfield 52, 3) := by decide +kernel
theorem d_Wire_sendParts_57 : decode b_Wire_sendParts 57 = .ok (.if_icmp .lt 7, 3) := by decide +kernel
theorem d_Wire_sendParts_60 : decode b_Wire_sendParts 60 = .ok (.iconst 1, 1) := by decide +kernel
theorem d_Wire_sendParts_61 : decode b_Wire_sendParts 61 = .ok (.goto 4, 3) := by decide +kernel
theorem d_Wire_sendParts_64 : decode b_Wire_sendParts 64 = .ok (.iconst 0, 1) := by decide +kernel
theorem d_Wire_sendParts_65 : decode b_Wire_sendParts 65 = .ok (.putfield 69, 3) := by decide +kernel
theorem d_Wire_sendParts_68 : decode b_Wire_sendParts 68 = .ok (.aload 5, 2) := by decide +kernel
theorem d_Wire_sendParts_70 : decode b_Wire_sendParts 70 = .ok (.iconst 4, 1) := by decide +kernel
theorem d_Wire_sendParts_71 : decode b_Wire_sendParts 71 = .ok (.aload_n 2, 1) := by decide +kernel
theorem d_Wire_sendParts_72 : decode b_Wire_sendParts 72 = .ok (.getfield 52, 3) := by decide +kernel
theorem d_Wire_sendParts_75 : decode b_Wire_sendParts 75 = .ok (.iload 4, 2) := by decide +kernel
theorem d_Wire_sendParts_77 : decode b_Wire_sendParts 77 = .ok (.isub, 1) := by decide +kernel
theorem d_Wire_sendParts_78 : decode b_Wire_sendParts 78 = .ok (.invokestatic 72, 3) := by decide +kernel
theorem d_Wire_sendParts_81 : decode b_Wire_sendParts 81 = .ok (.putfield 78, 3) := by decide +kernel
theorem d_Wire_sendParts_84 : decode b_Wire_sendParts 84 = .ok (.iconst 0, 1) := by decide +kernel
theorem d_Wire_sendParts_85 : decode b_Wire_sendParts 85 = .ok (.istore 6, 2) := by decide +kernel
theorem d_Wire_sendParts_87 : decode b_Wire_sendParts 87 = .ok (.iload 6, 2) := by decide +kernel
theorem d_Wire_sendParts_89 : decode b_Wire_sendParts 89 = .ok (.aload 5, 2) := by decide +kernel
theorem d_Wire_sendParts_91 : decode b_Wire_sendParts 91 = .ok (.getfield 78, 3) := by decide +kernel
theorem d_Wire_sendParts_94 : decode b_Wire_sendParts 94 = .ok (.if_icmp .ge 27, 3) := by decide +kernel
theorem d_Wire_sendParts_97 : decode b_Wire_sendParts 97 = .ok (.aload 5, 2) := by decide +kernel
theorem d_Wire_sendParts_99 : decode b_Wire_sendParts 99 = .ok (.getfield 79, 3) := by decide +kernel
theorem d_Wire_sendParts_102 : decode b_Wire_sendParts 102 = .ok (.iload 6, 2) := by decide +kernel
theorem d_Wire_sendParts_104 : decode b_Wire_sendParts 104 = .ok (.aload_n 2, 1) := by decide +kernel
theorem d_Wire_sendParts_105 : decode b_Wire_sendParts 105 = .ok (.getfield 83, 3) := by decide +kernel
theorem d_Wire_sendParts_108 : decode b_Wire_sendParts 108 = .ok (.iload 4, 2) := by decide +kernel
theorem d_Wire_sendParts_110 : decode b_Wire_sendParts 110 = .ok (.iload 6, 2) := by decide +kernel
theorem d_Wire_sendParts_112 : decode b_Wire_sendParts 112 = .ok (.iadd, 1) := by decide +kernel
theorem d_Wire_sendParts_113 : decode b_Wire_sendParts 113 = .ok (.iaload, 1) := by decide +kernel
theorem d_Wire_sendParts_114 : decode b_Wire_sendParts 114 = .ok (.iastore, 1) := by decide +kernel
theorem d_Wire_sendParts_115 : decode b_Wire_sendParts 115 = .ok (.iinc 6 1, 3) := by decide +kernel
theorem d_Wire_sendParts_118 : decode b_Wire_sendParts 118 = .ok (.goto (-31), 3) := by decide +kernel
theorem d_Wire_sendParts_121 : decode b_Wire_sendParts 121 = .ok (.iinc 3 1, 3) := by decide +kernel
theorem d_Wire_sendParts_124 : decode b_Wire_sendParts 124 = .ok (.iinc 4 4, 3) := by decide +kernel
theorem d_Wire_sendParts_127 : decode b_Wire_sendParts 127 = .ok (.goto (-122), 3) := by decide +kernel
theorem d_Wire_sendParts_130 : decode b_Wire_sendParts 130 = .ok (.return_, 1) := by decide +kernel
theorem d_ZoneNodes_arriveAtPrimary_0 : decode b_ZoneNodes_arriveAtPrimary 0 = .ok (.aload_n 0, 1) := by decide +kernel
theorem d_ZoneNodes_arriveAtPrimary_1 : decode b_ZoneNodes_arriveAtPrimary 1 = .ok (.getfield 46, 3) := by decide +kernel
theorem d_ZoneNodes_arriveAtPrimary_4 : decode b_ZoneNodes_arriveAtPrimary 4 = .ok (.getfield 74, 3) := by decide +kernel
theorem d_ZoneNodes_arriveAtPrimary_7 : decode b_ZoneNodes_arriveAtPrimary 7 = .ok (.ifCond .ne 4, 3) := by decide +kernel
theorem d_ZoneNodes_arriveAtPrimary_10 : decode b_ZoneNodes_arriveAtPrimary 10 = .ok (.return_, 1) := by decide +kernel
theorem d_ZoneNodes_arriveAtPrimary_11 : decode b_ZoneNodes_arriveAtPrimary 11 = .ok (.aload_n 1, 1) := by decide +kernel
theorem d_ZoneNodes_arriveAtPrimary_12 : decode b_ZoneNodes_arriveAtPrimary 12 = .ok (.getfield 110, 3) := by decide +kernel
theorem d_ZoneNodes_arriveAtPrimary_15 : decode b_ZoneNodes_arriveAtPrimary 15 = .ok (.iconst 2, 1) := by decide +kernel
theorem d_ZoneNodes_arriveAtPrimary_16 : decode b_ZoneNodes_arriveAtPrimary 16 = .ok (.if_icmp .ne 25, 3) := by decide +kernel
theorem d_ZoneNodes_arriveAtPrimary_19 : decode b_ZoneNodes_arriveAtPrimary 19 = .ok (.aload_n 0, 1) := by decide +kernel
theorem d_ZoneNodes_arriveAtPrimary_20 : decode b_ZoneNodes_arriveAtPrimary 20 = .ok (.getfield 27, 3) := by decide +kernel
theorem d_ZoneNodes_arriveAtPrimary_23 : decode b_ZoneNodes_arriveAtPrimary 23 = .ok (.iconst 3, 1) := by decide +kernel
theorem d_ZoneNodes_arriveAtPrimary_24 : decode b_ZoneNodes_arriveAtPrimary 24 = .ok (.aload_n 1, 1) := by decide +kernel
theorem d_ZoneNodes_arriveAtPrimary_25 : decode b_ZoneNodes_arriveAtPrimary 25 = .ok (.getfield 119, 3) := by decide +kernel
theorem d_ZoneNodes_arriveAtPrimary_28 : decode b_ZoneNodes_arriveAtPrimary 28 = .ok (.aload_n 0, 1) := by decide +kernel
theorem d_ZoneNodes_arriveAtPrimary_29 : decode b_ZoneNodes_arriveAtPrimary 29 = .ok (.getfield 46, 3) := by decide +kernel
theorem d_ZoneNodes_arriveAtPrimary_32 : decode b_ZoneNodes_arriveAtPrimary 32 = .ok (.getfield 168, 3) := by decide +kernel
theorem d_ZoneNodes_arriveAtPrimary_35 : decode b_ZoneNodes_arriveAtPrimary 35 = .ok (.invokevirtual 230, 3) := by decide +kernel
theorem d_ZoneNodes_arriveAtPrimary_38 : decode b_ZoneNodes_arriveAtPrimary 38 = .ok (.goto 33, 3) := by decide +kernel
theorem d_ZoneNodes_arriveAtPrimary_41 : decode b_ZoneNodes_arriveAtPrimary 41 = .ok (.aload_n 0, 1) := by decide +kernel
theorem d_ZoneNodes_arriveAtPrimary_42 : decode b_ZoneNodes_arriveAtPrimary 42 = .ok (.getfield 46, 3) := by decide +kernel
theorem d_ZoneNodes_arriveAtPrimary_45 : decode b_ZoneNodes_arriveAtPrimary 45 = .ok (.aload_n 1, 1) := by decide +kernel
theorem d_ZoneNodes_arriveAtPrimary_46 : decode b_ZoneNodes_arriveAtPrimary 46 = .ok (.getfield 237, 3) := by decide +kernel
theorem d_ZoneNodes_arriveAtPrimary_49 : decode b_ZoneNodes_arriveAtPrimary 49 = .ok (.aload_n 1, 1) := by decide +kernel
theorem d_ZoneNodes_arriveAtPrimary_50 : decode b_ZoneNodes_arriveAtPrimary 50 = .ok (.getfield 240, 3) := by decide +kernel
theorem d_ZoneNodes_arriveAtPrimary_53 : decode b_ZoneNodes_arriveAtPrimary 53 = .ok (.invokevirtual 241, 3) := by decide +kernel
theorem d_ZoneNodes_arriveAtPrimary_56 : decode b_ZoneNodes_arriveAtPrimary 56 = .ok (.aload_n 0, 1) := by decide +kernel
theorem d_ZoneNodes_arriveAtPrimary_57 : decode b_ZoneNodes_arriveAtPrimary 57 = .ok (.getfield 27, 3) := by decide +kernel
theorem d_ZoneNodes_arriveAtPrimary_60 : decode b_ZoneNodes_arriveAtPrimary 60 = .ok (.aload_n 1, 1) := by decide +kernel
theorem d_ZoneNodes_arriveAtPrimary_61 : decode b_ZoneNodes_arriveAtPrimary 61 = .ok (.getfield 119, 3) := by decide +kernel
theorem d_ZoneNodes_arriveAtPrimary_64 : decode b_ZoneNodes_arriveAtPrimary 64 = .ok (.aload_n 0, 1) := by decide +kernel
theorem d_ZoneNodes_arriveAtPrimary_65 : decode b_ZoneNodes_arriveAtPrimary 65 = .ok (.getfield 46, 3) := by decide +kernel
theorem d_ZoneNodes_arriveAtPrimary_68 : decode b_ZoneNodes_arriveAtPrimary 68 = .ok (.invokevirtual 245, 3) := by decide +kernel
theorem d_ZoneNodes_arriveAtPrimary_71 : decode b_ZoneNodes_arriveAtPrimary 71 = .ok (.return_, 1) := by decide +kernel
theorem d_Secondary_ask_0 : decode b_Secondary_ask 0 = .ok (.aload_n 2, 1) := by decide +kernel
theorem d_Secondary_ask_1 : decode b_Secondary_ask 1 = .ok (.iconst 2, 1) := by decide +kernel
theorem d_Secondary_ask_2 : decode b_Secondary_ask 2 = .ok (.aload_n 0, 1) := by decide +kernel
theorem d_Secondary_ask_3 : decode b_Secondary_ask 3 = .ok (.getfield 21, 3) := by decide +kernel
theorem d_Secondary_ask_6 : decode b_Secondary_ask 6 = .ok (.iconst 0, 1) := by decide +kernel
theorem d_Secondary_ask_7 : decode b_Secondary_ask 7 = .ok (.invokevirtual 111, 3) := by decide +kernel
theorem d_Secondary_ask_10 : decode b_Secondary_ask 10 = .ok (.aload_n 0, 1) := by decide +kernel
theorem d_Secondary_ask_11 : decode b_Secondary_ask 11 = .ok (.iconst 1, 1) := by decide +kernel
theorem d_Secondary_ask_12 : decode b_Secondary_ask 12 = .ok (.putfield 48, 3) := by decide +kernel
theorem d_Secondary_ask_15 : decode b_Secondary_ask 15 = .ok (.aload_n 0, 1) := by decide +kernel
theorem d_Secondary_ask_16 : decode b_Secondary_ask 16 = .ok (.iload_n 1, 1) := by decide +kernel
theorem d_Secondary_ask_17 : decode b_Secondary_ask 17 = .ok (.putfield 51, 3) := by decide +kernel
theorem d_Secondary_ask_20 : decode b_Secondary_ask 20 = .ok (.return_, 1) := by decide +kernel
theorem d_ZoneNodes_isLater_0 : decode b_ZoneNodes_isLater 0 = .ok (.iload_n 0, 1) := by decide +kernel
theorem d_ZoneNodes_isLater_1 : decode b_ZoneNodes_isLater 1 = .ok (.iload_n 1, 1) := by decide +kernel
theorem d_ZoneNodes_isLater_2 : decode b_ZoneNodes_isLater 2 = .ok (.isub, 1) := by decide +kernel
theorem d_ZoneNodes_isLater_3 : decode b_ZoneNodes_isLater 3 = .ok (.ifCond .le 7, 3) := by decide +kernel
theorem d_ZoneNodes_isLater_6 : decode b_ZoneNodes_isLater 6 = .ok (.iconst 1, 1) := by decide +kernel
theorem d_ZoneNodes_isLater_7 : decode b_ZoneNodes_isLater 7 = .ok (.goto 4, 3) := by decide +kernel
theorem d_ZoneNodes_isLater_10 : decode b_ZoneNodes_isLater 10 = .ok (.iconst 0, 1) := by decide +kernel
theorem d_ZoneNodes_isLater_11 : decode b_ZoneNodes_isLater 11 = .ok (.ireturn, 1) := by decide +kernel
theorem d_Secondary_lacks_0 : decode b_Secondary_lacks 0 = .ok (.aload_n 0, 1) := by decide +kernel
theorem d_Secondary_lacks_1 : decode b_Secondary_lacks 1 = .ok (.getfield 68, 3) := by decide +kernel
theorem d_Secondary_lacks_4 : decode b_Secondary_lacks 4 = .ok (.ifCond .eq 14, 3) := by decide +kernel
theorem d_Secondary_lacks_7 : decode b_Secondary_lacks 7 = .ok (.iload_n 1, 1) := by decide +kernel
theorem d_Secondary_lacks_8 : decode b_Secondary_lacks 8 = .ok (.aload_n 0, 1) := by decide +kernel
theorem d_Secondary_lacks_9 : decode b_Secondary_lacks 9 = .ok (.getfield 71, 3) := by decide +kernel
theorem d_Secondary_lacks_12 : decode b_Secondary_lacks 12 = .ok (.invokestatic 115, 3) := by decide +kernel
theorem d_Secondary_lacks_15 : decode b_Secondary_lacks 15 = .ok (.ifCond .eq 7, 3) := by decide +kernel
theorem d_Secondary_lacks_18 : decode b_Secondary_lacks 18 = .ok (.iconst 1, 1) := by decide +kernel
theorem d_Secondary_lacks_19 : decode b_Secondary_lacks 19 = .ok (.goto 4, 3) := by decide +kernel
theorem d_Secondary_lacks_22 : decode b_Secondary_lacks 22 = .ok (.iconst 0, 1) := by decide +kernel
theorem d_Secondary_lacks_23 : decode b_Secondary_lacks 23 = .ok (.ireturn, 1) := by decide +kernel
theorem d_Secondary_hearNotify_0 : decode b_Secondary_hearNotify 0 = .ok (.aload_n 0, 1) := by decide +kernel
theorem d_Secondary_hearNotify_1 : decode b_Secondary_hearNotify 1 = .ok (.getfield 48, 3) := by decide +kernel
theorem d_Secondary_hearNotify_4 : decode b_Secondary_hearNotify 4 = .ok (.ifCond .ne 17, 3) := by decide +kernel
theorem d_Secondary_hearNotify_7 : decode b_Secondary_hearNotify 7 = .ok (.aload_n 0, 1) := by decide +kernel
theorem d_Secondary_hearNotify_8 : decode b_Secondary_hearNotify 8 = .ok (.iload_n 1, 1) := by decide +kernel
theorem d_Secondary_hearNotify_9 : decode b_Secondary_hearNotify 9 = .ok (.invokevirtual 61, 3) := by decide +kernel
theorem d_Secondary_hearNotify_12 : decode b_Secondary_hearNotify 12 = .ok (.ifCond .eq 9, 3) := by decide +kernel
theorem d_Secondary_hearNotify_15 : decode b_Secondary_hearNotify 15 = .ok (.aload_n 0, 1) := by decide +kernel
theorem d_Secondary_hearNotify_16 : decode b_Secondary_hearNotify 16 = .ok (.iload_n 2, 1) := by decide +kernel
theorem d_Secondary_hearNotify_17 : decode b_Secondary_hearNotify 17 = .ok (.aload_n 3, 1) := by decide +kernel
theorem d_Secondary_hearNotify_18 : decode b_Secondary_hearNotify 18 = .ok (.invokevirtual 57, 3) := by decide +kernel
theorem d_Secondary_hearNotify_21 : decode b_Secondary_hearNotify 21 = .ok (.return_, 1) := by decide +kernel
theorem d_Secondary_becomeRefreshed_0 : decode b_Secondary_becomeRefreshed 0 = .ok (.aload_n 0, 1) := by decide +kernel
theorem d_Secondary_becomeRefreshed_1 : decode b_Secondary_becomeRefreshed 1 = .ok (.iload_n 1, 1) := by decide +kernel
theorem d_Secondary_becomeRefreshed_2 : decode b_Secondary_becomeRefreshed 2 = .ok (.aload_n 0, 1) := by decide +kernel
theorem d_Secondary_becomeRefreshed_3 : decode b_Secondary_becomeRefreshed 3 = .ok (.getfield 25, 3) := by decide +kernel
theorem d_Secondary_becomeRefreshed_6 : decode b_Secondary_becomeRefreshed 6 = .ok (.iadd, 1) := by decide +kernel
theorem d_Secondary_becomeRefreshed_7 : decode b_Secondary_becomeRefreshed 7 = .ok (.invokevirtual 42, 3) := by decide +kernel
theorem d_Secondary_becomeRefreshed_10 : decode b_Secondary_becomeRefreshed 10 = .ok (.aload_n 0, 1) := by decide +kernel
theorem d_Secondary_becomeRefreshed_11 : decode b_Secondary_becomeRefreshed 11 = .ok (.iload_n 1, 1) := by decide +kernel
theorem d_Secondary_becomeRefreshed_12 : decode b_Secondary_becomeRefreshed 12 = .ok (.aload_n 0, 1) := by decide +kernel
theorem d_Secondary_becomeRefreshed_13 : decode b_Secondary_becomeRefreshed 13 = .ok (.getfield 31, 3) := by decide +kernel
theorem d_Secondary_becomeRefreshed_16 : decode b_Secondary_becomeRefreshed 16 = .ok (.iadd, 1) := by decide +kernel
theorem d_Secondary_becomeRefreshed_17 : decode b_Secondary_becomeRefreshed 17 = .ok (.putfield 45, 3) := by decide +kernel
theorem d_Secondary_becomeRefreshed_20 : decode b_Secondary_becomeRefreshed 20 = .ok (.return_, 1) := by decide +kernel
theorem d_Wire_sendFetch_0 : decode b_Wire_sendFetch 0 = .ok (.aload_n 0, 1) := by decide +kernel
theorem d_Wire_sendFetch_1 : decode b_Wire_sendFetch 1 = .ok (.iconst 4, 1) := by decide +kernel
theorem d_Wire_sendFetch_2 : decode b_Wire_sendFetch 2 = .ok (.iload_n 1, 1) := by decide +kernel
theorem d_Wire_sendFetch_3 : decode b_Wire_sendFetch 3 = .ok (.iload_n 3, 1) := by decide +kernel
theorem d_Wire_sendFetch_4 : decode b_Wire_sendFetch 4 = .ok (.invokevirtual 44, 3) := by decide +kernel
theorem d_Wire_sendFetch_7 : decode b_Wire_sendFetch 7 = .ok (.astore 4, 2) := by decide +kernel
theorem d_Wire_sendFetch_9 : decode b_Wire_sendFetch 9 = .ok (.aload 4, 2) := by decide +kernel
theorem d_Wire_sendFetch_11 : decode b_Wire_sendFetch 11 = .ok (.ifnull 9, 3) := by decide +kernel
theorem d_Wire_sendFetch_14 : decode b_Wire_sendFetch 14 = .ok (.aload 4, 2) := by decide +kernel
theorem d_Wire_sendFetch_16 : decode b_Wire_sendFetch 16 = .ok (.iload_n 2, 1) := by decide +kernel
theorem d_Wire_sendFetch_17 : decode b_Wire_sendFetch 17 = .ok (.putfield 48, 3) := by decide +kernel
theorem d_Wire_sendFetch_20 : decode b_Wire_sendFetch 20 = .ok (.return_, 1) := by decide +kernel
theorem d_Secondary_hearTell_0 : decode b_Secondary_hearTell 0 = .ok (.aload_n 0, 1) := by decide +kernel
theorem d_Secondary_hearTell_1 : decode b_Secondary_hearTell 1 = .ok (.getfield 48, 3) := by decide +kernel
theorem d_Secondary_hearTell_4 : decode b_Secondary_hearTell 4 = .ok (.iconst 1, 1) := by decide +kernel
theorem d_Secondary_hearTell_5 : decode b_Secondary_hearTell 5 = .ok (.if_icmp .eq 4, 3) := by decide +kernel
theorem d_Secondary_hearTell_8 : decode b_Secondary_hearTell 8 = .ok (.return_, 1) := by decide +kernel
theorem d_Secondary_hearTell_9 : decode b_Secondary_hearTell 9 = .ok (.aload_n 0, 1) := by decide +kernel
theorem d_Secondary_hearTell_10 : decode b_Secondary_hearTell 10 = .ok (.iload_n 1, 1) := by decide +kernel
theorem d_Secondary_hearTell_11 : decode b_Secondary_hearTell 11 = .ok (.invokevirtual 61, 3) := by decide +kernel
theorem d_Secondary_hearTell_14 : decode b_Secondary_hearTell 14 = .ok (.ifCond .ne 11, 3) := by decide +kernel
theorem d_Secondary_hearTell_17 : decode b_Secondary_hearTell 17 = .ok (.aload_n 0, 1) := by decide +kernel
theorem d_Secondary_hearTell_18 : decode b_Secondary_hearTell 18 = .ok (.iload_n 3, 1) := by decide +kernel
theorem d_Secondary_hearTell_19 : decode b_Secondary_hearTell 19 = .ok (.invokevirtual 65, 3) := by decide +kernel
theorem d_Secondary_hearTell_22 : decode b_Secondary_hearTell 22 = .ok (.goto 42, 3) := by decide +kernel
theorem d_Secondary_hearTell_25 : decode b_Secondary_hearTell 25 = .ok (.iload_n 2, 1) := by decide +kernel
theorem d_Secondary_hearTell_26 : decode b_Secondary_hearTell 26 = .ok (.ifCond .eq 28, 3) := by decide +kernel
theorem d_Secondary_hearTell_29 : decode b_Secondary_hearTell 29 = .ok (.aload 4, 2) := by decide +kernel
theorem d_Secondary_hearTell_31 : decode b_Secondary_hearTell 31 = .ok (.aload_n 0, 1) := by decide +kernel
theorem d_Secondary_hearTell_32 : decode b_Secondary_hearTell 32 = .ok (.getfield 21, 3) := by decide +kernel
theorem d_Secondary_hearTell_35 : decode b_Secondary_hearTell 35 = .ok (.aload_n 0, 1) := by decide +kernel
theorem d_Secondary_hearTell_36 : decode b_Secondary_hearTell 36 = .ok (.getfield 68, 3) := by decide +kernel
theorem d_Secondary_hearTell_39 : decode b_Secondary_hearTell 39 = .ok (.aload_n 0, 1) := by decide +kernel
theorem d_Secondary_hearTell_40 : decode b_Secondary_hearTell 40 = .ok (.getfield 71, 3) := by decide +kernel
theorem d_Secondary_hearTell_43 : decode b_Secondary_hearTell 43 = .ok (.invokevirtual 74, 3) := by decide +kernel
theorem d_Secondary_hearTell_46 : decode b_Secondary_hearTell 46 = .ok (.aload_n 0, 1) := by decide +kernel
theorem d_Secondary_hearTell_47 : decode b_Secondary_hearTell 47 = .ok (.iconst 2, 1) := by decide +kernel
theorem d_Secondary_hearTell_48 : decode b_Secondary_hearTell 48 = .ok (.putfield 48, 3) := by decide +kernel
theorem d_Secondary_hearTell_51 : decode b_Secondary_hearTell 51 = .ok (.goto 13, 3) := by decide +kernel
theorem d_Secondary_hearTell_54 : decode b_Secondary_hearTell 54 = .ok (.aload_n 0, 1) := by decide +kernel
theorem d_Secondary_hearTell_55 : decode b_Secondary_hearTell 55 = .ok (.iload_n 3, 1) := by decide +kernel
theorem d_Secondary_hearTell_56 : decode b_Secondary_hearTell 56 = .ok (.aload_n 0, 1) := by decide +kernel
theorem d_Secondary_hearTell_57 : decode b_Secondary_hearTell 57 = .ok (.getfield 28, 3) := by decide +kernel
theorem d_Secondary_hearTell_60 : decode b_Secondary_hearTell 60 = .ok (.iadd, 1) := by decide +kernel
theorem d_Secondary_hearTell_61 : decode b_Secondary_hearTell 61 = .ok (.invokevirtual 42, 3) := by decide +kernel
theorem d_Secondary_hearTell_64 : decode b_Secondary_hearTell 64 = .ok (.return_, 1) := by decide +kernel
theorem d_Secondary_loseStream_0 : decode b_Secondary_loseStream 0 = .ok (.aload_n 0, 1) := by decide +kernel
theorem d_Secondary_loseStream_1 : decode b_Secondary_loseStream 1 = .ok (.getfield 48, 3) := by decide +kernel
theorem d_Secondary_loseStream_4 : decode b_Secondary_loseStream 4 = .ok (.iconst 2, 1) := by decide +kernel
theorem d_Secondary_loseStream_5 : decode b_Secondary_loseStream 5 = .ok (.if_icmp .ne 13, 3) := by decide +kernel
theorem d_Secondary_loseStream_8 : decode b_Secondary_loseStream 8 = .ok (.aload_n 0, 1) := by decide +kernel
theorem d_Secondary_loseStream_9 : decode b_Secondary_loseStream 9 = .ok (.iload_n 1, 1) := by decide +kernel
theorem d_Secondary_loseStream_10 : decode b_Secondary_loseStream 10 = .ok (.aload_n 0, 1) := by decide +kernel
theorem d_Secondary_loseStream_11 : decode b_Secondary_loseStream 11 = .ok (.getfield 28, 3) := by decide +kernel
theorem d_Secondary_loseStream_14 : decode b_Secondary_loseStream 14 = .ok (.iadd, 1) := by decide +kernel
theorem d_Secondary_loseStream_15 : decode b_Secondary_loseStream 15 = .ok (.invokevirtual 42, 3) := by decide +kernel
theorem d_Secondary_loseStream_18 : decode b_Secondary_loseStream 18 = .ok (.return_, 1) := by decide +kernel
theorem d_Records_copyFrom_0 : decode b_Records_copyFrom 0 = .ok (.iconst 0, 1) := by decide +kernel
theorem d_Records_copyFrom_1 : decode b_Records_copyFrom 1 = .ok (.istore_n 2, 1) := by decide +kernel
theorem d_Records_copyFrom_2 : decode b_Records_copyFrom 2 = .ok (.iload_n 2, 1) := by decide +kernel
theorem d_Records_copyFrom_3 : decode b_Records_copyFrom 3 = .ok (.aload_n 0, 1) := by decide +kernel
theorem d_Records_copyFrom_4 : decode b_Records_copyFrom 4 = .ok (.getfield 9, 3) := by decide +kernel
theorem d_Records_copyFrom_7 : decode b_Records_copyFrom 7 = .ok (.arraylength, 1) := by decide +kernel
theorem d_Records_copyFrom_8 : decode b_Records_copyFrom 8 = .ok (.if_icmp .ge 21, 3) := by decide +kernel
theorem d_Records_copyFrom_11 : decode b_Records_copyFrom 11 = .ok (.aload_n 0, 1) := by decide +kernel
theorem d_Records_copyFrom_12 : decode b_Records_copyFrom 12 = .ok (.getfield 9, 3) := by decide +kernel
theorem d_Records_copyFrom_15 : decode b_Records_copyFrom 15 = .ok (.iload_n 2, 1) := by decide +kernel
theorem d_Records_copyFrom_16 : decode b_Records_copyFrom 16 = .ok (.aload_n 1, 1) := by decide +kernel
theorem d_Records_copyFrom_17 : decode b_Records_copyFrom 17 = .ok (.getfield 9, 3) := by decide +kernel
theorem d_Records_copyFrom_20 : decode b_Records_copyFrom 20 = .ok (.iload_n 2, 1) := by decide +kernel
theorem d_Records_copyFrom_21 : decode b_Records_copyFrom 21 = .ok (.iaload, 1) := by decide +kernel
theorem d_Records_copyFrom_22 : decode b_Records_copyFrom 22 = .ok (.iastore, 1) := by decide +kernel
theorem d_Records_copyFrom_23 : decode b_Records_copyFrom 23 = .ok (.iinc 2 1, 3) := by decide +kernel
theorem d_Records_copyFrom_26 : decode b_Records_copyFrom 26 = .ok (.goto (-24), 3) := by decide +kernel
theorem d_Records_copyFrom_29 : decode b_Records_copyFrom 29 = .ok (.return_, 1) := by decide +kernel
theorem d_ZoneNodes_formOf_0 : decode b_ZoneNodes_formOf 0 = .ok (.iload_n 0, 1) := by decide +kernel
theorem d_ZoneNodes_formOf_1 : decode b_ZoneNodes_formOf 1 = .ok (.sipush 1000, 3) := by decide +kernel
theorem d_ZoneNodes_formOf_4 : decode b_ZoneNodes_formOf 4 = .ok (.idiv, 1) := by decide +kernel
theorem d_ZoneNodes_formOf_5 : decode b_ZoneNodes_formOf 5 = .ok (.ireturn, 1) := by decide +kernel
theorem d_ZoneNodes_nameOf_0 : decode b_ZoneNodes_nameOf 0 = .ok (.iload_n 0, 1) := by decide +kernel
theorem d_ZoneNodes_nameOf_1 : decode b_ZoneNodes_nameOf 1 = .ok (.bipush 100, 2) := by decide +kernel
theorem d_ZoneNodes_nameOf_3 : decode b_ZoneNodes_nameOf 3 = .ok (.idiv, 1) := by decide +kernel
theorem d_ZoneNodes_nameOf_4 : decode b_ZoneNodes_nameOf 4 = .ok (.bipush 10, 2) := by decide +kernel
theorem d_ZoneNodes_nameOf_6 : decode b_ZoneNodes_nameOf 6 = .ok (.irem, 1) := by decide +kernel
theorem d_ZoneNodes_nameOf_7 : decode b_ZoneNodes_nameOf 7 = .ok (.ireturn, 1) := by decide +kernel
theorem d_ZoneNodes_typeOf_0 : decode b_ZoneNodes_typeOf 0 = .ok (.iload_n 0, 1) := by decide +kernel
theorem d_ZoneNodes_typeOf_1 : decode b_ZoneNodes_typeOf 1 = .ok (.bipush 10, 2) := by decide +kernel
theorem d_ZoneNodes_typeOf_3 : decode b_ZoneNodes_typeOf 3 = .ok (.idiv, 1) := by decide +kernel
theorem d_ZoneNodes_typeOf_4 : decode b_ZoneNodes_typeOf 4 = .ok (.bipush 10, 2) := by decide +kernel
theorem d_ZoneNodes_typeOf_6 : decode b_ZoneNodes_typeOf 6 = .ok (.irem, 1) := by decide +kernel
theorem d_ZoneNodes_typeOf_7 : decode b_ZoneNodes_typeOf 7 = .ok (.ireturn, 1) := by decide +kernel
theorem d_ZoneNodes_valueOf_0 : decode b_ZoneNodes_valueOf 0 = .ok (.iload_n 0, 1) := by decide +kernel
theorem d_ZoneNodes_valueOf_1 : decode b_ZoneNodes_valueOf 1 = .ok (.bipush 10, 2) := by decide +kernel
theorem d_ZoneNodes_valueOf_3 : decode b_ZoneNodes_valueOf 3 = .ok (.irem, 1) := by decide +kernel
theorem d_ZoneNodes_valueOf_4 : decode b_ZoneNodes_valueOf 4 = .ok (.ireturn, 1) := by decide +kernel
theorem d_Records_takeAway_0 : decode b_Records_takeAway 0 = .ok (.aload_n 0, 1) := by decide +kernel
theorem d_Records_takeAway_1 : decode b_Records_takeAway 1 = .ok (.iload_n 1, 1) := by decide +kernel
theorem d_Records_takeAway_2 : decode b_Records_takeAway 2 = .ok (.iload_n 2, 1) := by decide +kernel
theorem d_Records_takeAway_3 : decode b_Records_takeAway 3 = .ok (.aload_n 0, 1) := by decide +kernel
theorem d_Records_takeAway_4 : decode b_Records_takeAway 4 = .ok (.iload_n 1, 1) := by decide +kernel
theorem d_Records_takeAway_5 : decode b_Records_takeAway 5 = .ok (.iload_n 2, 1) := by decide +kernel
theorem d_Records_takeAway_6 : decode b_Records_takeAway 6 = .ok (.invokevirtual 15, 3) := by decide +kernel
theorem d_Records_takeAway_9 : decode b_Records_takeAway 9 = .ok (.iconst 1, 1) := by decide +kernel
theorem d_Records_takeAway_10 : decode b_Records_takeAway 10 = .ok (.iload_n 3, 1) := by decide +kernel
theorem d_Records_takeAway_11 : decode b_Records_takeAway 11 = .ok (.ishl, 1) := by decide +kernel
theorem d_Records_takeAway_12 : decode b_Records_takeAway 12 = .ok (.iconst (-1), 1) := by decide +kernel
theorem d_Records_takeAway_13 : decode b_Records_takeAway 13 = .ok (.ixor, 1) := by decide +kernel
theorem d_Records_takeAway_14 : decode b_Records_takeAway 14 = .ok (.iand, 1) := by decide +kernel
theorem d_Records_takeAway_15 : decode b_Records_takeAway 15 = .ok (.invokevirtual 33, 3) := by decide +kernel
theorem d_Records_takeAway_18 : decode b_Records_takeAway 18 = .ok (.return_, 1) := by decide +kernel
theorem d_Records_takeItem_0 : decode b_Records_takeItem 0 = .ok (.iload_n 1, 1) := by decide +kernel
theorem d_Records_takeItem_1 : decode b_Records_takeItem 1 = .ok (.invokestatic 46, 3) := by decide +kernel
theorem d_Records_takeItem_4 : decode b_Records_takeItem 4 = .ok (.iconst 1, 1) := by decide +kernel
theorem d_Records_takeItem_5 : decode b_Records_takeItem 5 = .ok (.if_icmp .ne 22, 3) := by decide +kernel
theorem d_Records_takeItem_8 : decode b_Records_takeItem 8 = .ok (.aload_n 0, 1) := by decide +kernel
theorem d_Records_takeItem_9 : decode b_Records_takeItem 9 = .ok (.iload_n 1, 1) := by decide +kernel
theorem d_Records_takeItem_10 : decode b_Records_takeItem 10 = .ok (.invokestatic 37, 3) := by decide +kernel
theorem d_Records_takeItem_13 : decode b_Records_takeItem 13 = .ok (.iload_n 1, 1) := by decide +kernel
theorem d_Records_takeItem_14 : decode b_Records_takeItem 14 = .ok (.invokestatic 40, 3) := by decide +kernel
theorem d_Records_takeItem_17 : decode b_Records_takeItem 17 = .ok (.iload_n 1, 1) := by decide +kernel
theorem d_Records_takeItem_18 : decode b_Records_takeItem 18 = .ok (.invokestatic 43, 3) := by decide +kernel
theorem d_Records_takeItem_21 : decode b_Records_takeItem 21 = .ok (.invokevirtual 62, 3) := by decide +kernel
theorem d_Records_takeItem_24 : decode b_Records_takeItem 24 = .ok (.goto 19, 3) := by decide +kernel
theorem d_Records_takeItem_27 : decode b_Records_takeItem 27 = .ok (.aload_n 0, 1) := by decide +kernel
theorem d_Records_takeItem_28 : decode b_Records_takeItem 28 = .ok (.iload_n 1, 1) := by decide +kernel
theorem d_Records_takeItem_29 : decode b_Records_takeItem 29 = .ok (.invokestatic 37, 3) := by decide +kernel
theorem d_Records_takeItem_32 : decode b_Records_takeItem 32 = .ok (.iload_n 1, 1) := by decide +kernel
theorem d_Records_takeItem_33 : decode b_Records_takeItem 33 = .ok (.invokestatic 40, 3) := by decide +kernel
theorem d_Records_takeItem_36 : decode b_Records_takeItem 36 = .ok (.iload_n 1, 1) := by decide +kernel
theorem d_Records_takeItem_37 : decode b_Records_takeItem 37 = .ok (.invokestatic 43, 3) := by decide +kernel
theorem d_Records_takeItem_40 : decode b_Records_takeItem 40 = .ok (.invokevirtual 59, 3) := by decide +kernel
theorem d_Records_takeItem_43 : decode b_Records_takeItem 43 = .ok (.return_, 1) := by decide +kernel
theorem d_Records_empty_0 : decode b_Records_empty 0 = .ok (.iconst 0, 1) := by decide +kernel
theorem d_Records_empty_1 : decode b_Records_empty 1 = .ok (.istore_n 1, 1) := by decide +kernel
theorem d_Records_empty_2 : decode b_Records_empty 2 = .ok (.iload_n 1, 1) := by decide +kernel
theorem d_Records_empty_3 : decode b_Records_empty 3 = .ok (.aload_n 0, 1) := by decide +kernel
theorem d_Records_empty_4 : decode b_Records_empty 4 = .ok (.getfield 9, 3) := by decide +kernel
theorem d_Records_empty_7 : decode b_Records_empty 7 = .ok (.arraylength, 1) := by decide +kernel
theorem d_Records_empty_8 : decode b_Records_empty 8 = .ok (.if_icmp .ge 16, 3) := by decide +kernel
theorem d_Records_empty_11 : decode b_Records_empty 11 = .ok (.aload_n 0, 1) := by decide +kernel
theorem d_Records_empty_12 : decode b_Records_empty 12 = .ok (.getfield 9, 3) := by decide +kernel
theorem d_Records_empty_15 : decode b_Records_empty 15 = .ok (.iload_n 1, 1) := by decide +kernel
theorem d_Records_empty_16 : decode b_Records_empty 16 = .ok (.iconst 0, 1) := by decide +kernel
theorem d_Records_empty_17 : decode b_Records_empty 17 = .ok (.iastore, 1) := by decide +kernel
theorem d_Records_empty_18 : decode b_Records_empty 18 = .ok (.iinc 1 1, 3) := by decide +kernel
theorem d_Records_empty_21 : decode b_Records_empty 21 = .ok (.goto (-19), 3) := by decide +kernel
theorem d_Records_empty_24 : decode b_Records_empty 24 = .ok (.return_, 1) := by decide +kernel
theorem d_Secondary_beginIncoming_0 : decode b_Secondary_beginIncoming 0 = .ok (.iload_n 1, 1) := by decide +kernel
theorem d_Secondary_beginIncoming_1 : decode b_Secondary_beginIncoming 1 = .ok (.ifCond .eq 13, 3) := by decide +kernel
theorem d_Secondary_beginIncoming_4 : decode b_Secondary_beginIncoming 4 = .ok (.aload_n 0, 1) := by decide +kernel
theorem d_Secondary_beginIncoming_5 : decode b_Secondary_beginIncoming 5 = .ok (.getfield 18, 3) := by decide +kernel
theorem d_Secondary_beginIncoming_8 : decode b_Secondary_beginIncoming 8 = .ok (.invokevirtual 108, 3) := by decide +kernel
theorem d_Secondary_beginIncoming_11 : decode b_Secondary_beginIncoming 11 = .ok (.goto 14, 3) := by decide +kernel
theorem d_Secondary_beginIncoming_14 : decode b_Secondary_beginIncoming 14 = .ok (.aload_n 0, 1) := by decide +kernel
theorem d_Secondary_beginIncoming_15 : decode b_Secondary_beginIncoming 15 = .ok (.getfield 18, 3) := by decide +kernel
theorem d_Secondary_beginIncoming_18 : decode b_Secondary_beginIncoming 18 = .ok (.aload_n 0, 1) := by decide +kernel
theorem d_Secondary_beginIncoming_19 : decode b_Secondary_beginIncoming 19 = .ok (.getfield 12, 3) := by decide +kernel
theorem d_Secondary_beginIncoming_22 : decode b_Secondary_beginIncoming 22 = .ok (.invokevirtual 103, 3) := by decide +kernel
theorem d_Secondary_beginIncoming_25 : decode b_Secondary_beginIncoming 25 = .ok (.return_, 1) := by decide +kernel
theorem d_Secondary_takePart_0 : decode b_Secondary_takePart 0 = .ok (.aload_n 1, 1) := by decide +kernel
theorem d_Secondary_takePart_1 : decode b_Secondary_takePart 1 = .ok (.getfield 80, 3) := by decide +kernel
theorem d_Secondary_takePart_4 : decode b_Secondary_takePart 4 = .ok (.ifCond .ne 11, 3) := by decide +kernel
theorem d_Secondary_takePart_7 : decode b_Secondary_takePart 7 = .ok (.aload_n 0, 1) := by decide +kernel
theorem d_Secondary_takePart_8 : decode b_Secondary_takePart 8 = .ok (.aload_n 1, 1) := by decide +kernel
theorem d_Secondary_takePart_9 : decode b_Secondary_takePart 9 = .ok (.getfield 83, 3) := by decide +kernel
theorem d_Secondary_takePart_12 : decode b_Secondary_takePart 12 = .ok (.invokevirtual 86, 3) := by decide +kernel
theorem d_Secondary_takePart_15 : decode b_Secondary_takePart 15 = .ok (.iconst 0, 1) := by decide +kernel
theorem d_Secondary_takePart_16 : decode b_Secondary_takePart 16 = .ok (.istore_n 3, 1) := by decide +kernel
theorem d_Secondary_takePart_17 : decode b_Secondary_takePart 17 = .ok (.iload_n 3, 1) := by decide +kernel
theorem d_Secondary_takePart_18 : decode b_Secondary_takePart 18 = .ok (.aload_n 1, 1) := by decide +kernel
theorem d_Secondary_takePart_19 : decode b_Secondary_takePart 19 = .ok (.getfield 90, 3) := by decide +kernel
theorem d_Secondary_takePart_22 : decode b_Secondary_takePart 22 = .ok (.if_icmp .ge 22, 3) := by decide +kernel
theorem d_Secondary_takePart_25 : decode b_Secondary_takePart 25 = .ok (.aload_n 0, 1) := by decide +kernel
theorem d_Secondary_takePart_26 : decode b_Secondary_takePart 26 = .ok (.getfield 18, 3) := by decide +kernel
theorem d_Secondary_takePart_29 : decode b_Secondary_takePart 29 = .ok (.aload_n 1, 1) := by decide +kernel
theorem d_Secondary_takePart_30 : decode b_Secondary_takePart 30 = .ok (.getfield 93, 3) := by decide +kernel
theorem d_Secondary_takePart_33 : decode b_Secondary_takePart 33 = .ok (.iload_n 3, 1) := by decide +kernel
theorem d_Secondary_takePart_34 : decode b_Secondary_takePart 34 = .ok (.iaload, 1) := by decide +kernel
theorem d_Secondary_takePart_35 : decode b_Secondary_takePart 35 = .ok (.invokevirtual 97, 3) := by decide +kernel
theorem d_Secondary_takePart_38 : decode b_Secondary_takePart 38 = .ok (.iinc 3 1, 3) := by decide +kernel
theorem d_Secondary_takePart_41 : decode b_Secondary_takePart 41 = .ok (.goto (-24), 3) := by decide +kernel
theorem d_Secondary_takePart_44 : decode b_Secondary_takePart 44 = .ok (.aload_n 1, 1) := by decide +kernel
theorem d_Secondary_takePart_45 : decode b_Secondary_takePart 45 = .ok (.getfield 100, 3) := by decide +kernel
theorem d_Secondary_takePart_48 : decode b_Secondary_takePart 48 = .ok (.ifCond .eq 32, 3) := by decide +kernel
theorem d_Secondary_takePart_51 : decode b_Secondary_takePart 51 = .ok (.aload_n 0, 1) := by decide +kernel
theorem d_Secondary_takePart_52 : decode b_Secondary_takePart 52 = .ok (.getfield 12, 3) := by decide +kernel
theorem d_Secondary_takePart_55 : decode b_Secondary_takePart 55 = .ok (.aload_n 0, 1) := by decide +kernel
theorem d_Secondary_takePart_56 : decode b_Secondary_takePart 56 = .ok (.getfield 18, 3) := by decide +kernel
theorem d_Secondary_takePart_59 : decode b_Secondary_takePart 59 = .ok (.invokevirtual 103, 3) := by decide +kernel
theorem d_Secondary_takePart_62 : decode b_Secondary_takePart 62 = .ok (.aload_n 0, 1) := by decide +kernel
theorem d_Secondary_takePart_63 : decode b_Secondary_takePart 63 = .ok (.aload_n 1, 1) := by decide +kernel
theorem d_Secondary_takePart_64 : decode b_Secondary_takePart 64 = .ok (.getfield 107, 3) := by decide +kernel
theorem d_Secondary_takePart_67 : decode b_Secondary_takePart 67 = .ok (.putfield 71, 3) := by decide +kernel
theorem d_Secondary_takePart_70 : decode b_Secondary_takePart 70 = .ok (.aload_n 0, 1) := by decide +kernel
theorem d_Secondary_takePart_71 : decode b_Secondary_takePart 71 = .ok (.iconst 1, 1) := by decide +kernel
theorem d_Secondary_takePart_72 : decode b_Secondary_takePart 72 = .ok (.putfield 68, 3) := by decide +kernel
theorem d_Secondary_takePart_75 : decode b_Secondary_takePart 75 = .ok (.aload_n 0, 1) := by decide +kernel
theorem d_Secondary_takePart_76 : decode b_Secondary_takePart 76 = .ok (.iload_n 2, 1) := by decide +kernel
theorem d_Secondary_takePart_77 : decode b_Secondary_takePart 77 = .ok (.invokevirtual 65, 3) := by decide +kernel
theorem d_Secondary_takePart_80 : decode b_Secondary_takePart 80 = .ok (.return_, 1) := by decide +kernel
theorem d_Wire_takeOut_0 : decode b_Wire_takeOut 0 = .ok (.aload_n 0, 1) := by decide +kernel
theorem d_Wire_takeOut_1 : decode b_Wire_takeOut 1 = .ok (.getfield 11, 3) := by decide +kernel
theorem d_Wire_takeOut_4 : decode b_Wire_takeOut 4 = .ok (.iload_n 1, 1) := by decide +kernel
theorem d_Wire_takeOut_5 : decode b_Wire_takeOut 5 = .ok (.aaload, 1) := by decide +kernel
theorem d_Wire_takeOut_6 : decode b_Wire_takeOut 6 = .ok (.astore_n 2, 1) := by decide +kernel
theorem d_Wire_takeOut_7 : decode b_Wire_takeOut 7 = .ok (.iload_n 1, 1) := by decide +kernel
theorem d_Wire_takeOut_8 : decode b_Wire_takeOut 8 = .ok (.iconst 1, 1) := by decide +kernel
theorem d_Wire_takeOut_9 : decode b_Wire_takeOut 9 = .ok (.iadd, 1) := by decide +kernel
theorem d_Wire_takeOut_10 : decode b_Wire_takeOut 10 = .ok (.istore_n 3, 1) := by decide +kernel
theorem d_Wire_takeOut_11 : decode b_Wire_takeOut 11 = .ok (.iload_n 3, 1) := by decide +kernel
theorem d_Wire_takeOut_12 : decode b_Wire_takeOut 12 = .ok (.aload_n 0, 1) := by decide +kernel
theorem d_Wire_takeOut_13 : decode b_Wire_takeOut 13 = .ok (.getfield 18, 3) := by decide +kernel
theorem d_Wire_takeOut_16 : decode b_Wire_takeOut 16 = .ok (.if_icmp .ge 23, 3) := by decide +kernel
theorem d_Wire_takeOut_19 : decode b_Wire_takeOut 19 = .ok (.aload_n 0, 1) := by decide +kernel
theorem d_Wire_takeOut_20 : decode b_Wire_takeOut 20 = .ok (.getfield 11, 3) := by decide +kernel
theorem d_Wire_takeOut_23 : decode b_Wire_takeOut 23 = .ok (.iload_n 3, 1) := by decide +kernel
theorem d_Wire_takeOut_24 : decode b_Wire_takeOut 24 = .ok (.iconst 1, 1) := by decide +kernel
theorem d_Wire_takeOut_25 : decode b_Wire_takeOut 25 = .ok (.isub, 1) := by decide +kernel
theorem d_Wire_takeOut_26 : decode b_Wire_takeOut 26 = .ok (.aload_n 0, 1) := by decide +kernel
theorem d_Wire_takeOut_27 : decode b_Wire_takeOut 27 = .ok (.getfield 11, 3) := by decide +kernel
theorem d_Wire_takeOut_30 : decode b_Wire_takeOut 30 = .ok (.iload_n 3, 1) := by decide +kernel
theorem d_Wire_takeOut_31 : decode b_Wire_takeOut 31 = .ok (.aaload, 1) := by decide +kernel
theorem d_Wire_takeOut_32 : decode b_Wire_takeOut 32 = .ok (.aastore, 1) := by decide +kernel
theorem d_Wire_takeOut_33 : decode b_Wire_takeOut 33 = .ok (.iinc 3 1, 3) := by decide +kernel
theorem d_Wire_takeOut_36 : decode b_Wire_takeOut 36 = .ok (.goto (-25), 3) := by decide +kernel
theorem d_Wire_takeOut_39 : decode b_Wire_takeOut 39 = .ok (.aload_n 0, 1) := by decide +kernel
theorem d_Wire_takeOut_40 : decode b_Wire_takeOut 40 = .ok (.dup, 1) := by decide +kernel
theorem d_Wire_takeOut_41 : decode b_Wire_takeOut 41 = .ok (.getfield 18, 3) := by decide +kernel
theorem d_Wire_takeOut_44 : decode b_Wire_takeOut 44 = .ok (.iconst 1, 1) := by decide +kernel
theorem d_Wire_takeOut_45 : decode b_Wire_takeOut 45 = .ok (.isub, 1) := by decide +kernel
theorem d_Wire_takeOut_46 : decode b_Wire_takeOut 46 = .ok (.putfield 18, 3) := by decide +kernel
theorem d_Wire_takeOut_49 : decode b_Wire_takeOut 49 = .ok (.aload_n 0, 1) := by decide +kernel
theorem d_Wire_takeOut_50 : decode b_Wire_takeOut 50 = .ok (.getfield 11, 3) := by decide +kernel
theorem d_Wire_takeOut_53 : decode b_Wire_takeOut 53 = .ok (.aload_n 0, 1) := by decide +kernel
theorem d_Wire_takeOut_54 : decode b_Wire_takeOut 54 = .ok (.getfield 18, 3) := by decide +kernel
theorem d_Wire_takeOut_57 : decode b_Wire_takeOut 57 = .ok (.aload_n 2, 1) := by decide +kernel
theorem d_Wire_takeOut_58 : decode b_Wire_takeOut 58 = .ok (.aastore, 1) := by decide +kernel
theorem d_Wire_takeOut_59 : decode b_Wire_takeOut 59 = .ok (.return_, 1) := by decide +kernel
theorem d_Wire_endStreamOf_0 : decode b_Wire_endStreamOf 0 = .ok (.aload_n 0, 1) := by decide +kernel
theorem d_Wire_endStreamOf_1 : decode b_Wire_endStreamOf 1 = .ok (.getfield 18, 3) := by decide +kernel
theorem d_Wire_endStreamOf_4 : decode b_Wire_endStreamOf 4 = .ok (.iconst 1, 1) := by decide +kernel
theorem d_Wire_endStreamOf_5 : decode b_Wire_endStreamOf 5 = .ok (.isub, 1) := by decide +kernel
theorem d_Wire_endStreamOf_6 : decode b_Wire_endStreamOf 6 = .ok (.istore_n 2, 1) := by decide +kernel
theorem d_Wire_endStreamOf_7 : decode b_Wire_endStreamOf 7 = .ok (.iload_n 2, 1) := by decide +kernel
theorem d_Wire_endStreamOf_8 : decode b_Wire_endStreamOf 8 = .ok (.ifCond .lt 39, 3) := by decide +kernel
theorem d_Wire_endStreamOf_11 : decode b_Wire_endStreamOf 11 = .ok (.aload_n 0, 1) := by decide +kernel
theorem d_Wire_endStreamOf_12 : decode b_Wire_endStreamOf 12 = .ok (.getfield 11, 3) := by decide +kernel
theorem d_Wire_endStreamOf_15 : decode b_Wire_endStreamOf 15 = .ok (.iload_n 2, 1) := by decide +kernel
theorem d_Wire_endStreamOf_16 : decode b_Wire_endStreamOf 16 = .ok (.aaload, 1) := by decide +kernel
theorem d_Wire_endStreamOf_17 : decode b_Wire_endStreamOf 17 = .ok (.invokevirtual 32, 3) := by decide +kernel
theorem d_Wire_endStreamOf_20 : decode b_Wire_endStreamOf 20 = .ok (.ifCond .eq 21, 3) := by decide +kernel
theorem d_Wire_endStreamOf_23 : decode b_Wire_endStreamOf 23 = .ok (.aload_n 0, 1) := by decide +kernel
theorem d_Wire_endStreamOf_24 : decode b_Wire_endStreamOf 24 = .ok (.getfield 11, 3) := by decide +kernel
theorem d_Wire_endStreamOf_27 : decode b_Wire_endStreamOf 27 = .ok (.iload_n 2, 1) := by decide +kernel
theorem d_Wire_endStreamOf_28 : decode b_Wire_endStreamOf 28 = .ok (.aaload, 1) := by decide +kernel
theorem d_Wire_endStreamOf_29 : decode b_Wire_endStreamOf 29 = .ok (.getfield 29, 3) := by decide +kernel
theorem d_Wire_endStreamOf_32 : decode b_Wire_endStreamOf 32 = .ok (.iload_n 1, 1) := by decide +kernel
theorem d_Wire_endStreamOf_33 : decode b_Wire_endStreamOf 33 = .ok (.if_icmp .ne 8, 3) := by decide +kernel
theorem d_Wire_endStreamOf_36 : decode b_Wire_endStreamOf 36 = .ok (.aload_n 0, 1) := by decide +kernel
theorem d_Wire_endStreamOf_37 : decode b_Wire_endStreamOf 37 = .ok (.iload_n 2, 1) := by decide +kernel
theorem d_Wire_endStreamOf_38 : decode b_Wire_endStreamOf 38 = .ok (.invokevirtual 36, 3) := by decide +kernel
theorem d_Wire_endStreamOf_41 : decode b_Wire_endStreamOf 41 = .ok (.iinc 2 (-1), 3) := by decide +kernel
theorem d_Wire_endStreamOf_44 : decode b_Wire_endStreamOf 44 = .ok (.goto (-37), 3) := by decide +kernel
theorem d_Wire_endStreamOf_47 : decode b_Wire_endStreamOf 47 = .ok (.return_, 1) := by decide +kernel
theorem d_ZoneNodes_arriveAtSecondary_0 : decode b_ZoneNodes_arriveAtSecondary 0 = .ok (.aload_n 2, 1) := by decide +kernel
theorem d_ZoneNodes_arriveAtSecondary_1 : decode b_ZoneNodes_arriveAtSecondary 1 = .ok (.getfield 145, 3) := by decide +kernel
theorem d_ZoneNodes_arriveAtSecondary_4 : decode b_ZoneNodes_arriveAtSecondary 4 = .ok (.ifCond .ne 4, 3) := by decide +kernel
theorem d_ZoneNodes_arriveAtSecondary_7 : decode b_ZoneNodes_arriveAtSecondary 7 = .ok (.return_, 1) := by decide +kernel
theorem d_ZoneNodes_arriveAtSecondary_8 : decode b_ZoneNodes_arriveAtSecondary 8 = .ok (.aload_n 1, 1) := by decide +kernel
theorem d_ZoneNodes_arriveAtSecondary_9 : decode b_ZoneNodes_arriveAtSecondary 9 = .ok (.getfield 110, 3) := by decide +kernel
theorem d_ZoneNodes_arriveAtSecondary_12 : decode b_ZoneNodes_arriveAtSecondary 12 = .ok (.iconst 1, 1) := by decide +kernel
theorem d_ZoneNodes_arriveAtSecondary_13 : decode b_ZoneNodes_arriveAtSecondary 13 = .ok (.if_icmp .ne 22, 3) := by decide +kernel
theorem d_ZoneNodes_arriveAtSecondary_16 : decode b_ZoneNodes_arriveAtSecondary 16 = .ok (.aload_n 2, 1) := by decide +kernel
theorem d_ZoneNodes_arriveAtSecondary_17 : decode b_ZoneNodes_arriveAtSecondary 17 = .ok (.aload_n 1, 1) := by decide +kernel
theorem d_ZoneNodes_arriveAtSecondary_18 : decode b_ZoneNodes_arriveAtSecondary 18 = .ok (.getfield 240, 3) := by decide +kernel
theorem d_ZoneNodes_arriveAtSecondary_21 : decode b_ZoneNodes_arriveAtSecondary 21 = .ok (.aload_n 0, 1) := by decide +kernel
theorem d_ZoneNodes_arriveAtSecondary_22 : decode b_ZoneNodes_arriveAtSecondary 22 = .ok (.getfield 93, 3) := by decide +kernel
theorem d_ZoneNodes_arriveAtSecondary_25 : decode b_ZoneNodes_arriveAtSecondary 25 = .ok (.aload_n 0, 1) := by decide +kernel
theorem d_ZoneNodes_arriveAtSecondary_26 : decode b_ZoneNodes_arriveAtSecondary 26 = .ok (.getfield 27, 3) := by decide +kernel
theorem d_ZoneNodes_arriveAtSecondary_29 : decode b_ZoneNodes_arriveAtSecondary 29 = .ok (.invokevirtual 249, 3) := by decide +kernel
theorem d_ZoneNodes_arriveAtSecondary_32 : decode b_ZoneNodes_arriveAtSecondary 32 = .ok (.goto 75, 3) := by decide +kernel
theorem d_ZoneNodes_arriveAtSecondary_35 : decode b_ZoneNodes_arriveAtSecondary 35 = .ok (.aload_n 1, 1) := by decide +kernel
theorem d_ZoneNodes_arriveAtSecondary_36 : decode b_ZoneNodes_arriveAtSecondary 36 = .ok (.getfield 110, 3) := by decide +kernel
theorem d_ZoneNodes_arriveAtSecondary_39 : decode b_ZoneNodes_arriveAtSecondary 39 = .ok (.iconst 3, 1) := by decide +kernel
theorem d_ZoneNodes_arriveAtSecondary_40 : decode b_ZoneNodes_arriveAtSecondary 40 = .ok (.if_icmp .ne 29, 3) := by decide +kernel
theorem d_ZoneNodes_arriveAtSecondary_43 : decode b_ZoneNodes_arriveAtSecondary 43 = .ok (.aload_n 2, 1) := by decide +kernel
theorem d_ZoneNodes_arriveAtSecondary_44 : decode b_ZoneNodes_arriveAtSecondary 44 = .ok (.aload_n 1, 1) := by decide +kernel
theorem d_ZoneNodes_arriveAtSecondary_45 : decode b_ZoneNodes_arriveAtSecondary 45 = .ok (.getfield 240, 3) := by decide +kernel
theorem d_ZoneNodes_arriveAtSecondary_48 : decode b_ZoneNodes_arriveAtSecondary 48 = .ok (.aload_n 0, 1) := by decide +kernel
theorem d_ZoneNodes_arriveAtSecondary_49 : decode b_ZoneNodes_arriveAtSecondary 49 = .ok (.getfield 46, 3) := by decide +kernel
theorem d_ZoneNodes_arriveAtSecondary_52 : decode b_ZoneNodes_arriveAtSecondary 52 = .ok (.getfield 74, 3) := by decide +kernel
theorem d_ZoneNodes_arriveAtSecondary_55 : decode b_ZoneNodes_arriveAtSecondary 55 = .ok (.aload_n 0, 1) := by decide +kernel
theorem d_ZoneNodes_arriveAtSecondary_56 : decode b_ZoneNodes_arriveAtSecondary 56 = .ok (.getfield 93, 3) := by decide +kernel
theorem d_ZoneNodes_arriveAtSecondary_59 : decode b_ZoneNodes_arriveAtSecondary 59 = .ok (.aload_n 0, 1) := by decide +kernel
theorem d_ZoneNodes_arriveAtSecondary_60 : decode b_ZoneNodes_arriveAtSecondary 60 = .ok (.getfield 27, 3) := by decide +kernel
theorem d_ZoneNodes_arriveAtSecondary_63 : decode b_ZoneNodes_arriveAtSecondary 63 = .ok (.invokevirtual 253, 3) := by decide +kernel
theorem d_ZoneNodes_arriveAtSecondary_66 : decode b_ZoneNodes_arriveAtSecondary 66 = .ok (.goto 41, 3) := by decide +kernel
theorem d_ZoneNodes_arriveAtSecondary_69 : decode b_ZoneNodes_arriveAtSecondary 69 = .ok (.aload_n 1, 1) := by decide +kernel
theorem d_ZoneNodes_arriveAtSecondary_70 : decode b_ZoneNodes_arriveAtSecondary 70 = .ok (.getfield 130, 3) := by decide +kernel
theorem d_ZoneNodes_arriveAtSecondary_73 : decode b_ZoneNodes_arriveAtSecondary 73 = .ok (.ifCond .eq 25, 3) := by decide +kernel
theorem d_ZoneNodes_arriveAtSecondary_76 : decode b_ZoneNodes_arriveAtSecondary 76 = .ok (.aload_n 0, 1) := by decide +kernel
theorem d_ZoneNodes_arriveAtSecondary_77 : decode b_ZoneNodes_arriveAtSecondary 77 = .ok (.getfield 27, 3) := by decide +kernel
theorem d_ZoneNodes_arriveAtSecondary_80 : decode b_ZoneNodes_arriveAtSecondary 80 = .ok (.aload_n 2, 1) := by decide +kernel
theorem d_ZoneNodes_arriveAtSecondary_81 : decode b_ZoneNodes_arriveAtSecondary 81 = .ok (.getfield 257, 3) := by decide +kernel
theorem d_ZoneNodes_arriveAtSecondary_84 : decode b_ZoneNodes_arriveAtSecondary 84 = .ok (.invokevirtual 142, 3) := by decide +kernel
theorem d_ZoneNodes_arriveAtSecondary_87 : decode b_ZoneNodes_arriveAtSecondary 87 = .ok (.aload_n 2, 1) := by decide +kernel
theorem d_ZoneNodes_arriveAtSecondary_88 : decode b_ZoneNodes_arriveAtSecondary 88 = .ok (.aload_n 0, 1) := by decide +kernel
theorem d_ZoneNodes_arriveAtSecondary_89 : decode b_ZoneNodes_arriveAtSecondary 89 = .ok (.getfield 93, 3) := by decide +kernel
theorem d_ZoneNodes_arriveAtSecondary_92 : decode b_ZoneNodes_arriveAtSecondary 92 = .ok (.invokevirtual 234, 3) := by decide +kernel
theorem d_ZoneNodes_arriveAtSecondary_95 : decode b_ZoneNodes_arriveAtSecondary 95 = .ok (.goto 12, 3) := by decide +kernel
theorem d_ZoneNodes_arriveAtSecondary_98 : decode b_ZoneNodes_arriveAtSecondary 98 = .ok (.aload_n 2, 1) := by decide +kernel
theorem d_ZoneNodes_arriveAtSecondary_99 : decode b_ZoneNodes_arriveAtSecondary 99 = .ok (.aload_n 1, 1) := by decide +kernel
theorem d_ZoneNodes_arriveAtSecondary_100 : decode b_ZoneNodes_arriveAtSecondary 100 = .ok (.aload_n 0, 1) := by decide +kernel
theorem d_ZoneNodes_arriveAtSecondary_101 : decode b_ZoneNodes_arriveAtSecondary 101 = .ok (.getfield 93, 3) := by decide +kernel
theorem d_ZoneNodes_arriveAtSecondary_104 : decode b_ZoneNodes_arriveAtSecondary 104 = .ok (.invokevirtual 258, 3) := by decide +kernel
theorem d_ZoneNodes_arriveAtSecondary_107 : decode b_ZoneNodes_arriveAtSecondary 107 = .ok (.return_, 1) := by decide +kernel
theorem d_ZoneNodes_isRecord_0 : decode b_ZoneNodes_isRecord 0 = .ok (.iload_n 0, 1) := by decide +kernel
theorem d_ZoneNodes_isRecord_1 : decode b_ZoneNodes_isRecord 1 = .ok (.iconst 0, 1) := by decide +kernel
theorem d_ZoneNodes_isRecord_2 : decode b_ZoneNodes_isRecord 2 = .ok (.bipush 7, 2) := by decide +kernel
theorem d_ZoneNodes_isRecord_4 : decode b_ZoneNodes_isRecord 4 = .ok (.invokestatic 37, 3) := by decide +kernel
theorem d_ZoneNodes_isRecord_7 : decode b_ZoneNodes_isRecord 7 = .ok (.ifCond .eq 26, 3) := by decide +kernel
theorem d_ZoneNodes_isRecord_10 : decode b_ZoneNodes_isRecord 10 = .ok (.iload_n 1, 1) := by decide +kernel
theorem d_ZoneNodes_isRecord_11 : decode b_ZoneNodes_isRecord 11 = .ok (.iconst 1, 1) := by decide +kernel
theorem d_ZoneNodes_isRecord_12 : decode b_ZoneNodes_isRecord 12 = .ok (.iconst 4, 1) := by decide +kernel
theorem d_ZoneNodes_isRecord_13 : decode b_ZoneNodes_isRecord 13 = .ok (.invokestatic 37, 3) := by decide +kernel
theorem d_ZoneNodes_isRecord_16 : decode b_ZoneNodes_isRecord 16 = .ok (.ifCond .eq 17, 3) := by decide +kernel
theorem d_ZoneNodes_isRecord_19 : decode b_ZoneNodes_isRecord 19 = .ok (.iload_n 2, 1) := by decide +kernel
theorem d_ZoneNodes_isRecord_20 : decode b_ZoneNodes_isRecord 20 = .ok (.iconst 0, 1) := by decide +kernel
theorem d_ZoneNodes_isRecord_21 : decode b_ZoneNodes_isRecord 21 = .ok (.bipush 7, 2) := by decide +kernel
theorem d_ZoneNodes_isRecord_23 : decode b_ZoneNodes_isRecord 23 = .ok (.invokestatic 37, 3) := by decide +kernel
theorem d_ZoneNodes_isRecord_26 : decode b_ZoneNodes_isRecord 26 = .ok (.ifCond .eq 7, 3) := by decide +kernel
theorem d_ZoneNodes_isRecord_29 : decode b_ZoneNodes_isRecord 29 = .ok (.iconst 1, 1) := by decide +kernel
theorem d_ZoneNodes_isRecord_30 : decode b_ZoneNodes_isRecord 30 = .ok (.goto 4, 3) := by decide +kernel
theorem d_ZoneNodes_isRecord_33 : decode b_ZoneNodes_isRecord 33 = .ok (.iconst 0, 1) := by decide +kernel
theorem d_ZoneNodes_isRecord_34 : decode b_ZoneNodes_isRecord 34 = .ok (.ireturn, 1) := by decide +kernel
theorem d_Draft_addChange_0 : decode b_Draft_addChange 0 = .ok (.aload_n 0, 1) := by decide +kernel
theorem d_Draft_addChange_1 : decode b_Draft_addChange 1 = .ok (.getfield 22, 3) := by decide +kernel
theorem d_Draft_addChange_4 : decode b_Draft_addChange 4 = .ok (.iconst 4, 1) := by decide +kernel
theorem d_Draft_addChange_5 : decode b_Draft_addChange 5 = .ok (.if_icmp .lt 5, 3) := by decide +kernel
theorem d_Draft_addChange_8 : decode b_Draft_addChange 8 = .ok (.iconst 0, 1) := by decide +kernel
theorem d_Draft_addChange_9 : decode b_Draft_addChange 9 = .ok (.ireturn, 1) := by decide +kernel
theorem d_Draft_addChange_10 : decode b_Draft_addChange 10 = .ok (.aload_n 0, 1) := by decide +kernel
theorem d_Draft_addChange_11 : decode b_Draft_addChange 11 = .ok (.getfield 15, 3) := by decide +kernel
theorem d_Draft_addChange_14 : decode b_Draft_addChange 14 = .ok (.aload_n 0, 1) := by decide +kernel
theorem d_Draft_addChange_15 : decode b_Draft_addChange 15 = .ok (.getfield 22, 3) := by decide +kernel
theorem d_Draft_addChange_18 : decode b_Draft_addChange 18 = .ok (.iload_n 1, 1) := by decide +kernel
theorem d_Draft_addChange_19 : decode b_Draft_addChange 19 = .ok (.iastore, 1) := by decide +kernel
theorem d_Draft_addChange_20 : decode b_Draft_addChange 20 = .ok (.aload_n 0, 1) := by decide +kernel
theorem d_Draft_addChange_21 : decode b_Draft_addChange 21 = .ok (.dup, 1) := by decide +kernel
theorem d_Draft_addChange_22 : decode b_Draft_addChange 22 = .ok (.getfield 22, 3) := by decide +kernel
theorem d_Draft_addChange_25 : decode b_Draft_addChange 25 = .ok (.iconst 1, 1) := by decide +kernel
theorem d_Draft_addChange_26 : decode b_Draft_addChange 26 = .ok (.iadd, 1) := by decide +kernel
theorem d_Draft_addChange_27 : decode b_Draft_addChange 27 = .ok (.putfield 22, 3) := by decide +kernel
theorem d_Draft_addChange_30 : decode b_Draft_addChange 30 = .ok (.iconst 1, 1) := by decide +kernel
theorem d_Draft_addChange_31 : decode b_Draft_addChange 31 = .ok (.ireturn, 1) := by decide +kernel
theorem d_ZoneNodes_change_0 : decode b_ZoneNodes_change 0 = .ok (.iload_n 1, 1) := by decide +kernel
theorem d_ZoneNodes_change_1 : decode b_ZoneNodes_change 1 = .ok (.iconst 0, 1) := by decide +kernel
theorem d_ZoneNodes_change_2 : decode b_ZoneNodes_change 2 = .ok (.iconst 3, 1) := by decide +kernel
theorem d_ZoneNodes_change_3 : decode b_ZoneNodes_change 3 = .ok (.invokestatic 37, 3) := by decide +kernel
theorem d_ZoneNodes_change_6 : decode b_ZoneNodes_change 6 = .ok (.ifCond .eq 35, 3) := by decide +kernel
theorem d_ZoneNodes_change_9 : decode b_ZoneNodes_change 9 = .ok (.iload_n 2, 1) := by decide +kernel
theorem d_ZoneNodes_change_10 : decode b_ZoneNodes_change 10 = .ok (.iload_n 3, 1) := by decide +kernel
theorem d_ZoneNodes_change_11 : decode b_ZoneNodes_change 11 = .ok (.iload 4, 2) := by decide +kernel
theorem d_ZoneNodes_change_13 : decode b_ZoneNodes_change 13 = .ok (.invokestatic 53, 3) := by decide +kernel
theorem d_ZoneNodes_change_16 : decode b_ZoneNodes_change 16 = .ok (.ifCond .eq 25, 3) := by decide +kernel
theorem d_ZoneNodes_change_19 : decode b_ZoneNodes_change 19 = .ok (.aload_n 0, 1) := by decide +kernel
theorem d_ZoneNodes_change_20 : decode b_ZoneNodes_change 20 = .ok (.getfield 20, 3) := by decide +kernel
theorem d_ZoneNodes_change_23 : decode b_ZoneNodes_change 23 = .ok (.iload_n 1, 1) := by decide +kernel
theorem d_ZoneNodes_change_24 : decode b_ZoneNodes_change 24 = .ok (.iload_n 2, 1) := by decide +kernel
theorem d_ZoneNodes_change_25 : decode b_ZoneNodes_change 25 = .ok (.iload_n 3, 1) := by decide +kernel
theorem d_ZoneNodes_change_26 : decode b_ZoneNodes_change 26 = .ok (.iload 4, 2) := by decide +kernel
theorem d_ZoneNodes_change_28 : decode b_ZoneNodes_change 28 = .ok (.invokestatic 56, 3) := by decide +kernel
theorem d_ZoneNodes_change_31 : decode b_ZoneNodes_change 31 = .ok (.invokevirtual 64, 3) := by decide +kernel
theorem d_ZoneNodes_change_34 : decode b_ZoneNodes_change 34 = .ok (.ifCond .eq 7, 3) := by decide +kernel
theorem d_ZoneNodes_change_37 : decode b_ZoneNodes_change 37 = .ok (.iconst 1, 1) := by decide +kernel
theorem d_ZoneNodes_change_38 : decode b_ZoneNodes_change 38 = .ok (.goto 4, 3) := by decide +kernel
theorem d_ZoneNodes_change_41 : decode b_ZoneNodes_change 41 = .ok (.iconst 0, 1) := by decide +kernel
theorem d_ZoneNodes_change_42 : decode b_ZoneNodes_change 42 = .ok (.ireturn, 1) := by decide +kernel
theorem d_ZoneNodes_isNode_0 : decode b_ZoneNodes_isNode 0 = .ok (.iload_n 0, 1) := by decide +kernel
theorem d_ZoneNodes_isNode_1 : decode b_ZoneNodes_isNode 1 = .ok (.iconst 0, 1) := by decide +kernel
theorem d_ZoneNodes_isNode_2 : decode b_ZoneNodes_isNode 2 = .ok (.iconst 2, 1) := by decide +kernel
theorem d_ZoneNodes_isNode_3 : decode b_ZoneNodes_isNode 3 = .ok (.invokestatic 37, 3) := by decide +kernel
theorem d_ZoneNodes_isNode_6 : decode b_ZoneNodes_isNode 6 = .ok (.ireturn, 1) := by decide +kernel
theorem d_ZoneNodes_isUp_0 : decode b_ZoneNodes_isUp 0 = .ok (.iload_n 1, 1) := by decide +kernel
theorem d_ZoneNodes_isUp_1 : decode b_ZoneNodes_isUp 1 = .ok (.ifCond .ne 13, 3) := by decide +kernel
theorem d_ZoneNodes_isUp_4 : decode b_ZoneNodes_isUp 4 = .ok (.aload_n 0, 1) := by decide +kernel
theorem d_ZoneNodes_isUp_5 : decode b_ZoneNodes_isUp 5 = .ok (.getfield 46, 3) := by decide +kernel
theorem d_ZoneNodes_isUp_8 : decode b_ZoneNodes_isUp 8 = .ok (.getfield 74, 3) := by decide +kernel
theorem d_ZoneNodes_isUp_11 : decode b_ZoneNodes_isUp 11 = .ok (.goto 14, 3) := by decide +kernel
theorem d_ZoneNodes_isUp_14 : decode b_ZoneNodes_isUp 14 = .ok (.aload_n 0, 1) := by decide +kernel
theorem d_ZoneNodes_isUp_15 : decode b_ZoneNodes_isUp 15 = .ok (.getfield 33, 3) := by decide +kernel
theorem d_ZoneNodes_isUp_18 : decode b_ZoneNodes_isUp 18 = .ok (.iload_n 1, 1) := by decide +kernel
theorem d_ZoneNodes_isUp_19 : decode b_ZoneNodes_isUp 19 = .ok (.iconst 1, 1) := by decide +kernel
theorem d_ZoneNodes_isUp_20 : decode b_ZoneNodes_isUp 20 = .ok (.isub, 1) := by decide +kernel
theorem d_ZoneNodes_isUp_21 : decode b_ZoneNodes_isUp 21 = .ok (.aaload, 1) := by decide +kernel
theorem d_ZoneNodes_isUp_22 : decode b_ZoneNodes_isUp 22 = .ok (.getfield 145, 3) := by decide +kernel
theorem d_ZoneNodes_isUp_25 : decode b_ZoneNodes_isUp 25 = .ok (.ireturn, 1) := by decide +kernel
theorem d_ZoneNodes_takePrimaryDown_0 : decode b_ZoneNodes_takePrimaryDown 0 = .ok (.aload_n 0, 1) := by decide +kernel
theorem d_ZoneNodes_takePrimaryDown_1 : decode b_ZoneNodes_takePrimaryDown 1 = .ok (.getfield 46, 3) := by decide +kernel
theorem d_ZoneNodes_takePrimaryDown_4 : decode b_ZoneNodes_takePrimaryDown 4 = .ok (.iconst 0, 1) := by decide +kernel
theorem d_ZoneNodes_takePrimaryDown_5 : decode b_ZoneNodes_takePrimaryDown 5 = .ok (.putfield 74, 3) := by decide +kernel
theorem d_ZoneNodes_takePrimaryDown_8 : decode b_ZoneNodes_takePrimaryDown 8 = .ok (.aload_n 0, 1) := by decide +kernel
theorem d_ZoneNodes_takePrimaryDown_9 : decode b_ZoneNodes_takePrimaryDown 9 = .ok (.getfield 46, 3) := by decide +kernel
theorem d_ZoneNodes_takePrimaryDown_12 : decode b_ZoneNodes_takePrimaryDown 12 = .ok (.iconst 0, 1) := by decide +kernel
theorem d_ZoneNodes_takePrimaryDown_13 : decode b_ZoneNodes_takePrimaryDown 13 = .ok (.putfield 89, 3) := by decide +kernel
theorem d_ZoneNodes_takePrimaryDown_16 : decode b_ZoneNodes_takePrimaryDown 16 = .ok (.iconst 0, 1) := by decide +kernel
theorem d_ZoneNodes_takePrimaryDown_17 : decode b_ZoneNodes_takePrimaryDown 17 = .ok (.istore_n 1, 1) := by decide +kernel
theorem d_ZoneNodes_takePrimaryDown_18 : decode b_ZoneNodes_takePrimaryDown 18 = .ok (.iload_n 1, 1) := by decide +kernel
theorem d_ZoneNodes_takePrimaryDown_19 : decode b_ZoneNodes_takePrimaryDown 19 = .ok (.iconst 2, 1) := by decide +kernel
theorem d_ZoneNodes_takePrimaryDown_20 : decode b_ZoneNodes_takePrimaryDown 20 = .ok (.if_icmp .ge 32, 3) := by decide +kernel
theorem d_ZoneNodes_takePrimaryDown_23 : decode b_ZoneNodes_takePrimaryDown 23 = .ok (.aload_n 0, 1) := by decide +kernel
theorem d_ZoneNodes_takePrimaryDown_24 : decode b_ZoneNodes_takePrimaryDown 24 = .ok (.getfield 27, 3) := by decide +kernel
theorem d_ZoneNodes_takePrimaryDown_27 : decode b_ZoneNodes_takePrimaryDown 27 = .ok (.iload_n 1, 1) := by decide +kernel
theorem d_ZoneNodes_takePrimaryDown_28 : decode b_ZoneNodes_takePrimaryDown 28 = .ok (.iconst 1, 1) := by decide +kernel
theorem d_ZoneNodes_takePrimaryDown_29 : decode b_ZoneNodes_takePrimaryDown 29 = .ok (.iadd, 1) := by decide +kernel
theorem d_ZoneNodes_takePrimaryDown_30 : decode b_ZoneNodes_takePrimaryDown 30 = .ok (.invokevirtual 142, 3) := by decide +kernel
theorem d_ZoneNodes_takePrimaryDown_33 : decode b_ZoneNodes_takePrimaryDown 33 = .ok (.aload_n 0, 1) := by decide +kernel
theorem d_ZoneNodes_takePrimaryDown_34 : decode b_ZoneNodes_takePrimaryDown 34 = .ok (.getfield 33, 3) := by decide +kernel
theorem d_ZoneNodes_takePrimaryDown_37 : decode b_ZoneNodes_takePrimaryDown 37 = .ok (.iload_n 1, 1) := by decide +kernel
theorem d_ZoneNodes_takePrimaryDown_38 : decode b_ZoneNodes_takePrimaryDown 38 = .ok (.aaload, 1) := by decide +kernel
theorem d_ZoneNodes_takePrimaryDown_39 : decode b_ZoneNodes_takePrimaryDown 39 = .ok (.aload_n 0, 1) := by decide +kernel
theorem d_ZoneNodes_takePrimaryDown_40 : decode b_ZoneNodes_takePrimaryDown 40 = .ok (.getfield 93, 3) := by decide +kernel
