theorem d_ZoneNodesModel_remove_102 : decode b_ZoneNodesModel_remove 102 = .ok (.baload, 1) := by decide +kernel
theorem d_ZoneNodesModel_remove_103 : decode b_ZoneNodesModel_remove 103 = .ok (.bastore, 1) := by decide +kernel
theorem d_ZoneNodesModel_remove_104 : decode b_ZoneNodesModel_remove 104 = .ok (.aload_n 0, 1) := by decide +kernel
theorem d_ZoneNodesModel_remove_105 : decode b_ZoneNodesModel_remove 105 = .ok (.getfield 77, 3) := by decide +kernel
theorem d_ZoneNodesModel_remove_108 : decode b_ZoneNodesModel_remove 108 = .ok (.iload_n 2, 1) := by decide +kernel
theorem d_ZoneNodesModel_remove_109 : decode b_ZoneNodesModel_remove 109 = .ok (.aload_n 0, 1) := by decide +kernel
theorem d_ZoneNodesModel_remove_110 : decode b_ZoneNodesModel_remove 110 = .ok (.getfield 77, 3) := by decide +kernel
theorem d_ZoneNodesModel_remove_113 : decode b_ZoneNodesModel_remove 113 = .ok (.iload_n 2, 1) := by decide +kernel
theorem d_ZoneNodesModel_remove_114 : decode b_ZoneNodesModel_remove 114 = .ok (.iconst 1, 1) := by decide +kernel
theorem d_ZoneNodesModel_remove_115 : decode b_ZoneNodesModel_remove 115 = .ok (.iadd, 1) := by decide +kernel
theorem d_ZoneNodesModel_remove_116 : decode b_ZoneNodesModel_remove 116 = .ok (.baload, 1) := by decide +kernel
theorem d_ZoneNodesModel_remove_117 : decode b_ZoneNodesModel_remove 117 = .ok (.bastore, 1) := by decide +kernel
theorem d_ZoneNodesModel_remove_118 : decode b_ZoneNodesModel_remove 118 = .ok (.iinc 2 1, 3) := by decide +kernel
theorem d_ZoneNodesModel_remove_121 : decode b_ZoneNodesModel_remove 121 = .ok (.goto (-109), 3) := by decide +kernel
theorem d_ZoneNodesModel_remove_124 : decode b_ZoneNodesModel_remove 124 = .ok (.return_, 1) := by decide +kernel
theorem d_ZoneNodesModel_cutOff_0 : decode b_ZoneNodesModel_cutOff 0 = .ok (.aload_n 0, 1) := by decide +kernel
theorem d_ZoneNodesModel_cutOff_1 : decode b_ZoneNodesModel_cutOff 1 = .ok (.getfield 177, 3) := by decide +kernel
theorem d_ZoneNodesModel_cutOff_4 : decode b_ZoneNodesModel_cutOff 4 = .ok (.iconst 1, 1) := by decide +kernel
theorem d_ZoneNodesModel_cutOff_5 : decode b_ZoneNodesModel_cutOff 5 = .ok (.isub, 1) := by decide +kernel
theorem d_ZoneNodesModel_cutOff_6 : decode b_ZoneNodesModel_cutOff 6 = .ok (.istore_n 2, 1) := by decide +kernel
theorem d_ZoneNodesModel_cutOff_7 : decode b_ZoneNodesModel_cutOff 7 = .ok (.iload_n 2, 1) := by decide +kernel
theorem d_ZoneNodesModel_cutOff_8 : decode b_ZoneNodesModel_cutOff 8 = .ok (.ifCond .lt 34, 3) := by decide +kernel
theorem d_ZoneNodesModel_cutOff_11 : decode b_ZoneNodesModel_cutOff 11 = .ok (.aload_n 0, 1) := by decide +kernel
theorem d_ZoneNodesModel_cutOff_12 : decode b_ZoneNodesModel_cutOff 12 = .ok (.getfield 59, 3) := by decide +kernel
theorem d_ZoneNodesModel_cutOff_15 : decode b_ZoneNodesModel_cutOff 15 = .ok (.iload_n 2, 1) := by decide +kernel
theorem d_ZoneNodesModel_cutOff_16 : decode b_ZoneNodesModel_cutOff 16 = .ok (.iaload, 1) := by decide +kernel
theorem d_ZoneNodesModel_cutOff_17 : decode b_ZoneNodesModel_cutOff 17 = .ok (.iconst 4, 1) := by decide +kernel
theorem d_ZoneNodesModel_cutOff_18 : decode b_ZoneNodesModel_cutOff 18 = .ok (.if_icmp .lt 18, 3) := by decide +kernel
theorem d_ZoneNodesModel_cutOff_21 : decode b_ZoneNodesModel_cutOff 21 = .ok (.aload_n 0, 1) := by decide +kernel
theorem d_ZoneNodesModel_cutOff_22 : decode b_ZoneNodesModel_cutOff 22 = .ok (.getfield 62, 3) := by decide +kernel
theorem d_ZoneNodesModel_cutOff_25 : decode b_ZoneNodesModel_cutOff 25 = .ok (.iload_n 2, 1) := by decide +kernel
theorem d_ZoneNodesModel_cutOff_26 : decode b_ZoneNodesModel_cutOff 26 = .ok (.iaload, 1) := by decide +kernel
theorem d_ZoneNodesModel_cutOff_27 : decode b_ZoneNodesModel_cutOff 27 = .ok (.iload_n 1, 1) := by decide +kernel
theorem d_ZoneNodesModel_cutOff_28 : decode b_ZoneNodesModel_cutOff 28 = .ok (.if_icmp .ne 8, 3) := by decide +kernel
theorem d_ZoneNodesModel_cutOff_31 : decode b_ZoneNodesModel_cutOff 31 = .ok (.aload_n 0, 1) := by decide +kernel
theorem d_ZoneNodesModel_cutOff_32 : decode b_ZoneNodesModel_cutOff 32 = .ok (.iload_n 2, 1) := by decide +kernel
theorem d_ZoneNodesModel_cutOff_33 : decode b_ZoneNodesModel_cutOff 33 = .ok (.invokevirtual 184, 3) := by decide +kernel
theorem d_ZoneNodesModel_cutOff_36 : decode b_ZoneNodesModel_cutOff 36 = .ok (.iinc 2 (-1), 3) := by decide +kernel
theorem d_ZoneNodesModel_cutOff_39 : decode b_ZoneNodesModel_cutOff 39 = .ok (.goto (-32), 3) := by decide +kernel
theorem d_ZoneNodesModel_cutOff_42 : decode b_ZoneNodesModel_cutOff 42 = .ok (.return_, 1) := by decide +kernel
theorem d_ZoneNodesModel_isNode_0 : decode b_ZoneNodesModel_isNode 0 = .ok (.iload_n 0, 1) := by decide +kernel
theorem d_ZoneNodesModel_isNode_1 : decode b_ZoneNodesModel_isNode 1 = .ok (.ifCond .lt 12, 3) := by decide +kernel
theorem d_ZoneNodesModel_isNode_4 : decode b_ZoneNodesModel_isNode 4 = .ok (.iload_n 0, 1) := by decide +kernel
theorem d_ZoneNodesModel_isNode_5 : decode b_ZoneNodesModel_isNode 5 = .ok (.iconst 2, 1) := by decide +kernel
theorem d_ZoneNodesModel_isNode_6 : decode b_ZoneNodesModel_isNode 6 = .ok (.if_icmp .gt 7, 3) := by decide +kernel
theorem d_ZoneNodesModel_isNode_9 : decode b_ZoneNodesModel_isNode 9 = .ok (.iconst 1, 1) := by decide +kernel
theorem d_ZoneNodesModel_isNode_10 : decode b_ZoneNodesModel_isNode 10 = .ok (.goto 4, 3) := by decide +kernel
theorem d_ZoneNodesModel_isNode_13 : decode b_ZoneNodesModel_isNode 13 = .ok (.iconst 0, 1) := by decide +kernel
theorem d_ZoneNodesModel_isNode_14 : decode b_ZoneNodesModel_isNode 14 = .ok (.ireturn, 1) := by decide +kernel
theorem d_ZoneNodesModel_crash_0 : decode b_ZoneNodesModel_crash 0 = .ok (.iload_n 1, 1) := by decide +kernel
theorem d_ZoneNodesModel_crash_1 : decode b_ZoneNodesModel_crash 1 = .ok (.invokestatic 218, 3) := by decide +kernel
theorem d_ZoneNodesModel_crash_4 : decode b_ZoneNodesModel_crash 4 = .ok (.ifCond .eq 12, 3) := by decide +kernel
theorem d_ZoneNodesModel_crash_7 : decode b_ZoneNodesModel_crash 7 = .ok (.aload_n 0, 1) := by decide +kernel
theorem d_ZoneNodesModel_crash_8 : decode b_ZoneNodesModel_crash 8 = .ok (.getfield 7, 3) := by decide +kernel
theorem d_ZoneNodesModel_crash_11 : decode b_ZoneNodesModel_crash 11 = .ok (.iload_n 1, 1) := by decide +kernel
theorem d_ZoneNodesModel_crash_12 : decode b_ZoneNodesModel_crash 12 = .ok (.baload, 1) := by decide +kernel
theorem d_ZoneNodesModel_crash_13 : decode b_ZoneNodesModel_crash 13 = .ok (.ifCond .ne 5, 3) := by decide +kernel
theorem d_ZoneNodesModel_crash_16 : decode b_ZoneNodesModel_crash 16 = .ok (.iconst 0, 1) := by decide +kernel
theorem d_ZoneNodesModel_crash_17 : decode b_ZoneNodesModel_crash 17 = .ok (.ireturn, 1) := by decide +kernel
theorem d_ZoneNodesModel_crash_18 : decode b_ZoneNodesModel_crash 18 = .ok (.aload_n 0, 1) := by decide +kernel
theorem d_ZoneNodesModel_crash_19 : decode b_ZoneNodesModel_crash 19 = .ok (.getfield 7, 3) := by decide +kernel
theorem d_ZoneNodesModel_crash_22 : decode b_ZoneNodesModel_crash 22 = .ok (.iload_n 1, 1) := by decide +kernel
theorem d_ZoneNodesModel_crash_23 : decode b_ZoneNodesModel_crash 23 = .ok (.iconst 0, 1) := by decide +kernel
theorem d_ZoneNodesModel_crash_24 : decode b_ZoneNodesModel_crash 24 = .ok (.bastore, 1) := by decide +kernel
theorem d_ZoneNodesModel_crash_25 : decode b_ZoneNodesModel_crash 25 = .ok (.aload_n 0, 1) := by decide +kernel
theorem d_ZoneNodesModel_crash_26 : decode b_ZoneNodesModel_crash 26 = .ok (.iload_n 1, 1) := by decide +kernel
theorem d_ZoneNodesModel_crash_27 : decode b_ZoneNodesModel_crash 27 = .ok (.ifCond .ne 7, 3) := by decide +kernel
theorem d_ZoneNodesModel_crash_30 : decode b_ZoneNodesModel_crash 30 = .ok (.iconst 0, 1) := by decide +kernel
theorem d_ZoneNodesModel_crash_31 : decode b_ZoneNodesModel_crash 31 = .ok (.goto 7, 3) := by decide +kernel
theorem d_ZoneNodesModel_crash_34 : decode b_ZoneNodesModel_crash 34 = .ok (.aload_n 0, 1) := by decide +kernel
theorem d_ZoneNodesModel_crash_35 : decode b_ZoneNodesModel_crash 35 = .ok (.getfield 159, 3) := by decide +kernel
theorem d_ZoneNodesModel_crash_38 : decode b_ZoneNodesModel_crash 38 = .ok (.putfield 159, 3) := by decide +kernel
theorem d_ZoneNodesModel_crash_41 : decode b_ZoneNodesModel_crash 41 = .ok (.iconst 1, 1) := by decide +kernel
theorem d_ZoneNodesModel_crash_42 : decode b_ZoneNodesModel_crash 42 = .ok (.istore_n 2, 1) := by decide +kernel
theorem d_ZoneNodesModel_crash_43 : decode b_ZoneNodesModel_crash 43 = .ok (.iload_n 2, 1) := by decide +kernel
theorem d_ZoneNodesModel_crash_44 : decode b_ZoneNodesModel_crash 44 = .ok (.iconst 2, 1) := by decide +kernel
theorem d_ZoneNodesModel_crash_45 : decode b_ZoneNodesModel_crash 45 = .ok (.if_icmp .gt 55, 3) := by decide +kernel
theorem d_ZoneNodesModel_crash_48 : decode b_ZoneNodesModel_crash 48 = .ok (.iload_n 1, 1) := by decide +kernel
theorem d_ZoneNodesModel_crash_49 : decode b_ZoneNodesModel_crash 49 = .ok (.ifCond .eq 8, 3) := by decide +kernel
theorem d_ZoneNodesModel_crash_52 : decode b_ZoneNodesModel_crash 52 = .ok (.iload_n 1, 1) := by decide +kernel
theorem d_ZoneNodesModel_crash_53 : decode b_ZoneNodesModel_crash 53 = .ok (.iload_n 2, 1) := by decide +kernel
theorem d_ZoneNodesModel_crash_54 : decode b_ZoneNodesModel_crash 54 = .ok (.if_icmp .ne 8, 3) := by decide +kernel
theorem d_ZoneNodesModel_crash_57 : decode b_ZoneNodesModel_crash 57 = .ok (.aload_n 0, 1) := by decide +kernel
theorem d_ZoneNodesModel_crash_58 : decode b_ZoneNodesModel_crash 58 = .ok (.iload_n 2, 1) := by decide +kernel
theorem d_ZoneNodesModel_crash_59 : decode b_ZoneNodesModel_crash 59 = .ok (.invokevirtual 201, 3) := by decide +kernel
theorem d_ZoneNodesModel_crash_62 : decode b_ZoneNodesModel_crash 62 = .ok (.iload_n 1, 1) := by decide +kernel
theorem d_ZoneNodesModel_crash_63 : decode b_ZoneNodesModel_crash 63 = .ok (.ifCond .ne 31, 3) := by decide +kernel
theorem d_ZoneNodesModel_crash_66 : decode b_ZoneNodesModel_crash 66 = .ok (.aload_n 0, 1) := by decide +kernel
theorem d_ZoneNodesModel_crash_67 : decode b_ZoneNodesModel_crash 67 = .ok (.getfield 7, 3) := by decide +kernel
theorem d_ZoneNodesModel_crash_70 : decode b_ZoneNodesModel_crash 70 = .ok (.iload_n 2, 1) := by decide +kernel
theorem d_ZoneNodesModel_crash_71 : decode b_ZoneNodesModel_crash 71 = .ok (.baload, 1) := by decide +kernel
theorem d_ZoneNodesModel_crash_72 : decode b_ZoneNodesModel_crash 72 = .ok (.ifCond .eq 22, 3) := by decide +kernel
theorem d_ZoneNodesModel_crash_75 : decode b_ZoneNodesModel_crash 75 = .ok (.aload_n 0, 1) := by decide +kernel
theorem d_ZoneNodesModel_crash_76 : decode b_ZoneNodesModel_crash 76 = .ok (.getfield 26, 3) := by decide +kernel
theorem d_ZoneNodesModel_crash_79 : decode b_ZoneNodesModel_crash 79 = .ok (.iload_n 2, 1) := by decide +kernel
theorem d_ZoneNodesModel_crash_80 : decode b_ZoneNodesModel_crash 80 = .ok (.iaload, 1) := by decide +kernel
theorem d_ZoneNodesModel_crash_81 : decode b_ZoneNodesModel_crash 81 = .ok (.iconst 2, 1) := by decide +kernel
theorem d_ZoneNodesModel_crash_82 : decode b_ZoneNodesModel_crash 82 = .ok (.if_icmp .ne 12, 3) := by decide +kernel
theorem d_ZoneNodesModel_crash_85 : decode b_ZoneNodesModel_crash 85 = .ok (.aload_n 0, 1) := by decide +kernel
theorem d_ZoneNodesModel_crash_86 : decode b_ZoneNodesModel_crash 86 = .ok (.iload_n 2, 1) := by decide +kernel
theorem d_ZoneNodesModel_crash_87 : decode b_ZoneNodesModel_crash 87 = .ok (.aload_n 0, 1) := by decide +kernel
theorem d_ZoneNodesModel_crash_88 : decode b_ZoneNodesModel_crash 88 = .ok (.getfield 84, 3) := by decide +kernel
theorem d_ZoneNodesModel_crash_91 : decode b_ZoneNodesModel_crash 91 = .ok (.invokevirtual 94, 3) := by decide +kernel
theorem d_ZoneNodesModel_crash_94 : decode b_ZoneNodesModel_crash 94 = .ok (.iinc 2 1, 3) := by decide +kernel
theorem d_ZoneNodesModel_crash_97 : decode b_ZoneNodesModel_crash 97 = .ok (.goto (-54), 3) := by decide +kernel
theorem d_ZoneNodesModel_crash_100 : decode b_ZoneNodesModel_crash 100 = .ok (.iconst 1, 1) := by decide +kernel
theorem d_ZoneNodesModel_crash_101 : decode b_ZoneNodesModel_crash 101 = .ok (.ireturn, 1) := by decide +kernel
theorem d_ZoneNodesModel_append_0 : decode b_ZoneNodesModel_append 0 = .ok (.aload_n 0, 1) := by decide +kernel
theorem d_ZoneNodesModel_append_1 : decode b_ZoneNodesModel_append 1 = .ok (.getfield 59, 3) := by decide +kernel
theorem d_ZoneNodesModel_append_4 : decode b_ZoneNodesModel_append 4 = .ok (.aload_n 0, 1) := by decide +kernel
theorem d_ZoneNodesModel_append_5 : decode b_ZoneNodesModel_append 5 = .ok (.getfield 177, 3) := by decide +kernel
theorem d_ZoneNodesModel_append_8 : decode b_ZoneNodesModel_append 8 = .ok (.iload_n 1, 1) := by decide +kernel
theorem d_ZoneNodesModel_append_9 : decode b_ZoneNodesModel_append 9 = .ok (.iastore, 1) := by decide +kernel
theorem d_ZoneNodesModel_append_10 : decode b_ZoneNodesModel_append 10 = .ok (.aload_n 0, 1) := by decide +kernel
theorem d_ZoneNodesModel_append_11 : decode b_ZoneNodesModel_append 11 = .ok (.getfield 62, 3) := by decide +kernel
theorem d_ZoneNodesModel_append_14 : decode b_ZoneNodesModel_append 14 = .ok (.aload_n 0, 1) := by decide +kernel
theorem d_ZoneNodesModel_append_15 : decode b_ZoneNodesModel_append 15 = .ok (.getfield 177, 3) := by decide +kernel
theorem d_ZoneNodesModel_append_18 : decode b_ZoneNodesModel_append 18 = .ok (.iload_n 2, 1) := by decide +kernel
theorem d_ZoneNodesModel_append_19 : decode b_ZoneNodesModel_append 19 = .ok (.iastore, 1) := by decide +kernel
theorem d_ZoneNodesModel_append_20 : decode b_ZoneNodesModel_append 20 = .ok (.aload_n 0, 1) := by decide +kernel
theorem d_ZoneNodesModel_append_21 : decode b_ZoneNodesModel_append 21 = .ok (.getfield 65, 3) := by decide +kernel
theorem d_ZoneNodesModel_append_24 : decode b_ZoneNodesModel_append 24 = .ok (.aload_n 0, 1) := by decide +kernel
theorem d_ZoneNodesModel_append_25 : decode b_ZoneNodesModel_append 25 = .ok (.getfield 177, 3) := by decide +kernel
theorem d_ZoneNodesModel_append_28 : decode b_ZoneNodesModel_append 28 = .ok (.iload_n 3, 1) := by decide +kernel
theorem d_ZoneNodesModel_append_29 : decode b_ZoneNodesModel_append 29 = .ok (.iastore, 1) := by decide +kernel
theorem d_ZoneNodesModel_append_30 : decode b_ZoneNodesModel_append 30 = .ok (.aload_n 0, 1) := by decide +kernel
theorem d_ZoneNodesModel_append_31 : decode b_ZoneNodesModel_append 31 = .ok (.getfield 68, 3) := by decide +kernel
theorem d_ZoneNodesModel_append_34 : decode b_ZoneNodesModel_append 34 = .ok (.aload_n 0, 1) := by decide +kernel
theorem d_ZoneNodesModel_append_35 : decode b_ZoneNodesModel_append 35 = .ok (.getfield 177, 3) := by decide +kernel
theorem d_ZoneNodesModel_append_38 : decode b_ZoneNodesModel_append 38 = .ok (.iload 4, 2) := by decide +kernel
theorem d_ZoneNodesModel_append_40 : decode b_ZoneNodesModel_append 40 = .ok (.iastore, 1) := by decide +kernel
theorem d_ZoneNodesModel_append_41 : decode b_ZoneNodesModel_append 41 = .ok (.aload_n 0, 1) := by decide +kernel
theorem d_ZoneNodesModel_append_42 : decode b_ZoneNodesModel_append 42 = .ok (.getfield 71, 3) := by decide +kernel
theorem d_ZoneNodesModel_append_45 : decode b_ZoneNodesModel_append 45 = .ok (.aload_n 0, 1) := by decide +kernel
theorem d_ZoneNodesModel_append_46 : decode b_ZoneNodesModel_append 46 = .ok (.getfield 177, 3) := by decide +kernel
theorem d_ZoneNodesModel_append_49 : decode b_ZoneNodesModel_append 49 = .ok (.iload 5, 2) := by decide +kernel
theorem d_ZoneNodesModel_append_51 : decode b_ZoneNodesModel_append 51 = .ok (.iastore, 1) := by decide +kernel
theorem d_ZoneNodesModel_append_52 : decode b_ZoneNodesModel_append 52 = .ok (.aload_n 0, 1) := by decide +kernel
theorem d_ZoneNodesModel_append_53 : decode b_ZoneNodesModel_append 53 = .ok (.getfield 74, 3) := by decide +kernel
theorem d_ZoneNodesModel_append_56 : decode b_ZoneNodesModel_append 56 = .ok (.aload_n 0, 1) := by decide +kernel
theorem d_ZoneNodesModel_append_57 : decode b_ZoneNodesModel_append 57 = .ok (.getfield 177, 3) := by decide +kernel
theorem d_ZoneNodesModel_append_60 : decode b_ZoneNodesModel_append 60 = .ok (.iload 6, 2) := by decide +kernel
theorem d_ZoneNodesModel_append_62 : decode b_ZoneNodesModel_append 62 = .ok (.bastore, 1) := by decide +kernel
theorem d_ZoneNodesModel_append_63 : decode b_ZoneNodesModel_append 63 = .ok (.aload_n 0, 1) := by decide +kernel
theorem d_ZoneNodesModel_append_64 : decode b_ZoneNodesModel_append 64 = .ok (.getfield 77, 3) := by decide +kernel
theorem d_ZoneNodesModel_append_67 : decode b_ZoneNodesModel_append 67 = .ok (.aload_n 0, 1) := by decide +kernel
theorem d_ZoneNodesModel_append_68 : decode b_ZoneNodesModel_append 68 = .ok (.getfield 177, 3) := by decide +kernel
theorem d_ZoneNodesModel_append_71 : decode b_ZoneNodesModel_append 71 = .ok (.iload 7, 2) := by decide +kernel
theorem d_ZoneNodesModel_append_73 : decode b_ZoneNodesModel_append 73 = .ok (.bastore, 1) := by decide +kernel
theorem d_ZoneNodesModel_append_74 : decode b_ZoneNodesModel_append 74 = .ok (.aload_n 0, 1) := by decide +kernel
theorem d_ZoneNodesModel_append_75 : decode b_ZoneNodesModel_append 75 = .ok (.dup, 1) := by decide +kernel
theorem d_ZoneNodesModel_append_76 : decode b_ZoneNodesModel_append 76 = .ok (.getfield 177, 3) := by decide +kernel
theorem d_ZoneNodesModel_append_79 : decode b_ZoneNodesModel_append 79 = .ok (.iconst 1, 1) := by decide +kernel
theorem d_ZoneNodesModel_append_80 : decode b_ZoneNodesModel_append 80 = .ok (.iadd, 1) := by decide +kernel
theorem d_ZoneNodesModel_append_81 : decode b_ZoneNodesModel_append 81 = .ok (.putfield 177, 3) := by decide +kernel
theorem d_ZoneNodesModel_append_84 : decode b_ZoneNodesModel_append 84 = .ok (.return_, 1) := by decide +kernel
theorem d_ZoneNodesModel_send_0 : decode b_ZoneNodesModel_send 0 = .ok (.iconst 0, 1) := by decide +kernel
theorem d_ZoneNodesModel_send_1 : decode b_ZoneNodesModel_send 1 = .ok (.istore 4, 2) := by decide +kernel
theorem d_ZoneNodesModel_send_3 : decode b_ZoneNodesModel_send 3 = .ok (.iconst 0, 1) := by decide +kernel
theorem d_ZoneNodesModel_send_4 : decode b_ZoneNodesModel_send 4 = .ok (.istore 5, 2) := by decide +kernel
theorem d_ZoneNodesModel_send_6 : decode b_ZoneNodesModel_send 6 = .ok (.iload 5, 2) := by decide +kernel
theorem d_ZoneNodesModel_send_8 : decode b_ZoneNodesModel_send 8 = .ok (.aload_n 0, 1) := by decide +kernel
theorem d_ZoneNodesModel_send_9 : decode b_ZoneNodesModel_send 9 = .ok (.getfield 177, 3) := by decide +kernel
theorem d_ZoneNodesModel_send_12 : decode b_ZoneNodesModel_send 12 = .ok (.if_icmp .ge 30, 3) := by decide +kernel
theorem d_ZoneNodesModel_send_15 : decode b_ZoneNodesModel_send 15 = .ok (.iload 4, 2) := by decide +kernel
theorem d_ZoneNodesModel_send_17 : decode b_ZoneNodesModel_send 17 = .ok (.aload_n 0, 1) := by decide +kernel
theorem d_ZoneNodesModel_send_18 : decode b_ZoneNodesModel_send 18 = .ok (.getfield 59, 3) := by decide +kernel
theorem d_ZoneNodesModel_send_21 : decode b_ZoneNodesModel_send 21 = .ok (.iload 5, 2) := by decide +kernel
theorem d_ZoneNodesModel_send_23 : decode b_ZoneNodesModel_send 23 = .ok (.iaload, 1) := by decide +kernel
theorem d_ZoneNodesModel_send_24 : decode b_ZoneNodesModel_send 24 = .ok (.iconst 4, 1) := by decide +kernel
theorem d_ZoneNodesModel_send_25 : decode b_ZoneNodesModel_send 25 = .ok (.if_icmp .ge 7, 3) := by decide +kernel
theorem d_ZoneNodesModel_send_28 : decode b_ZoneNodesModel_send 28 = .ok (.iconst 1, 1) := by decide +kernel
theorem d_ZoneNodesModel_send_29 : decode b_ZoneNodesModel_send 29 = .ok (.goto 4, 3) := by decide +kernel
theorem d_ZoneNodesModel_send_32 : decode b_ZoneNodesModel_send 32 = .ok (.iconst 0, 1) := by decide +kernel
theorem d_ZoneNodesModel_send_33 : decode b_ZoneNodesModel_send 33 = .ok (.iadd, 1) := by decide +kernel
theorem d_ZoneNodesModel_send_34 : decode b_ZoneNodesModel_send 34 = .ok (.istore 4, 2) := by decide +kernel
theorem d_ZoneNodesModel_send_36 : decode b_ZoneNodesModel_send 36 = .ok (.iinc 5 1, 3) := by decide +kernel
theorem d_ZoneNodesModel_send_39 : decode b_ZoneNodesModel_send 39 = .ok (.goto (-33), 3) := by decide +kernel
theorem d_ZoneNodesModel_send_42 : decode b_ZoneNodesModel_send 42 = .ok (.iload 4, 2) := by decide +kernel
theorem d_ZoneNodesModel_send_44 : decode b_ZoneNodesModel_send 44 = .ok (.bipush 24, 2) := by decide +kernel
theorem d_ZoneNodesModel_send_46 : decode b_ZoneNodesModel_send 46 = .ok (.if_icmp .ge 14, 3) := by decide +kernel
theorem d_ZoneNodesModel_send_49 : decode b_ZoneNodesModel_send 49 = .ok (.aload_n 0, 1) := by decide +kernel
theorem d_ZoneNodesModel_send_50 : decode b_ZoneNodesModel_send 50 = .ok (.iload_n 1, 1) := by decide +kernel
theorem d_ZoneNodesModel_send_51 : decode b_ZoneNodesModel_send 51 = .ok (.iload_n 2, 1) := by decide +kernel
theorem d_ZoneNodesModel_send_52 : decode b_ZoneNodesModel_send 52 = .ok (.iload_n 3, 1) := by decide +kernel
theorem d_ZoneNodesModel_send_53 : decode b_ZoneNodesModel_send 53 = .ok (.iconst 0, 1) := by decide +kernel
theorem d_ZoneNodesModel_send_54 : decode b_ZoneNodesModel_send 54 = .ok (.iconst 0, 1) := by decide +kernel
theorem d_ZoneNodesModel_send_55 : decode b_ZoneNodesModel_send 55 = .ok (.iconst 0, 1) := by decide +kernel
theorem d_ZoneNodesModel_send_56 : decode b_ZoneNodesModel_send 56 = .ok (.iconst 0, 1) := by decide +kernel
theorem d_ZoneNodesModel_send_57 : decode b_ZoneNodesModel_send 57 = .ok (.invokevirtual 180, 3) := by decide +kernel
theorem d_ZoneNodesModel_send_60 : decode b_ZoneNodesModel_send 60 = .ok (.return_, 1) := by decide +kernel
theorem d_ZoneNodesModel_ask_0 : decode b_ZoneNodesModel_ask 0 = .ok (.aload_n 0, 1) := by decide +kernel
theorem d_ZoneNodesModel_ask_1 : decode b_ZoneNodesModel_ask 1 = .ok (.iconst 2, 1) := by decide +kernel
theorem d_ZoneNodesModel_ask_2 : decode b_ZoneNodesModel_ask 2 = .ok (.iload_n 1, 1) := by decide +kernel
theorem d_ZoneNodesModel_ask_3 : decode b_ZoneNodesModel_ask 3 = .ok (.iconst 0, 1) := by decide +kernel
theorem d_ZoneNodesModel_ask_4 : decode b_ZoneNodesModel_ask 4 = .ok (.invokevirtual 174, 3) := by decide +kernel
theorem d_ZoneNodesModel_ask_7 : decode b_ZoneNodesModel_ask 7 = .ok (.aload_n 0, 1) := by decide +kernel
theorem d_ZoneNodesModel_ask_8 : decode b_ZoneNodesModel_ask 8 = .ok (.getfield 26, 3) := by decide +kernel
theorem d_ZoneNodesModel_ask_11 : decode b_ZoneNodesModel_ask 11 = .ok (.iload_n 1, 1) := by decide +kernel
theorem d_ZoneNodesModel_ask_12 : decode b_ZoneNodesModel_ask 12 = .ok (.iconst 1, 1) := by decide +kernel
theorem d_ZoneNodesModel_ask_13 : decode b_ZoneNodesModel_ask 13 = .ok (.iastore, 1) := by decide +kernel
theorem d_ZoneNodesModel_ask_14 : decode b_ZoneNodesModel_ask 14 = .ok (.aload_n 0, 1) := by decide +kernel
theorem d_ZoneNodesModel_ask_15 : decode b_ZoneNodesModel_ask 15 = .ok (.getfield 29, 3) := by decide +kernel
theorem d_ZoneNodesModel_ask_18 : decode b_ZoneNodesModel_ask 18 = .ok (.iload_n 1, 1) := by decide +kernel
theorem d_ZoneNodesModel_ask_19 : decode b_ZoneNodesModel_ask 19 = .ok (.aload_n 0, 1) := by decide +kernel
theorem d_ZoneNodesModel_ask_20 : decode b_ZoneNodesModel_ask 20 = .ok (.getfield 98, 3) := by decide +kernel
theorem d_ZoneNodesModel_ask_23 : decode b_ZoneNodesModel_ask 23 = .ok (.iastore, 1) := by decide +kernel
theorem d_ZoneNodesModel_ask_24 : decode b_ZoneNodesModel_ask 24 = .ok (.return_, 1) := by decide +kernel
theorem d_ZoneNodesModel_isNews_0 : decode b_ZoneNodesModel_isNews 0 = .ok (.aload_n 0, 1) := by decide +kernel
theorem d_ZoneNodesModel_isNews_1 : decode b_ZoneNodesModel_isNews 1 = .ok (.getfield 13, 3) := by decide +kernel
theorem d_ZoneNodesModel_isNews_4 : decode b_ZoneNodesModel_isNews 4 = .ok (.iload_n 1, 1) := by decide +kernel
theorem d_ZoneNodesModel_isNews_5 : decode b_ZoneNodesModel_isNews 5 = .ok (.baload, 1) := by decide +kernel
theorem d_ZoneNodesModel_isNews_6 : decode b_ZoneNodesModel_isNews 6 = .ok (.ifCond .eq 14, 3) := by decide +kernel
theorem d_ZoneNodesModel_isNews_9 : decode b_ZoneNodesModel_isNews 9 = .ok (.iload_n 2, 1) := by decide +kernel
theorem d_ZoneNodesModel_isNews_10 : decode b_ZoneNodesModel_isNews 10 = .ok (.aload_n 0, 1) := by decide +kernel
theorem d_ZoneNodesModel_isNews_11 : decode b_ZoneNodesModel_isNews 11 = .ok (.getfield 16, 3) := by decide +kernel
theorem d_ZoneNodesModel_isNews_14 : decode b_ZoneNodesModel_isNews 14 = .ok (.iload_n 1, 1) := by decide +kernel
theorem d_ZoneNodesModel_isNews_15 : decode b_ZoneNodesModel_isNews 15 = .ok (.iaload, 1) := by decide +kernel
theorem d_ZoneNodesModel_isNews_16 : decode b_ZoneNodesModel_isNews 16 = .ok (.isub, 1) := by decide +kernel
theorem d_ZoneNodesModel_isNews_17 : decode b_ZoneNodesModel_isNews 17 = .ok (.ifCond .le 7, 3) := by decide +kernel
theorem d_ZoneNodesModel_isNews_20 : decode b_ZoneNodesModel_isNews 20 = .ok (.iconst 1, 1) := by decide +kernel
theorem d_ZoneNodesModel_isNews_21 : decode b_ZoneNodesModel_isNews 21 = .ok (.goto 4, 3) := by decide +kernel
theorem d_ZoneNodesModel_isNews_24 : decode b_ZoneNodesModel_isNews 24 = .ok (.iconst 0, 1) := by decide +kernel
theorem d_ZoneNodesModel_isNews_25 : decode b_ZoneNodesModel_isNews 25 = .ok (.ireturn, 1) := by decide +kernel
theorem d_ZoneNodesModel_itemsFor_0 : decode b_ZoneNodesModel_itemsFor 0 = .ok (.iconst (-1), 1) := by decide +kernel
theorem d_ZoneNodesModel_itemsFor_1 : decode b_ZoneNodesModel_itemsFor 1 = .ok (.istore_n 3, 1) := by decide +kernel
theorem d_ZoneNodesModel_itemsFor_2 : decode b_ZoneNodesModel_itemsFor 2 = .ok (.iconst 0, 1) := by decide +kernel
theorem d_ZoneNodesModel_itemsFor_3 : decode b_ZoneNodesModel_itemsFor 3 = .ok (.istore 4, 2) := by decide +kernel
theorem d_ZoneNodesModel_itemsFor_5 : decode b_ZoneNodesModel_itemsFor 5 = .ok (.iload 4, 2) := by decide +kernel
theorem d_ZoneNodesModel_itemsFor_7 : decode b_ZoneNodesModel_itemsFor 7 = .ok (.aload_n 0, 1) := by decide +kernel
theorem d_ZoneNodesModel_itemsFor_8 : decode b_ZoneNodesModel_itemsFor 8 = .ok (.getfield 162, 3) := by decide +kernel
theorem d_ZoneNodesModel_itemsFor_11 : decode b_ZoneNodesModel_itemsFor 11 = .ok (.if_icmp .ge 31, 3) := by decide +kernel
theorem d_ZoneNodesModel_itemsFor_14 : decode b_ZoneNodesModel_itemsFor 14 = .ok (.iload_n 1, 1) := by decide +kernel
theorem d_ZoneNodesModel_itemsFor_15 : decode b_ZoneNodesModel_itemsFor 15 = .ok (.ifCond .eq 19, 3) := by decide +kernel
theorem d_ZoneNodesModel_itemsFor_18 : decode b_ZoneNodesModel_itemsFor 18 = .ok (.aload_n 0, 1) := by decide +kernel
theorem d_ZoneNodesModel_itemsFor_19 : decode b_ZoneNodesModel_itemsFor 19 = .ok (.getfield 44, 3) := by decide +kernel
theorem d_ZoneNodesModel_itemsFor_22 : decode b_ZoneNodesModel_itemsFor 22 = .ok (.iload 4, 2) := by decide +kernel
theorem d_ZoneNodesModel_itemsFor_24 : decode b_ZoneNodesModel_itemsFor 24 = .ok (.iaload, 1) := by decide +kernel
theorem d_ZoneNodesModel_itemsFor_25 : decode b_ZoneNodesModel_itemsFor 25 = .ok (.iload_n 2, 1) := by decide +kernel
theorem d_ZoneNodesModel_itemsFor_26 : decode b_ZoneNodesModel_itemsFor 26 = .ok (.if_icmp .ne 8, 3) := by decide +kernel
theorem d_ZoneNodesModel_itemsFor_29 : decode b_ZoneNodesModel_itemsFor 29 = .ok (.iload 4, 2) := by decide +kernel
theorem d_ZoneNodesModel_itemsFor_31 : decode b_ZoneNodesModel_itemsFor 31 = .ok (.goto 4, 3) := by decide +kernel
theorem d_ZoneNodesModel_itemsFor_34 : decode b_ZoneNodesModel_itemsFor 34 = .ok (.iload_n 3, 1) := by decide +kernel
theorem d_ZoneNodesModel_itemsFor_35 : decode b_ZoneNodesModel_itemsFor 35 = .ok (.istore_n 3, 1) := by decide +kernel
theorem d_ZoneNodesModel_itemsFor_36 : decode b_ZoneNodesModel_itemsFor 36 = .ok (.iinc 4 1, 3) := by decide +kernel
theorem d_ZoneNodesModel_itemsFor_39 : decode b_ZoneNodesModel_itemsFor 39 = .ok (.goto (-34), 3) := by decide +kernel
theorem d_ZoneNodesModel_itemsFor_42 : decode b_ZoneNodesModel_itemsFor 42 = .ok (.iconst 0, 1) := by decide +kernel
theorem d_ZoneNodesModel_itemsFor_43 : decode b_ZoneNodesModel_itemsFor 43 = .ok (.istore 4, 2) := by decide +kernel
theorem d_ZoneNodesModel_itemsFor_45 : decode b_ZoneNodesModel_itemsFor 45 = .ok (.iconst 0, 1) := by decide +kernel
theorem d_ZoneNodesModel_itemsFor_46 : decode b_ZoneNodesModel_itemsFor 46 = .ok (.istore 5, 2) := by decide +kernel
theorem d_ZoneNodesModel_itemsFor_48 : decode b_ZoneNodesModel_itemsFor 48 = .ok (.iload 5, 2) := by decide +kernel
theorem d_ZoneNodesModel_itemsFor_50 : decode b_ZoneNodesModel_itemsFor 50 = .ok (.aload_n 0, 1) := by decide +kernel
theorem d_ZoneNodesModel_itemsFor_51 : decode b_ZoneNodesModel_itemsFor 51 = .ok (.getfield 162, 3) := by decide +kernel
theorem d_ZoneNodesModel_itemsFor_54 : decode b_ZoneNodesModel_itemsFor 54 = .ok (.if_icmp .ge 35, 3) := by decide +kernel
theorem d_ZoneNodesModel_itemsFor_57 : decode b_ZoneNodesModel_itemsFor 57 = .ok (.iload 4, 2) := by decide +kernel
theorem d_ZoneNodesModel_itemsFor_59 : decode b_ZoneNodesModel_itemsFor 59 = .ok (.iload_n 3, 1) := by decide +kernel
theorem d_ZoneNodesModel_itemsFor_60 : decode b_ZoneNodesModel_itemsFor 60 = .ok (.ifCond .lt 19, 3) := by decide +kernel
theorem d_ZoneNodesModel_itemsFor_63 : decode b_ZoneNodesModel_itemsFor 63 = .ok (.iload 5, 2) := by decide +kernel
theorem d_ZoneNodesModel_itemsFor_65 : decode b_ZoneNodesModel_itemsFor 65 = .ok (.iload_n 3, 1) := by decide +kernel
theorem d_ZoneNodesModel_itemsFor_66 : decode b_ZoneNodesModel_itemsFor 66 = .ok (.if_icmp .lt 13, 3) := by decide +kernel
theorem d_ZoneNodesModel_itemsFor_69 : decode b_ZoneNodesModel_itemsFor 69 = .ok (.aload_n 0, 1) := by decide +kernel
theorem d_ZoneNodesModel_itemsFor_70 : decode b_ZoneNodesModel_itemsFor 70 = .ok (.getfield 53, 3) := by decide +kernel
theorem d_ZoneNodesModel_itemsFor_73 : decode b_ZoneNodesModel_itemsFor 73 = .ok (.iload 5, 2) := by decide +kernel
theorem d_ZoneNodesModel_itemsFor_75 : decode b_ZoneNodesModel_itemsFor 75 = .ok (.iaload, 1) := by decide +kernel
theorem d_ZoneNodesModel_itemsFor_76 : decode b_ZoneNodesModel_itemsFor 76 = .ok (.goto 4, 3) := by decide +kernel
theorem d_ZoneNodesModel_itemsFor_79 : decode b_ZoneNodesModel_itemsFor 79 = .ok (.iconst 0, 1) := by decide +kernel
theorem d_ZoneNodesModel_itemsFor_80 : decode b_ZoneNodesModel_itemsFor 80 = .ok (.iadd, 1) := by decide +kernel
theorem d_ZoneNodesModel_itemsFor_81 : decode b_ZoneNodesModel_itemsFor 81 = .ok (.istore 4, 2) := by decide +kernel
theorem d_ZoneNodesModel_itemsFor_83 : decode b_ZoneNodesModel_itemsFor 83 = .ok (.iinc 5 1, 3) := by decide +kernel
theorem d_ZoneNodesModel_itemsFor_86 : decode b_ZoneNodesModel_itemsFor 86 = .ok (.goto (-38), 3) := by decide +kernel
theorem d_ZoneNodesModel_itemsFor_89 : decode b_ZoneNodesModel_itemsFor 89 = .ok (.iconst 0, 1) := by decide +kernel
theorem d_ZoneNodesModel_itemsFor_90 : decode b_ZoneNodesModel_itemsFor 90 = .ok (.istore 5, 2) := by decide +kernel
theorem d_ZoneNodesModel_itemsFor_92 : decode b_ZoneNodesModel_itemsFor 92 = .ok (.iload 5, 2) := by decide +kernel
theorem d_ZoneNodesModel_itemsFor_94 : decode b_ZoneNodesModel_itemsFor 94 = .ok (.sipush 256, 3) := by decide +kernel
theorem d_ZoneNodesModel_itemsFor_97 : decode b_ZoneNodesModel_itemsFor 97 = .ok (.if_icmp .ge 33, 3) := by decide +kernel
theorem d_ZoneNodesModel_itemsFor_100 : decode b_ZoneNodesModel_itemsFor 100 = .ok (.iload 4, 2) := by decide +kernel
theorem d_ZoneNodesModel_itemsFor_102 : decode b_ZoneNodesModel_itemsFor 102 = .ok (.iload_n 3, 1) := by decide +kernel
theorem d_ZoneNodesModel_itemsFor_103 : decode b_ZoneNodesModel_itemsFor 103 = .ok (.ifCond .ge 17, 3) := by decide +kernel
theorem d_ZoneNodesModel_itemsFor_106 : decode b_ZoneNodesModel_itemsFor 106 = .ok (.aload_n 0, 1) := by decide +kernel
theorem d_ZoneNodesModel_itemsFor_107 : decode b_ZoneNodesModel_itemsFor 107 = .ok (.getfield 20, 3) := by decide +kernel
theorem d_ZoneNodesModel_itemsFor_110 : decode b_ZoneNodesModel_itemsFor 110 = .ok (.iload 5, 2) := by decide +kernel
theorem d_ZoneNodesModel_itemsFor_112 : decode b_ZoneNodesModel_itemsFor 112 = .ok (.baload, 1) := by decide +kernel
theorem d_ZoneNodesModel_itemsFor_113 : decode b_ZoneNodesModel_itemsFor 113 = .ok (.ifCond .eq 7, 3) := by decide +kernel
theorem d_ZoneNodesModel_itemsFor_116 : decode b_ZoneNodesModel_itemsFor 116 = .ok (.iconst 1, 1) := by decide +kernel
theorem d_ZoneNodesModel_itemsFor_117 : decode b_ZoneNodesModel_itemsFor 117 = .ok (.goto 4, 3) := by decide +kernel
theorem d_ZoneNodesModel_itemsFor_120 : decode b_ZoneNodesModel_itemsFor 120 = .ok (.iconst 0, 1) := by decide +kernel
theorem d_ZoneNodesModel_itemsFor_121 : decode b_ZoneNodesModel_itemsFor 121 = .ok (.iadd, 1) := by decide +kernel
theorem d_ZoneNodesModel_itemsFor_122 : decode b_ZoneNodesModel_itemsFor 122 = .ok (.istore 4, 2) := by decide +kernel
theorem d_ZoneNodesModel_itemsFor_124 : decode b_ZoneNodesModel_itemsFor 124 = .ok (.iinc 5 1, 3) := by decide +kernel
theorem d_ZoneNodesModel_itemsFor_127 : decode b_ZoneNodesModel_itemsFor 127 = .ok (.goto (-35), 3) := by decide +kernel
theorem d_ZoneNodesModel_itemsFor_130 : decode b_ZoneNodesModel_itemsFor 130 = .ok (.iload 4, 2) := by decide +kernel
theorem d_ZoneNodesModel_itemsFor_132 : decode b_ZoneNodesModel_itemsFor 132 = .ok (.ireturn, 1) := by decide +kernel
theorem d_ZoneNodesModel_takeFetch_0 : decode b_ZoneNodesModel_takeFetch 0 = .ok (.aload_n 0, 1) := by decide +kernel
theorem d_ZoneNodesModel_takeFetch_1 : decode b_ZoneNodesModel_takeFetch 1 = .ok (.iload_n 2, 1) := by decide +kernel
theorem d_ZoneNodesModel_takeFetch_2 : decode b_ZoneNodesModel_takeFetch 2 = .ok (.iload_n 3, 1) := by decide +kernel
theorem d_ZoneNodesModel_takeFetch_3 : decode b_ZoneNodesModel_takeFetch 3 = .ok (.invokevirtual 197, 3) := by decide +kernel
theorem d_ZoneNodesModel_takeFetch_6 : decode b_ZoneNodesModel_takeFetch 6 = .ok (.istore 4, 2) := by decide +kernel
theorem d_ZoneNodesModel_takeFetch_8 : decode b_ZoneNodesModel_takeFetch 8 = .ok (.iconst 0, 1) := by decide +kernel
theorem d_ZoneNodesModel_takeFetch_9 : decode b_ZoneNodesModel_takeFetch 9 = .ok (.istore 5, 2) := by decide +kernel
theorem d_ZoneNodesModel_takeFetch_11 : decode b_ZoneNodesModel_takeFetch 11 = .ok (.iload 5, 2) := by decide +kernel
theorem d_ZoneNodesModel_takeFetch_13 : decode b_ZoneNodesModel_takeFetch 13 = .ok (.sipush 256, 3) := by decide +kernel
theorem d_ZoneNodesModel_takeFetch_16 : decode b_ZoneNodesModel_takeFetch 16 = .ok (.if_icmp .ge 29, 3) := by decide +kernel
theorem d_ZoneNodesModel_takeFetch_19 : decode b_ZoneNodesModel_takeFetch 19 = .ok (.aload_n 0, 1) := by decide +kernel
theorem d_ZoneNodesModel_takeFetch_20 : decode b_ZoneNodesModel_takeFetch 20 = .ok (.getfield 23, 3) := by decide +kernel
theorem d_ZoneNodesModel_takeFetch_23 : decode b_ZoneNodesModel_takeFetch 23 = .ok (.sipush 256, 3) := by decide +kernel
theorem d_ZoneNodesModel_takeFetch_26 : decode b_ZoneNodesModel_takeFetch 26 = .ok (.iload_n 1, 1) := by decide +kernel
theorem d_ZoneNodesModel_takeFetch_27 : decode b_ZoneNodesModel_takeFetch 27 = .ok (.imul, 1) := by decide +kernel
theorem d_ZoneNodesModel_takeFetch_28 : decode b_ZoneNodesModel_takeFetch 28 = .ok (.iload 5, 2) := by decide +kernel
theorem d_ZoneNodesModel_takeFetch_30 : decode b_ZoneNodesModel_takeFetch 30 = .ok (.iadd, 1) := by decide +kernel
theorem d_ZoneNodesModel_takeFetch_31 : decode b_ZoneNodesModel_takeFetch 31 = .ok (.aload_n 0, 1) := by decide +kernel
theorem d_ZoneNodesModel_takeFetch_32 : decode b_ZoneNodesModel_takeFetch 32 = .ok (.getfield 20, 3) := by decide +kernel
theorem d_ZoneNodesModel_takeFetch_35 : decode b_ZoneNodesModel_takeFetch 35 = .ok (.iload 5, 2) := by decide +kernel
theorem d_ZoneNodesModel_takeFetch_37 : decode b_ZoneNodesModel_takeFetch 37 = .ok (.baload, 1) := by decide +kernel
theorem d_ZoneNodesModel_takeFetch_38 : decode b_ZoneNodesModel_takeFetch 38 = .ok (.bastore, 1) := by decide +kernel
theorem d_ZoneNodesModel_takeFetch_39 : decode b_ZoneNodesModel_takeFetch 39 = .ok (.iinc 5 1, 3) := by decide +kernel
theorem d_ZoneNodesModel_takeFetch_42 : decode b_ZoneNodesModel_takeFetch 42 = .ok (.goto (-31), 3) := by decide +kernel
theorem d_ZoneNodesModel_takeFetch_45 : decode b_ZoneNodesModel_takeFetch 45 = .ok (.iconst 0, 1) := by decide +kernel
theorem d_ZoneNodesModel_takeFetch_46 : decode b_ZoneNodesModel_takeFetch 46 = .ok (.istore 5, 2) := by decide +kernel
theorem d_ZoneNodesModel_takeFetch_48 : decode b_ZoneNodesModel_takeFetch 48 = .ok (.iconst 4, 1) := by decide +kernel
theorem d_ZoneNodesModel_takeFetch_49 : decode b_ZoneNodesModel_takeFetch 49 = .ok (.iload 5, 2) := by decide +kernel
theorem d_ZoneNodesModel_takeFetch_51 : decode b_ZoneNodesModel_takeFetch 51 = .ok (.imul, 1) := by decide +kernel
theorem d_ZoneNodesModel_takeFetch_52 : decode b_ZoneNodesModel_takeFetch 52 = .ok (.iload 4, 2) := by decide +kernel
theorem d_ZoneNodesModel_takeFetch_54 : decode b_ZoneNodesModel_takeFetch 54 = .ok (.if_icmp .ge 56, 3) := by decide +kernel
theorem d_ZoneNodesModel_takeFetch_57 : decode b_ZoneNodesModel_takeFetch 57 = .ok (.iload 4, 2) := by decide +kernel
theorem d_ZoneNodesModel_takeFetch_59 : decode b_ZoneNodesModel_takeFetch 59 = .ok (.iconst 4, 1) := by decide +kernel
theorem d_ZoneNodesModel_takeFetch_60 : decode b_ZoneNodesModel_takeFetch 60 = .ok (.iload 5, 2) := by decide +kernel
theorem d_ZoneNodesModel_takeFetch_62 : decode b_ZoneNodesModel_takeFetch 62 = .ok (.imul, 1) := by decide +kernel
theorem d_ZoneNodesModel_takeFetch_63 : decode b_ZoneNodesModel_takeFetch 63 = .ok (.isub, 1) := by decide +kernel
theorem d_ZoneNodesModel_takeFetch_64 : decode b_ZoneNodesModel_takeFetch 64 = .ok (.istore 6, 2) := by decide +kernel
theorem d_ZoneNodesModel_takeFetch_66 : decode b_ZoneNodesModel_takeFetch 66 = .ok (.aload_n 0, 1) := by decide +kernel
theorem d_ZoneNodesModel_takeFetch_67 : decode b_ZoneNodesModel_takeFetch 67 = .ok (.iconst 5, 1) := by decide +kernel
theorem d_ZoneNodesModel_takeFetch_68 : decode b_ZoneNodesModel_takeFetch 68 = .ok (.iload_n 1, 1) := by decide +kernel
theorem d_ZoneNodesModel_takeFetch_69 : decode b_ZoneNodesModel_takeFetch 69 = .ok (.aload_n 0, 1) := by decide +kernel
theorem d_ZoneNodesModel_takeFetch_70 : decode b_ZoneNodesModel_takeFetch 70 = .ok (.getfield 16, 3) := by decide +kernel
theorem d_ZoneNodesModel_takeFetch_73 : decode b_ZoneNodesModel_takeFetch 73 = .ok (.iconst 0, 1) := by decide +kernel
theorem d_ZoneNodesModel_takeFetch_74 : decode b_ZoneNodesModel_takeFetch 74 = .ok (.iaload, 1) := by decide +kernel
theorem d_ZoneNodesModel_takeFetch_75 : decode b_ZoneNodesModel_takeFetch 75 = .ok (.iload 5, 2) := by decide +kernel
theorem d_ZoneNodesModel_takeFetch_77 : decode b_ZoneNodesModel_takeFetch 77 = .ok (.iload 6, 2) := by decide +kernel
theorem d_ZoneNodesModel_takeFetch_79 : decode b_ZoneNodesModel_takeFetch 79 = .ok (.iconst 4, 1) := by decide +kernel
theorem d_ZoneNodesModel_takeFetch_80 : decode b_ZoneNodesModel_takeFetch 80 = .ok (.if_icmp .ge 8, 3) := by decide +kernel
theorem d_ZoneNodesModel_takeFetch_83 : decode b_ZoneNodesModel_takeFetch 83 = .ok (.iload 6, 2) := by decide +kernel
theorem d_ZoneNodesModel_takeFetch_85 : decode b_ZoneNodesModel_takeFetch 85 = .ok (.goto 4, 3) := by decide +kernel
theorem d_ZoneNodesModel_takeFetch_88 : decode b_ZoneNodesModel_takeFetch 88 = .ok (.iconst 4, 1) := by decide +kernel
theorem d_ZoneNodesModel_takeFetch_89 : decode b_ZoneNodesModel_takeFetch 89 = .ok (.iconst 0, 1) := by decide +kernel
theorem d_ZoneNodesModel_takeFetch_90 : decode b_ZoneNodesModel_takeFetch 90 = .ok (.iload 6, 2) := by decide +kernel
theorem d_ZoneNodesModel_takeFetch_92 : decode b_ZoneNodesModel_takeFetch 92 = .ok (.iconst 4, 1) := by decide +kernel
theorem d_ZoneNodesModel_takeFetch_93 : decode b_ZoneNodesModel_takeFetch 93 = .ok (.if_icmp .gt 7, 3) := by decide +kernel
theorem d_ZoneNodesModel_takeFetch_96 : decode b_ZoneNodesModel_takeFetch 96 = .ok (.iconst 1, 1) := by decide +kernel
theorem d_ZoneNodesModel_takeFetch_97 : decode b_ZoneNodesModel_takeFetch 97 = .ok (.goto 4, 3) := by decide +kernel
theorem d_ZoneNodesModel_takeFetch_100 : decode b_ZoneNodesModel_takeFetch 100 = .ok (.iconst 0, 1) := by decide +kernel
theorem d_ZoneNodesModel_takeFetch_101 : decode b_ZoneNodesModel_takeFetch 101 = .ok (.invokevirtual 180, 3) := by decide +kernel
theorem d_ZoneNodesModel_takeFetch_104 : decode b_ZoneNodesModel_takeFetch 104 = .ok (.iinc 5 1, 3) := by decide +kernel
theorem d_ZoneNodesModel_takeFetch_107 : decode b_ZoneNodesModel_takeFetch 107 = .ok (.goto (-59), 3) := by decide +kernel
theorem d_ZoneNodesModel_takeFetch_110 : decode b_ZoneNodesModel_takeFetch 110 = .ok (.return_, 1) := by decide +kernel
theorem d_ZoneNodesModel_refreshed_0 : decode b_ZoneNodesModel_refreshed 0 = .ok (.aload_n 0, 1) := by decide +kernel
theorem d_ZoneNodesModel_refreshed_1 : decode b_ZoneNodesModel_refreshed 1 = .ok (.iload_n 1, 1) := by decide +kernel
theorem d_ZoneNodesModel_refreshed_2 : decode b_ZoneNodesModel_refreshed 2 = .ok (.aload_n 0, 1) := by decide +kernel
theorem d_ZoneNodesModel_refreshed_3 : decode b_ZoneNodesModel_refreshed 3 = .ok (.getfield 80, 3) := by decide +kernel
theorem d_ZoneNodesModel_refreshed_6 : decode b_ZoneNodesModel_refreshed 6 = .ok (.invokevirtual 94, 3) := by decide +kernel
theorem d_ZoneNodesModel_refreshed_9 : decode b_ZoneNodesModel_refreshed 9 = .ok (.aload_n 0, 1) := by decide +kernel
theorem d_ZoneNodesModel_refreshed_10 : decode b_ZoneNodesModel_refreshed 10 = .ok (.getfield 32, 3) := by decide +kernel
theorem d_ZoneNodesModel_refreshed_13 : decode b_ZoneNodesModel_refreshed 13 = .ok (.iload_n 1, 1) := by decide +kernel
theorem d_ZoneNodesModel_refreshed_14 : decode b_ZoneNodesModel_refreshed 14 = .ok (.aload_n 0, 1) := by decide +kernel
theorem d_ZoneNodesModel_refreshed_15 : decode b_ZoneNodesModel_refreshed 15 = .ok (.getfield 98, 3) := by decide +kernel
theorem d_ZoneNodesModel_refreshed_18 : decode b_ZoneNodesModel_refreshed 18 = .ok (.aload_n 0, 1) := by decide +kernel
theorem d_ZoneNodesModel_refreshed_19 : decode b_ZoneNodesModel_refreshed 19 = .ok (.getfield 87, 3) := by decide +kernel
theorem d_ZoneNodesModel_refreshed_22 : decode b_ZoneNodesModel_refreshed 22 = .ok (.iadd, 1) := by decide +kernel
theorem d_ZoneNodesModel_refreshed_23 : decode b_ZoneNodesModel_refreshed 23 = .ok (.iastore, 1) := by decide +kernel
theorem d_ZoneNodesModel_refreshed_24 : decode b_ZoneNodesModel_refreshed 24 = .ok (.return_, 1) := by decide +kernel
theorem d_ZoneNodesModel_takePart_0 : decode b_ZoneNodesModel_takePart 0 = .ok (.iload_n 3, 1) := by decide +kernel
theorem d_ZoneNodesModel_takePart_1 : decode b_ZoneNodesModel_takePart 1 = .ok (.ifCond .eq 20, 3) := by decide +kernel
theorem d_ZoneNodesModel_takePart_4 : decode b_ZoneNodesModel_takePart 4 = .ok (.aload_n 0, 1) := by decide +kernel
theorem d_ZoneNodesModel_takePart_5 : decode b_ZoneNodesModel_takePart 5 = .ok (.iload_n 1, 1) := by decide +kernel
theorem d_ZoneNodesModel_takePart_6 : decode b_ZoneNodesModel_takePart 6 = .ok (.invokevirtual 201, 3) := by decide +kernel
theorem d_ZoneNodesModel_takePart_9 : decode b_ZoneNodesModel_takePart 9 = .ok (.aload_n 0, 1) := by decide +kernel
theorem d_ZoneNodesModel_takePart_10 : decode b_ZoneNodesModel_takePart 10 = .ok (.iload_n 1, 1) := by decide +kernel
theorem d_ZoneNodesModel_takePart_11 : decode b_ZoneNodesModel_takePart 11 = .ok (.aload_n 0, 1) := by decide +kernel
theorem d_ZoneNodesModel_takePart_12 : decode b_ZoneNodesModel_takePart 12 = .ok (.getfield 84, 3) := by decide +kernel
theorem d_ZoneNodesModel_takePart_15 : decode b_ZoneNodesModel_takePart 15 = .ok (.invokevirtual 94, 3) := by decide +kernel
theorem d_ZoneNodesModel_takePart_18 : decode b_ZoneNodesModel_takePart 18 = .ok (.goto 70, 3) := by decide +kernel
theorem d_ZoneNodesModel_takePart_21 : decode b_ZoneNodesModel_takePart 21 = .ok (.iload 4, 2) := by decide +kernel
theorem d_ZoneNodesModel_takePart_23 : decode b_ZoneNodesModel_takePart 23 = .ok (.ifCond .eq 65, 3) := by decide +kernel
theorem d_ZoneNodesModel_takePart_26 : decode b_ZoneNodesModel_takePart 26 = .ok (.aload_n 0, 1) := by decide +kernel
theorem d_ZoneNodesModel_takePart_27 : decode b_ZoneNodesModel_takePart 27 = .ok (.getfield 13, 3) := by decide +kernel
theorem d_ZoneNodesModel_takePart_30 : decode b_ZoneNodesModel_takePart 30 = .ok (.iload_n 1, 1) := by decide +kernel
theorem d_ZoneNodesModel_takePart_31 : decode b_ZoneNodesModel_takePart 31 = .ok (.iconst 1, 1) := by decide +kernel
theorem d_ZoneNodesModel_takePart_32 : decode b_ZoneNodesModel_takePart 32 = .ok (.bastore, 1) := by decide +kernel
theorem d_ZoneNodesModel_takePart_33 : decode b_ZoneNodesModel_takePart 33 = .ok (.aload_n 0, 1) := by decide +kernel
theorem d_ZoneNodesModel_takePart_34 : decode b_ZoneNodesModel_takePart 34 = .ok (.getfield 16, 3) := by decide +kernel
theorem d_ZoneNodesModel_takePart_37 : decode b_ZoneNodesModel_takePart 37 = .ok (.iload_n 1, 1) := by decide +kernel
theorem d_ZoneNodesModel_takePart_38 : decode b_ZoneNodesModel_takePart 38 = .ok (.iload_n 2, 1) := by decide +kernel
theorem d_ZoneNodesModel_takePart_39 : decode b_ZoneNodesModel_takePart 39 = .ok (.iastore, 1) := by decide +kernel
theorem d_ZoneNodesModel_takePart_40 : decode b_ZoneNodesModel_takePart 40 = .ok (.iconst 0, 1) := by decide +kernel
theorem d_ZoneNodesModel_takePart_41 : decode b_ZoneNodesModel_takePart 41 = .ok (.istore 5, 2) := by decide +kernel
theorem d_ZoneNodesModel_takePart_43 : decode b_ZoneNodesModel_takePart 43 = .ok (.iload 5, 2) := by decide +kernel
theorem d_ZoneNodesModel_takePart_45 : decode b_ZoneNodesModel_takePart 45 = .ok (.sipush 256, 3) := by decide +kernel
theorem d_ZoneNodesModel_takePart_48 : decode b_ZoneNodesModel_takePart 48 = .ok (.if_icmp .ge 35, 3) := by decide +kernel
theorem d_ZoneNodesModel_takePart_51 : decode b_ZoneNodesModel_takePart 51 = .ok (.aload_n 0, 1) := by decide +kernel
theorem d_ZoneNodesModel_takePart_52 : decode b_ZoneNodesModel_takePart 52 = .ok (.getfield 20, 3) := by decide +kernel
theorem d_ZoneNodesModel_takePart_55 : decode b_ZoneNodesModel_takePart 55 = .ok (.sipush 256, 3) := by decide +kernel
theorem d_ZoneNodesModel_takePart_58 : decode b_ZoneNodesModel_takePart 58 = .ok (.iload_n 1, 1) := by decide +kernel
theorem d_ZoneNodesModel_takePart_59 : decode b_ZoneNodesModel_takePart 59 = .ok (.imul, 1) := by decide +kernel
theorem d_ZoneNodesModel_takePart_60 : decode b_ZoneNodesModel_takePart 60 = .ok (.iload 5, 2) := by decide +kernel
theorem d_ZoneNodesModel_takePart_62 : decode b_ZoneNodesModel_takePart 62 = .ok (.iadd, 1) := by decide +kernel
theorem d_ZoneNodesModel_takePart_63 : decode b_ZoneNodesModel_takePart 63 = .ok (.aload_n 0, 1) := by decide +kernel
theorem d_ZoneNodesModel_takePart_64 : decode b_ZoneNodesModel_takePart 64 = .ok (.getfield 23, 3) := by decide +kernel
theorem d_ZoneNodesModel_takePart_67 : decode b_ZoneNodesModel_takePart 67 = .ok (.sipush 256, 3) := by decide +kernel
theorem d_ZoneNodesModel_takePart_70 : decode b_ZoneNodesModel_takePart 70 = .ok (.iload_n 1, 1) := by decide +kernel
theorem d_ZoneNodesModel_takePart_71 : decode b_ZoneNodesModel_takePart 71 = .ok (.imul, 1) := by decide +kernel
theorem d_ZoneNodesModel_takePart_72 : decode b_ZoneNodesModel_takePart 72 = .ok (.iload 5, 2) := by decide +kernel
theorem d_ZoneNodesModel_takePart_74 : decode b_ZoneNodesModel_takePart 74 = .ok (.iadd, 1) := by decide +kernel
theorem d_ZoneNodesModel_takePart_75 : decode b_ZoneNodesModel_takePart 75 = .ok (.baload, 1) := by decide +kernel
theorem d_ZoneNodesModel_takePart_76 : decode b_ZoneNodesModel_takePart 76 = .ok (.bastore, 1) := by decide +kernel
theorem d_ZoneNodesModel_takePart_77 : decode b_ZoneNodesModel_takePart 77 = .ok (.iinc 5 1, 3) := by decide +kernel
theorem d_ZoneNodesModel_takePart_80 : decode b_ZoneNodesModel_takePart 80 = .ok (.goto (-37), 3) := by decide +kernel
theorem d_ZoneNodesModel_takePart_83 : decode b_ZoneNodesModel_takePart 83 = .ok (.aload_n 0, 1) := by decide +kernel
theorem d_ZoneNodesModel_takePart_84 : decode b_ZoneNodesModel_takePart 84 = .ok (.iload_n 1, 1) := by decide +kernel
theorem d_ZoneNodesModel_takePart_85 : decode b_ZoneNodesModel_takePart 85 = .ok (.invokevirtual 194, 3) := by decide +kernel
theorem d_ZoneNodesModel_takePart_88 : decode b_ZoneNodesModel_takePart 88 = .ok (.return_, 1) := by decide +kernel
theorem d_ZoneNodesModel_takeTell_0 : decode b_ZoneNodesModel_takeTell 0 = .ok (.aload_n 0, 1) := by decide +kernel
theorem d_ZoneNodesModel_takeTell_1 : decode b_ZoneNodesModel_takeTell 1 = .ok (.getfield 26, 3) := by decide +kernel
theorem d_ZoneNodesModel_takeTell_4 : decode b_ZoneNodesModel_takeTell 4 = .ok (.iload_n 1, 1) := by decide +kernel
theorem d_ZoneNodesModel_takeTell_5 : decode b_ZoneNodesModel_takeTell 5 = .ok (.iaload, 1) := by decide +kernel
theorem d_ZoneNodesModel_takeTell_6 : decode b_ZoneNodesModel_takeTell 6 = .ok (.iconst 1, 1) := by decide +kernel
theorem d_ZoneNodesModel_takeTell_7 : decode b_ZoneNodesModel_takeTell 7 = .ok (.if_icmp .eq 4, 3) := by decide +kernel
theorem d_ZoneNodesModel_takeTell_10 : decode b_ZoneNodesModel_takeTell 10 = .ok (.return_, 1) := by decide +kernel
theorem d_ZoneNodesModel_takeTell_11 : decode b_ZoneNodesModel_takeTell 11 = .ok (.aload_n 0, 1) := by decide +kernel
theorem d_ZoneNodesModel_takeTell_12 : decode b_ZoneNodesModel_takeTell 12 = .ok (.iload_n 1, 1) := by decide +kernel
theorem d_ZoneNodesModel_takeTell_13 : decode b_ZoneNodesModel_takeTell 13 = .ok (.iload_n 2, 1) := by decide +kernel
theorem d_ZoneNodesModel_takeTell_14 : decode b_ZoneNodesModel_takeTell 14 = .ok (.invokevirtual 190, 3) := by decide +kernel
theorem d_ZoneNodesModel_takeTell_17 : decode b_ZoneNodesModel_takeTell 17 = .ok (.ifCond .ne 11, 3) := by decide +kernel
theorem d_ZoneNodesModel_takeTell_20 : decode b_ZoneNodesModel_takeTell 20 = .ok (.aload_n 0, 1) := by decide +kernel
theorem d_ZoneNodesModel_takeTell_21 : decode b_ZoneNodesModel_takeTell 21 = .ok (.iload_n 1, 1) := by decide +kernel
theorem d_ZoneNodesModel_takeTell_22 : decode b_ZoneNodesModel_takeTell 22 = .ok (.invokevirtual 194, 3) := by decide +kernel
theorem d_ZoneNodesModel_takeTell_25 : decode b_ZoneNodesModel_takeTell 25 = .ok (.goto 52, 3) := by decide +kernel
theorem d_ZoneNodesModel_takeTell_28 : decode b_ZoneNodesModel_takeTell 28 = .ok (.aload_n 0, 1) := by decide +kernel
theorem d_ZoneNodesModel_takeTell_29 : decode b_ZoneNodesModel_takeTell 29 = .ok (.getfield 7, 3) := by decide +kernel
theorem d_ZoneNodesModel_takeTell_32 : decode b_ZoneNodesModel_takeTell 32 = .ok (.iconst 0, 1) := by decide +kernel
theorem d_ZoneNodesModel_takeTell_33 : decode b_ZoneNodesModel_takeTell 33 = .ok (.baload, 1) := by decide +kernel
theorem d_ZoneNodesModel_takeTell_34 : decode b_ZoneNodesModel_takeTell 34 = .ok (.ifCond .ne 15, 3) := by decide +kernel
theorem d_ZoneNodesModel_takeTell_37 : decode b_ZoneNodesModel_takeTell 37 = .ok (.aload_n 0, 1) := by decide +kernel
theorem d_ZoneNodesModel_takeTell_38 : decode b_ZoneNodesModel_takeTell 38 = .ok (.iload_n 1, 1) := by decide +kernel
theorem d_ZoneNodesModel_takeTell_39 : decode b_ZoneNodesModel_takeTell 39 = .ok (.aload_n 0, 1) := by decide +kernel
theorem d_ZoneNodesModel_takeTell_40 : decode b_ZoneNodesModel_takeTell 40 = .ok (.getfield 84, 3) := by decide +kernel
theorem d_ZoneNodesModel_takeTell_43 : decode b_ZoneNodesModel_takeTell 43 = .ok (.invokevirtual 94, 3) := by decide +kernel
theorem d_ZoneNodesModel_takeTell_46 : decode b_ZoneNodesModel_takeTell 46 = .ok (.goto 31, 3) := by decide +kernel
theorem d_ZoneNodesModel_takeTell_49 : decode b_ZoneNodesModel_takeTell 49 = .ok (.aload_n 0, 1) := by decide +kernel
theorem d_ZoneNodesModel_takeTell_50 : decode b_ZoneNodesModel_takeTell 50 = .ok (.iconst 4, 1) := by decide +kernel
theorem d_ZoneNodesModel_takeTell_51 : decode b_ZoneNodesModel_takeTell 51 = .ok (.iload_n 1, 1) := by decide +kernel
theorem d_ZoneNodesModel_takeTell_52 : decode b_ZoneNodesModel_takeTell 52 = .ok (.aload_n 0, 1) := by decide +kernel
theorem d_ZoneNodesModel_takeTell_53 : decode b_ZoneNodesModel_takeTell 53 = .ok (.getfield 16, 3) := by decide +kernel
theorem d_ZoneNodesModel_takeTell_56 : decode b_ZoneNodesModel_takeTell 56 = .ok (.iload_n 1, 1) := by decide +kernel
theorem d_ZoneNodesModel_takeTell_57 : decode b_ZoneNodesModel_takeTell 57 = .ok (.iaload, 1) := by decide +kernel
theorem d_ZoneNodesModel_takeTell_58 : decode b_ZoneNodesModel_takeTell 58 = .ok (.iconst 0, 1) := by decide +kernel
theorem d_ZoneNodesModel_takeTell_59 : decode b_ZoneNodesModel_takeTell 59 = .ok (.iconst 0, 1) := by decide +kernel
theorem d_ZoneNodesModel_takeTell_60 : decode b_ZoneNodesModel_takeTell 60 = .ok (.aload_n 0, 1) := by decide +kernel
theorem d_ZoneNodesModel_takeTell_61 : decode b_ZoneNodesModel_takeTell 61 = .ok (.getfield 13, 3) := by decide +kernel
theorem d_ZoneNodesModel_takeTell_64 : decode b_ZoneNodesModel_takeTell 64 = .ok (.iload_n 1, 1) := by decide +kernel
theorem d_ZoneNodesModel_takeTell_65 : decode b_ZoneNodesModel_takeTell 65 = .ok (.baload, 1) := by decide +kernel
theorem d_ZoneNodesModel_takeTell_66 : decode b_ZoneNodesModel_takeTell 66 = .ok (.iconst 0, 1) := by decide +kernel
theorem d_ZoneNodesModel_takeTell_67 : decode b_ZoneNodesModel_takeTell 67 = .ok (.invokevirtual 180, 3) := by decide +kernel
theorem d_ZoneNodesModel_takeTell_70 : decode b_ZoneNodesModel_takeTell 70 = .ok (.aload_n 0, 1) := by decide +kernel
theorem d_ZoneNodesModel_takeTell_71 : decode b_ZoneNodesModel_takeTell 71 = .ok (.getfield 26, 3) := by decide +kernel
theorem d_ZoneNodesModel_takeTell_74 : decode b_ZoneNodesModel_takeTell 74 = .ok (.iload_n 1, 1) := by decide +kernel
theorem d_ZoneNodesModel_takeTell_75 : decode b_ZoneNodesModel_takeTell 75 = .ok (.iconst 2, 1) := by decide +kernel
theorem d_ZoneNodesModel_takeTell_76 : decode b_ZoneNodesModel_takeTell 76 = .ok (.iastore, 1) := by decide +kernel
theorem d_ZoneNodesModel_takeTell_77 : decode b_ZoneNodesModel_takeTell 77 = .ok (.return_, 1) := by decide +kernel
theorem d_ZoneNodesModel_deliver_0 : decode b_ZoneNodesModel_deliver 0 = .ok (.aload_n 0, 1) := by decide +kernel
theorem d_ZoneNodesModel_deliver_1 : decode b_ZoneNodesModel_deliver 1 = .ok (.iload_n 1, 1) := by decide +kernel
theorem d_ZoneNodesModel_deliver_2 : decode b_ZoneNodesModel_deliver 2 = .ok (.invokevirtual 187, 3) := by decide +kernel
theorem d_ZoneNodesModel_deliver_5 : decode b_ZoneNodesModel_deliver 5 = .ok (.ifCond .ne 5, 3) := by decide +kernel
theorem d_ZoneNodesModel_deliver_8 : decode b_ZoneNodesModel_deliver 8 = .ok (.iconst 0, 1) := by decide +kernel
theorem d_ZoneNodesModel_deliver_9 : decode b_ZoneNodesModel_deliver 9 = .ok (.ireturn, 1) := by decide +kernel
theorem d_ZoneNodesModel_deliver_10 : decode b_ZoneNodesModel_deliver 10 = .ok (.aload_n 0, 1) := by decide +kernel
theorem d_ZoneNodesModel_deliver_11 : decode b_ZoneNodesModel_deliver 11 = .ok (.getfield 59, 3) := by decide +kernel
theorem d_ZoneNodesModel_deliver_14 : decode b_ZoneNodesModel_deliver 14 = .ok (.iload_n 1, 1) := by decide +kernel
theorem d_ZoneNodesModel_deliver_15 : decode b_ZoneNodesModel_deliver 15 = .ok (.iaload, 1) := by decide +kernel
theorem d_ZoneNodesModel_deliver_16 : decode b_ZoneNodesModel_deliver 16 = .ok (.istore_n 2, 1) := by decide +kernel
theorem d_ZoneNodesModel_deliver_17 : decode b_ZoneNodesModel_deliver 17 = .ok (.aload_n 0, 1) := by decide +kernel
theorem d_ZoneNodesModel_deliver_18 : decode b_ZoneNodesModel_deliver 18 = .ok (.getfield 62, 3) := by decide +kernel
theorem d_ZoneNodesModel_deliver_21 : decode b_ZoneNodesModel_deliver 21 = .ok (.iload_n 1, 1) := by decide +kernel
theorem d_ZoneNodesModel_deliver_22 : decode b_ZoneNodesModel_deliver 22 = .ok (.iaload, 1) := by decide +kernel
theorem d_ZoneNodesModel_deliver_23 : decode b_ZoneNodesModel_deliver 23 = .ok (.istore_n 3, 1) := by decide +kernel
theorem d_ZoneNodesModel_deliver_24 : decode b_ZoneNodesModel_deliver 24 = .ok (.aload_n 0, 1) := by decide +kernel
theorem d_ZoneNodesModel_deliver_25 : decode b_ZoneNodesModel_deliver 25 = .ok (.getfield 65, 3) := by decide +kernel
theorem d_ZoneNodesModel_deliver_28 : decode b_ZoneNodesModel_deliver 28 = .ok (.iload_n 1, 1) := by decide +kernel
theorem d_ZoneNodesModel_deliver_29 : decode b_ZoneNodesModel_deliver 29 = .ok (.iaload, 1) := by decide +kernel
theorem d_ZoneNodesModel_deliver_30 : decode b_ZoneNodesModel_deliver 30 = .ok (.istore 4, 2) := by decide +kernel
theorem d_ZoneNodesModel_deliver_32 : decode b_ZoneNodesModel_deliver 32 = .ok (.aload_n 0, 1) := by decide +kernel
theorem d_ZoneNodesModel_deliver_33 : decode b_ZoneNodesModel_deliver 33 = .ok (.getfield 74, 3) := by decide +kernel
theorem d_ZoneNodesModel_deliver_36 : decode b_ZoneNodesModel_deliver 36 = .ok (.iload_n 1, 1) := by decide +kernel
theorem d_ZoneNodesModel_deliver_37 : decode b_ZoneNodesModel_deliver 37 = .ok (.baload, 1) := by decide +kernel
theorem d_ZoneNodesModel_deliver_38 : decode b_ZoneNodesModel_deliver 38 = .ok (.istore 5, 2) := by decide +kernel
theorem d_ZoneNodesModel_deliver_40 : decode b_ZoneNodesModel_deliver 40 = .ok (.aload_n 0, 1) := by decide +kernel
theorem d_ZoneNodesModel_deliver_41 : decode b_ZoneNodesModel_deliver 41 = .ok (.getfield 77, 3) := by decide +kernel
theorem d_ZoneNodesModel_deliver_44 : decode b_ZoneNodesModel_deliver 44 = .ok (.iload_n 1, 1) := by decide +kernel
theorem d_ZoneNodesModel_deliver_45 : decode b_ZoneNodesModel_deliver 45 = .ok (.baload, 1) := by decide +kernel
theorem d_ZoneNodesModel_deliver_46 : decode b_ZoneNodesModel_deliver 46 = .ok (.istore 6, 2) := by decide +kernel
theorem d_ZoneNodesModel_deliver_48 : decode b_ZoneNodesModel_deliver 48 = .ok (.iconst 0, 1) := by decide +kernel
theorem d_ZoneNodesModel_deliver_49 : decode b_ZoneNodesModel_deliver 49 = .ok (.istore 7, 2) := by decide +kernel
theorem d_ZoneNodesModel_deliver_51 : decode b_ZoneNodesModel_deliver 51 = .ok (.iload 7, 2) := by decide +kernel
theorem d_ZoneNodesModel_deliver_53 : decode b_ZoneNodesModel_deliver 53 = .ok (.iload_n 1, 1) := by decide +kernel
theorem d_ZoneNodesModel_deliver_54 : decode b_ZoneNodesModel_deliver 54 = .ok (.if_icmp .ge 38, 3) := by decide +kernel
theorem d_ZoneNodesModel_deliver_57 : decode b_ZoneNodesModel_deliver 57 = .ok (.iload_n 2, 1) := by decide +kernel
theorem d_ZoneNodesModel_deliver_58 : decode b_ZoneNodesModel_deliver 58 = .ok (.iconst 5, 1) := by decide +kernel
theorem d_ZoneNodesModel_deliver_59 : decode b_ZoneNodesModel_deliver 59 = .ok (.if_icmp .ne 27, 3) := by decide +kernel
theorem d_ZoneNodesModel_deliver_62 : decode b_ZoneNodesModel_deliver 62 = .ok (.aload_n 0, 1) := by decide +kernel
theorem d_ZoneNodesModel_deliver_63 : decode b_ZoneNodesModel_deliver 63 = .ok (.getfield 59, 3) := by decide +kernel
theorem d_ZoneNodesModel_deliver_66 : decode b_ZoneNodesModel_deliver 66 = .ok (.iload 7, 2) := by decide +kernel
theorem d_ZoneNodesModel_deliver_68 : decode b_ZoneNodesModel_deliver 68 = .ok (.iaload, 1) := by decide +kernel
theorem d_ZoneNodesModel_deliver_69 : decode b_ZoneNodesModel_deliver 69 = .ok (.iconst 5, 1) := by decide +kernel
theorem d_ZoneNodesModel_deliver_70 : decode b_ZoneNodesModel_deliver 70 = .ok (.if_icmp .ne 16, 3) := by decide +kernel
theorem d_ZoneNodesModel_deliver_73 : decode b_ZoneNodesModel_deliver 73 = .ok (.aload_n 0, 1) := by decide +kernel
theorem d_ZoneNodesModel_deliver_74 : decode b_ZoneNodesModel_deliver 74 = .ok (.getfield 62, 3) := by decide +kernel
theorem d_ZoneNodesModel_deliver_77 : decode b_ZoneNodesModel_deliver 77 = .ok (.iload 7, 2) := by decide +kernel
theorem d_ZoneNodesModel_deliver_79 : decode b_ZoneNodesModel_deliver 79 = .ok (.iaload, 1) := by decide +kernel
theorem d_ZoneNodesModel_deliver_80 : decode b_ZoneNodesModel_deliver 80 = .ok (.iload_n 3, 1) := by decide +kernel
theorem d_ZoneNodesModel_deliver_81 : decode b_ZoneNodesModel_deliver 81 = .ok (.if_icmp .ne 5, 3) := by decide +kernel
theorem d_ZoneNodesModel_deliver_84 : decode b_ZoneNodesModel_deliver 84 = .ok (.iconst 0, 1) := by decide +kernel
theorem d_ZoneNodesModel_deliver_85 : decode b_ZoneNodesModel_deliver 85 = .ok (.ireturn, 1) := by decide +kernel
theorem d_ZoneNodesModel_deliver_86 : decode b_ZoneNodesModel_deliver 86 = .ok (.iinc 7 1, 3) := by decide +kernel
theorem d_ZoneNodesModel_deliver_89 : decode b_ZoneNodesModel_deliver 89 = .ok (.goto (-38), 3) := by decide +kernel
theorem d_ZoneNodesModel_deliver_92 : decode b_ZoneNodesModel_deliver 92 = .ok (.aload_n 0, 1) := by decide +kernel
theorem d_ZoneNodesModel_deliver_93 : decode b_ZoneNodesModel_deliver 93 = .ok (.iload_n 1, 1) := by decide +kernel
theorem d_ZoneNodesModel_deliver_94 : decode b_ZoneNodesModel_deliver 94 = .ok (.invokevirtual 184, 3) := by decide +kernel
theorem d_ZoneNodesModel_deliver_97 : decode b_ZoneNodesModel_deliver 97 = .ok (.iload_n 2, 1) := by decide +kernel
theorem d_ZoneNodesModel_deliver_98 : decode b_ZoneNodesModel_deliver 98 = .ok (.iconst 2, 1) := by decide +kernel
theorem d_ZoneNodesModel_deliver_99 : decode b_ZoneNodesModel_deliver 99 = .ok (.if_icmp .eq 8, 3) := by decide +kernel
theorem d_ZoneNodesModel_deliver_102 : decode b_ZoneNodesModel_deliver 102 = .ok (.iload_n 2, 1) := by decide +kernel
theorem d_ZoneNodesModel_deliver_103 : decode b_ZoneNodesModel_deliver 103 = .ok (.iconst 4, 1) := by decide +kernel
theorem d_ZoneNodesModel_deliver_104 : decode b_ZoneNodesModel_deliver 104 = .ok (.if_icmp .ne 7, 3) := by decide +kernel
theorem d_ZoneNodesModel_deliver_107 : decode b_ZoneNodesModel_deliver 107 = .ok (.iconst 0, 1) := by decide +kernel
theorem d_ZoneNodesModel_deliver_108 : decode b_ZoneNodesModel_deliver 108 = .ok (.goto 4, 3) := by decide +kernel
theorem d_ZoneNodesModel_deliver_111 : decode b_ZoneNodesModel_deliver 111 = .ok (.iload_n 3, 1) := by decide +kernel
theorem d_ZoneNodesModel_deliver_112 : decode b_ZoneNodesModel_deliver 112 = .ok (.istore 7, 2) := by decide +kernel
theorem d_ZoneNodesModel_deliver_114 : decode b_ZoneNodesModel_deliver 114 = .ok (.aload_n 0, 1) := by decide +kernel
theorem d_ZoneNodesModel_deliver_115 : decode b_ZoneNodesModel_deliver 115 = .ok (.getfield 7, 3) := by decide +kernel
theorem d_ZoneNodesModel_deliver_118 : decode b_ZoneNodesModel_deliver 118 = .ok (.iload 7, 2) := by decide +kernel
theorem d_ZoneNodesModel_deliver_120 : decode b_ZoneNodesModel_deliver 120 = .ok (.baload, 1) := by decide +kernel
theorem d_ZoneNodesModel_deliver_121 : decode b_ZoneNodesModel_deliver 121 = .ok (.ifCond .ne 5, 3) := by decide +kernel
theorem d_ZoneNodesModel_deliver_124 : decode b_ZoneNodesModel_deliver 124 = .ok (.iconst 1, 1) := by decide +kernel
theorem d_ZoneNodesModel_deliver_125 : decode b_ZoneNodesModel_deliver 125 = .ok (.ireturn, 1) := by decide +kernel
theorem d_ZoneNodesModel_deliver_126 : decode b_ZoneNodesModel_deliver 126 = .ok (.iload_n 2, 1) := by decide +kernel
theorem d_ZoneNodesModel_deliver_127 : decode b_ZoneNodesModel_deliver 127 = .ok (.iconst 1, 1) := by decide +kernel
theorem d_ZoneNodesModel_deliver_128 : decode b_ZoneNodesModel_deliver 128 = .ok (.if_icmp .ne 27, 3) := by decide +kernel
theorem d_ZoneNodesModel_deliver_131 : decode b_ZoneNodesModel_deliver 131 = .ok (.aload_n 0, 1) := by decide +kernel
theorem d_ZoneNodesModel_deliver_132 : decode b_ZoneNodesModel_deliver 132 = .ok (.getfield 26, 3) := by decide +kernel
theorem d_ZoneNodesModel_deliver_135 : decode b_ZoneNodesModel_deliver 135 = .ok (.iload_n 3, 1) := by decide +kernel
theorem d_ZoneNodesModel_deliver_136 : decode b_ZoneNodesModel_deliver 136 = .ok (.iaload, 1) := by decide +kernel
theorem d_ZoneNodesModel_deliver_137 : decode b_ZoneNodesModel_deliver 137 = .ok (.ifCond .ne 18, 3) := by decide +kernel
theorem d_ZoneNodesModel_deliver_140 : decode b_ZoneNodesModel_deliver 140 = .ok (.aload_n 0, 1) := by decide +kernel
theorem d_ZoneNodesModel_deliver_141 : decode b_ZoneNodesModel_deliver 141 = .ok (.iload_n 3, 1) := by decide +kernel
theorem d_ZoneNodesModel_deliver_142 : decode b_ZoneNodesModel_deliver 142 = .ok (.iload 4, 2) := by decide +kernel
theorem d_ZoneNodesModel_deliver_144 : decode b_ZoneNodesModel_deliver 144 = .ok (.invokevirtual 190, 3) := by decide +kernel
theorem d_ZoneNodesModel_deliver_147 : decode b_ZoneNodesModel_deliver 147 = .ok (.ifCond .eq 8, 3) := by decide +kernel
theorem d_ZoneNodesModel_deliver_150 : decode b_ZoneNodesModel_deliver 150 = .ok (.aload_n 0, 1) := by decide +kernel
theorem d_ZoneNodesModel_deliver_151 : decode b_ZoneNodesModel_deliver 151 = .ok (.iload_n 3, 1) := by decide +kernel
theorem d_ZoneNodesModel_deliver_152 : decode b_ZoneNodesModel_deliver 152 = .ok (.invokevirtual 204, 3) := by decide +kernel
theorem d_ZoneNodesModel_deliver_155 : decode b_ZoneNodesModel_deliver 155 = .ok (.iload_n 2, 1) := by decide +kernel
theorem d_ZoneNodesModel_deliver_156 : decode b_ZoneNodesModel_deliver 156 = .ok (.iconst 2, 1) := by decide +kernel
theorem d_ZoneNodesModel_deliver_157 : decode b_ZoneNodesModel_deliver 157 = .ok (.if_icmp .ne 15, 3) := by decide +kernel
theorem d_ZoneNodesModel_deliver_160 : decode b_ZoneNodesModel_deliver 160 = .ok (.aload_n 0, 1) := by decide +kernel
theorem d_ZoneNodesModel_deliver_161 : decode b_ZoneNodesModel_deliver 161 = .ok (.iconst 3, 1) := by decide +kernel
theorem d_ZoneNodesModel_deliver_162 : decode b_ZoneNodesModel_deliver 162 = .ok (.iload_n 3, 1) := by decide +kernel
theorem d_ZoneNodesModel_deliver_163 : decode b_ZoneNodesModel_deliver 163 = .ok (.aload_n 0, 1) := by decide +kernel
theorem d_ZoneNodesModel_deliver_164 : decode b_ZoneNodesModel_deliver 164 = .ok (.getfield 16, 3) := by decide +kernel
theorem d_ZoneNodesModel_deliver_167 : decode b_ZoneNodesModel_deliver 167 = .ok (.iconst 0, 1) := by decide +kernel
theorem d_ZoneNodesModel_deliver_168 : decode b_ZoneNodesModel_deliver 168 = .ok (.iaload, 1) := by decide +kernel
theorem d_ZoneNodesModel_deliver_169 : decode b_ZoneNodesModel_deliver 169 = .ok (.invokevirtual 174, 3) := by decide +kernel
theorem d_ZoneNodesModel_deliver_172 : decode b_ZoneNodesModel_deliver 172 = .ok (.iload_n 2, 1) := by decide +kernel
theorem d_ZoneNodesModel_deliver_173 : decode b_ZoneNodesModel_deliver 173 = .ok (.iconst 3, 1) := by decide +kernel
theorem d_ZoneNodesModel_deliver_174 : decode b_ZoneNodesModel_deliver 174 = .ok (.if_icmp .ne 10, 3) := by decide +kernel
theorem d_ZoneNodesModel_deliver_177 : decode b_ZoneNodesModel_deliver 177 = .ok (.aload_n 0, 1) := by decide +kernel
theorem d_ZoneNodesModel_deliver_178 : decode b_ZoneNodesModel_deliver 178 = .ok (.iload_n 3, 1) := by decide +kernel
theorem d_ZoneNodesModel_deliver_179 : decode b_ZoneNodesModel_deliver 179 = .ok (.iload 4, 2) := by decide +kernel
theorem d_ZoneNodesModel_deliver_181 : decode b_ZoneNodesModel_deliver 181 = .ok (.invokevirtual 207, 3) := by decide +kernel
theorem d_ZoneNodesModel_deliver_184 : decode b_ZoneNodesModel_deliver 184 = .ok (.iload_n 2, 1) := by decide +kernel
theorem d_ZoneNodesModel_deliver_185 : decode b_ZoneNodesModel_deliver 185 = .ok (.iconst 4, 1) := by decide +kernel
theorem d_ZoneNodesModel_deliver_186 : decode b_ZoneNodesModel_deliver 186 = .ok (.if_icmp .ne 12, 3) := by decide +kernel
theorem d_ZoneNodesModel_deliver_189 : decode b_ZoneNodesModel_deliver 189 = .ok (.aload_n 0, 1) := by decide +kernel
theorem d_ZoneNodesModel_deliver_190 : decode b_ZoneNodesModel_deliver 190 = .ok (.iload_n 3, 1) := by decide +kernel
theorem d_ZoneNodesModel_deliver_191 : decode b_ZoneNodesModel_deliver 191 = .ok (.iload 5, 2) := by decide +kernel
theorem d_ZoneNodesModel_deliver_193 : decode b_ZoneNodesModel_deliver 193 = .ok (.iload 4, 2) := by decide +kernel
theorem d_ZoneNodesModel_deliver_195 : decode b_ZoneNodesModel_deliver 195 = .ok (.invokevirtual 210, 3) := by decide +kernel
theorem d_ZoneNodesModel_deliver_198 : decode b_ZoneNodesModel_deliver 198 = .ok (.iload_n 2, 1) := by decide +kernel
theorem d_ZoneNodesModel_deliver_199 : decode b_ZoneNodesModel_deliver 199 = .ok (.iconst 5, 1) := by decide +kernel
theorem d_ZoneNodesModel_deliver_200 : decode b_ZoneNodesModel_deliver 200 = .ok (.if_icmp .ne 14, 3) := by decide +kernel
theorem d_ZoneNodesModel_deliver_203 : decode b_ZoneNodesModel_deliver 203 = .ok (.aload_n 0, 1) := by decide +kernel
theorem d_ZoneNodesModel_deliver_204 : decode b_ZoneNodesModel_deliver 204 = .ok (.iload_n 3, 1) := by decide +kernel
theorem d_ZoneNodesModel_deliver_205 : decode b_ZoneNodesModel_deliver 205 = .ok (.iload 4, 2) := by decide +kernel
theorem d_ZoneNodesModel_deliver_207 : decode b_ZoneNodesModel_deliver 207 = .ok (.iload 5, 2) := by decide +kernel
theorem d_ZoneNodesModel_deliver_209 : decode b_ZoneNodesModel_deliver 209 = .ok (.iload 6, 2) := by decide +kernel
theorem d_ZoneNodesModel_deliver_211 : decode b_ZoneNodesModel_deliver 211 = .ok (.invokevirtual 214, 3) := by decide +kernel
theorem d_ZoneNodesModel_deliver_214 : decode b_ZoneNodesModel_deliver 214 = .ok (.iconst 1, 1) := by decide +kernel
theorem d_ZoneNodesModel_deliver_215 : decode b_ZoneNodesModel_deliver 215 = .ok (.ireturn, 1) := by decide +kernel
theorem d_ZoneNodesModel_drop_0 : decode b_ZoneNodesModel_drop 0 = .ok (.aload_n 0, 1) := by decide +kernel
theorem d_ZoneNodesModel_drop_1 : decode b_ZoneNodesModel_drop 1 = .ok (.iload_n 1, 1) := by decide +kernel
theorem d_ZoneNodesModel_drop_2 : decode b_ZoneNodesModel_drop 2 = .ok (.invokevirtual 187, 3) := by decide +kernel
theorem d_ZoneNodesModel_drop_5 : decode b_ZoneNodesModel_drop 5 = .ok (.ifCond .eq 13, 3) := by decide +kernel
theorem d_ZoneNodesModel_drop_8 : decode b_ZoneNodesModel_drop 8 = .ok (.aload_n 0, 1) := by decide +kernel
