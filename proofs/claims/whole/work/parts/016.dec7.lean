theorem d_ZoneNodesModel_size_39 : decode b_ZoneNodesModel_size 39 = .ok (.iload_n 2, 1) := by decide +kernel
theorem d_ZoneNodesModel_size_40 : decode b_ZoneNodesModel_size 40 = .ok (.aload_n 0, 1) := by decide +kernel
theorem d_ZoneNodesModel_size_41 : decode b_ZoneNodesModel_size 41 = .ok (.getfield 20, 3) := by decide +kernel
theorem d_ZoneNodesModel_size_44 : decode b_ZoneNodesModel_size 44 = .ok (.iload_n 3, 1) := by decide +kernel
theorem d_ZoneNodesModel_size_45 : decode b_ZoneNodesModel_size 45 = .ok (.baload, 1) := by decide +kernel
theorem d_ZoneNodesModel_size_46 : decode b_ZoneNodesModel_size 46 = .ok (.ifCond .eq 7, 3) := by decide +kernel
theorem d_ZoneNodesModel_size_49 : decode b_ZoneNodesModel_size 49 = .ok (.iconst 1, 1) := by decide +kernel
theorem d_ZoneNodesModel_size_50 : decode b_ZoneNodesModel_size 50 = .ok (.goto 4, 3) := by decide +kernel
theorem d_ZoneNodesModel_size_53 : decode b_ZoneNodesModel_size 53 = .ok (.iconst 0, 1) := by decide +kernel
theorem d_ZoneNodesModel_size_54 : decode b_ZoneNodesModel_size 54 = .ok (.iadd, 1) := by decide +kernel
theorem d_ZoneNodesModel_size_55 : decode b_ZoneNodesModel_size 55 = .ok (.istore_n 2, 1) := by decide +kernel
theorem d_ZoneNodesModel_size_56 : decode b_ZoneNodesModel_size 56 = .ok (.iinc 3 1, 3) := by decide +kernel
theorem d_ZoneNodesModel_size_59 : decode b_ZoneNodesModel_size 59 = .ok (.goto (-33), 3) := by decide +kernel
theorem d_ZoneNodesModel_size_62 : decode b_ZoneNodesModel_size 62 = .ok (.iload_n 2, 1) := by decide +kernel
theorem d_ZoneNodesModel_size_63 : decode b_ZoneNodesModel_size 63 = .ok (.ireturn, 1) := by decide +kernel
theorem d_ZoneNodesModel_state_0 : decode b_ZoneNodesModel_state 0 = .ok (.iload_n 1, 1) := by decide +kernel
theorem d_ZoneNodesModel_state_1 : decode b_ZoneNodesModel_state 1 = .ok (.invokestatic 218, 3) := by decide +kernel
theorem d_ZoneNodesModel_state_4 : decode b_ZoneNodesModel_state 4 = .ok (.ifCond .ne 7, 3) := by decide +kernel
theorem d_ZoneNodesModel_state_7 : decode b_ZoneNodesModel_state 7 = .ok (.iconst (-1), 1) := by decide +kernel
theorem d_ZoneNodesModel_state_8 : decode b_ZoneNodesModel_state 8 = .ok (.goto 30, 3) := by decide +kernel
theorem d_ZoneNodesModel_state_11 : decode b_ZoneNodesModel_state 11 = .ok (.aload_n 0, 1) := by decide +kernel
theorem d_ZoneNodesModel_state_12 : decode b_ZoneNodesModel_state 12 = .ok (.getfield 7, 3) := by decide +kernel
theorem d_ZoneNodesModel_state_15 : decode b_ZoneNodesModel_state 15 = .ok (.iload_n 1, 1) := by decide +kernel
theorem d_ZoneNodesModel_state_16 : decode b_ZoneNodesModel_state 16 = .ok (.baload, 1) := by decide +kernel
theorem d_ZoneNodesModel_state_17 : decode b_ZoneNodesModel_state 17 = .ok (.ifCond .ne 7, 3) := by decide +kernel
theorem d_ZoneNodesModel_state_20 : decode b_ZoneNodesModel_state 20 = .ok (.iconst 3, 1) := by decide +kernel
theorem d_ZoneNodesModel_state_21 : decode b_ZoneNodesModel_state 21 = .ok (.goto 17, 3) := by decide +kernel
theorem d_ZoneNodesModel_state_24 : decode b_ZoneNodesModel_state 24 = .ok (.iload_n 1, 1) := by decide +kernel
theorem d_ZoneNodesModel_state_25 : decode b_ZoneNodesModel_state 25 = .ok (.ifCond .ne 7, 3) := by decide +kernel
theorem d_ZoneNodesModel_state_28 : decode b_ZoneNodesModel_state 28 = .ok (.iconst 0, 1) := by decide +kernel
theorem d_ZoneNodesModel_state_29 : decode b_ZoneNodesModel_state 29 = .ok (.goto 9, 3) := by decide +kernel
theorem d_ZoneNodesModel_state_32 : decode b_ZoneNodesModel_state 32 = .ok (.aload_n 0, 1) := by decide +kernel
theorem d_ZoneNodesModel_state_33 : decode b_ZoneNodesModel_state 33 = .ok (.getfield 26, 3) := by decide +kernel
theorem d_ZoneNodesModel_state_36 : decode b_ZoneNodesModel_state 36 = .ok (.iload_n 1, 1) := by decide +kernel
theorem d_ZoneNodesModel_state_37 : decode b_ZoneNodesModel_state 37 = .ok (.iaload, 1) := by decide +kernel
theorem d_ZoneNodesModel_state_38 : decode b_ZoneNodesModel_state 38 = .ok (.ireturn, 1) := by decide +kernel
theorem d_ZoneNodesModel_tick_0 : decode b_ZoneNodesModel_tick 0 = .ok (.iload_n 1, 1) := by decide +kernel
theorem d_ZoneNodesModel_tick_1 : decode b_ZoneNodesModel_tick 1 = .ok (.iconst 1, 1) := by decide +kernel
theorem d_ZoneNodesModel_tick_2 : decode b_ZoneNodesModel_tick 2 = .ok (.if_icmp .lt 9, 3) := by decide +kernel
theorem d_ZoneNodesModel_tick_5 : decode b_ZoneNodesModel_tick 5 = .ok (.iload_n 1, 1) := by decide +kernel
theorem d_ZoneNodesModel_tick_6 : decode b_ZoneNodesModel_tick 6 = .ok (.bipush 20, 2) := by decide +kernel
theorem d_ZoneNodesModel_tick_8 : decode b_ZoneNodesModel_tick 8 = .ok (.if_icmp .le 5, 3) := by decide +kernel
theorem d_ZoneNodesModel_tick_11 : decode b_ZoneNodesModel_tick 11 = .ok (.iconst 0, 1) := by decide +kernel
theorem d_ZoneNodesModel_tick_12 : decode b_ZoneNodesModel_tick 12 = .ok (.ireturn, 1) := by decide +kernel
theorem d_ZoneNodesModel_tick_13 : decode b_ZoneNodesModel_tick 13 = .ok (.iconst 0, 1) := by decide +kernel
theorem d_ZoneNodesModel_tick_14 : decode b_ZoneNodesModel_tick 14 = .ok (.istore_n 2, 1) := by decide +kernel
theorem d_ZoneNodesModel_tick_15 : decode b_ZoneNodesModel_tick 15 = .ok (.iload_n 2, 1) := by decide +kernel
theorem d_ZoneNodesModel_tick_16 : decode b_ZoneNodesModel_tick 16 = .ok (.iload_n 1, 1) := by decide +kernel
theorem d_ZoneNodesModel_tick_17 : decode b_ZoneNodesModel_tick 17 = .ok (.if_icmp .ge 120, 3) := by decide +kernel
theorem d_ZoneNodesModel_tick_20 : decode b_ZoneNodesModel_tick 20 = .ok (.aload_n 0, 1) := by decide +kernel
theorem d_ZoneNodesModel_tick_21 : decode b_ZoneNodesModel_tick 21 = .ok (.dup, 1) := by decide +kernel
theorem d_ZoneNodesModel_tick_22 : decode b_ZoneNodesModel_tick 22 = .ok (.getfield 98, 3) := by decide +kernel
theorem d_ZoneNodesModel_tick_25 : decode b_ZoneNodesModel_tick 25 = .ok (.iconst 1, 1) := by decide +kernel
theorem d_ZoneNodesModel_tick_26 : decode b_ZoneNodesModel_tick 26 = .ok (.iadd, 1) := by decide +kernel
theorem d_ZoneNodesModel_tick_27 : decode b_ZoneNodesModel_tick 27 = .ok (.putfield 98, 3) := by decide +kernel
theorem d_ZoneNodesModel_tick_30 : decode b_ZoneNodesModel_tick 30 = .ok (.iconst 1, 1) := by decide +kernel
theorem d_ZoneNodesModel_tick_31 : decode b_ZoneNodesModel_tick 31 = .ok (.istore_n 3, 1) := by decide +kernel
theorem d_ZoneNodesModel_tick_32 : decode b_ZoneNodesModel_tick 32 = .ok (.iload_n 3, 1) := by decide +kernel
theorem d_ZoneNodesModel_tick_33 : decode b_ZoneNodesModel_tick 33 = .ok (.iconst 2, 1) := by decide +kernel
theorem d_ZoneNodesModel_tick_34 : decode b_ZoneNodesModel_tick 34 = .ok (.if_icmp .gt 97, 3) := by decide +kernel
theorem d_ZoneNodesModel_tick_37 : decode b_ZoneNodesModel_tick 37 = .ok (.aload_n 0, 1) := by decide +kernel
theorem d_ZoneNodesModel_tick_38 : decode b_ZoneNodesModel_tick 38 = .ok (.getfield 26, 3) := by decide +kernel
theorem d_ZoneNodesModel_tick_41 : decode b_ZoneNodesModel_tick 41 = .ok (.iload_n 3, 1) := by decide +kernel
theorem d_ZoneNodesModel_tick_42 : decode b_ZoneNodesModel_tick 42 = .ok (.iaload, 1) := by decide +kernel
theorem d_ZoneNodesModel_tick_43 : decode b_ZoneNodesModel_tick 43 = .ok (.iconst 1, 1) := by decide +kernel
theorem d_ZoneNodesModel_tick_44 : decode b_ZoneNodesModel_tick 44 = .ok (.if_icmp .ne 25, 3) := by decide +kernel
theorem d_ZoneNodesModel_tick_47 : decode b_ZoneNodesModel_tick 47 = .ok (.aload_n 0, 1) := by decide +kernel
theorem d_ZoneNodesModel_tick_48 : decode b_ZoneNodesModel_tick 48 = .ok (.getfield 29, 3) := by decide +kernel
theorem d_ZoneNodesModel_tick_51 : decode b_ZoneNodesModel_tick 51 = .ok (.iload_n 3, 1) := by decide +kernel
theorem d_ZoneNodesModel_tick_52 : decode b_ZoneNodesModel_tick 52 = .ok (.iaload, 1) := by decide +kernel
theorem d_ZoneNodesModel_tick_53 : decode b_ZoneNodesModel_tick 53 = .ok (.aload_n 0, 1) := by decide +kernel
theorem d_ZoneNodesModel_tick_54 : decode b_ZoneNodesModel_tick 54 = .ok (.getfield 98, 3) := by decide +kernel
theorem d_ZoneNodesModel_tick_57 : decode b_ZoneNodesModel_tick 57 = .ok (.aload_n 0, 1) := by decide +kernel
theorem d_ZoneNodesModel_tick_58 : decode b_ZoneNodesModel_tick 58 = .ok (.getfield 84, 3) := by decide +kernel
theorem d_ZoneNodesModel_tick_61 : decode b_ZoneNodesModel_tick 61 = .ok (.isub, 1) := by decide +kernel
theorem d_ZoneNodesModel_tick_62 : decode b_ZoneNodesModel_tick 62 = .ok (.if_icmp .gt 7, 3) := by decide +kernel
theorem d_ZoneNodesModel_tick_65 : decode b_ZoneNodesModel_tick 65 = .ok (.iconst 1, 1) := by decide +kernel
theorem d_ZoneNodesModel_tick_66 : decode b_ZoneNodesModel_tick 66 = .ok (.goto 4, 3) := by decide +kernel
theorem d_ZoneNodesModel_tick_69 : decode b_ZoneNodesModel_tick 69 = .ok (.iconst 0, 1) := by decide +kernel
theorem d_ZoneNodesModel_tick_70 : decode b_ZoneNodesModel_tick 70 = .ok (.istore 4, 2) := by decide +kernel
theorem d_ZoneNodesModel_tick_72 : decode b_ZoneNodesModel_tick 72 = .ok (.aload_n 0, 1) := by decide +kernel
theorem d_ZoneNodesModel_tick_73 : decode b_ZoneNodesModel_tick 73 = .ok (.getfield 26, 3) := by decide +kernel
theorem d_ZoneNodesModel_tick_76 : decode b_ZoneNodesModel_tick 76 = .ok (.iload_n 3, 1) := by decide +kernel
theorem d_ZoneNodesModel_tick_77 : decode b_ZoneNodesModel_tick 77 = .ok (.iaload, 1) := by decide +kernel
theorem d_ZoneNodesModel_tick_78 : decode b_ZoneNodesModel_tick 78 = .ok (.ifCond .ne 20, 3) := by decide +kernel
theorem d_ZoneNodesModel_tick_81 : decode b_ZoneNodesModel_tick 81 = .ok (.aload_n 0, 1) := by decide +kernel
theorem d_ZoneNodesModel_tick_82 : decode b_ZoneNodesModel_tick 82 = .ok (.getfield 29, 3) := by decide +kernel
theorem d_ZoneNodesModel_tick_85 : decode b_ZoneNodesModel_tick 85 = .ok (.iload_n 3, 1) := by decide +kernel
theorem d_ZoneNodesModel_tick_86 : decode b_ZoneNodesModel_tick 86 = .ok (.iaload, 1) := by decide +kernel
theorem d_ZoneNodesModel_tick_87 : decode b_ZoneNodesModel_tick 87 = .ok (.aload_n 0, 1) := by decide +kernel
theorem d_ZoneNodesModel_tick_88 : decode b_ZoneNodesModel_tick 88 = .ok (.getfield 98, 3) := by decide +kernel
theorem d_ZoneNodesModel_tick_91 : decode b_ZoneNodesModel_tick 91 = .ok (.if_icmp .gt 7, 3) := by decide +kernel
theorem d_ZoneNodesModel_tick_94 : decode b_ZoneNodesModel_tick 94 = .ok (.iconst 1, 1) := by decide +kernel
theorem d_ZoneNodesModel_tick_95 : decode b_ZoneNodesModel_tick 95 = .ok (.goto 4, 3) := by decide +kernel
theorem d_ZoneNodesModel_tick_98 : decode b_ZoneNodesModel_tick 98 = .ok (.iconst 0, 1) := by decide +kernel
theorem d_ZoneNodesModel_tick_99 : decode b_ZoneNodesModel_tick 99 = .ok (.istore 5, 2) := by decide +kernel
theorem d_ZoneNodesModel_tick_101 : decode b_ZoneNodesModel_tick 101 = .ok (.aload_n 0, 1) := by decide +kernel
theorem d_ZoneNodesModel_tick_102 : decode b_ZoneNodesModel_tick 102 = .ok (.getfield 7, 3) := by decide +kernel
theorem d_ZoneNodesModel_tick_105 : decode b_ZoneNodesModel_tick 105 = .ok (.iload_n 3, 1) := by decide +kernel
theorem d_ZoneNodesModel_tick_106 : decode b_ZoneNodesModel_tick 106 = .ok (.baload, 1) := by decide +kernel
theorem d_ZoneNodesModel_tick_107 : decode b_ZoneNodesModel_tick 107 = .ok (.ifCond .eq 18, 3) := by decide +kernel
theorem d_ZoneNodesModel_tick_110 : decode b_ZoneNodesModel_tick 110 = .ok (.iload 4, 2) := by decide +kernel
theorem d_ZoneNodesModel_tick_112 : decode b_ZoneNodesModel_tick 112 = .ok (.ifCond .ne 8, 3) := by decide +kernel
theorem d_ZoneNodesModel_tick_115 : decode b_ZoneNodesModel_tick 115 = .ok (.iload 5, 2) := by decide +kernel
theorem d_ZoneNodesModel_tick_117 : decode b_ZoneNodesModel_tick 117 = .ok (.ifCond .eq 8, 3) := by decide +kernel
theorem d_ZoneNodesModel_tick_120 : decode b_ZoneNodesModel_tick 120 = .ok (.aload_n 0, 1) := by decide +kernel
theorem d_ZoneNodesModel_tick_121 : decode b_ZoneNodesModel_tick 121 = .ok (.iload_n 3, 1) := by decide +kernel
theorem d_ZoneNodesModel_tick_122 : decode b_ZoneNodesModel_tick 122 = .ok (.invokevirtual 204, 3) := by decide +kernel
theorem d_ZoneNodesModel_tick_125 : decode b_ZoneNodesModel_tick 125 = .ok (.iinc 3 1, 3) := by decide +kernel
theorem d_ZoneNodesModel_tick_128 : decode b_ZoneNodesModel_tick 128 = .ok (.goto (-96), 3) := by decide +kernel
theorem d_ZoneNodesModel_tick_131 : decode b_ZoneNodesModel_tick 131 = .ok (.iinc 2 1, 3) := by decide +kernel
theorem d_ZoneNodesModel_tick_134 : decode b_ZoneNodesModel_tick 134 = .ok (.goto (-119), 3) := by decide +kernel
theorem d_ZoneNodesModel_tick_137 : decode b_ZoneNodesModel_tick 137 = .ok (.iconst 1, 1) := by decide +kernel
theorem d_ZoneNodesModel_tick_138 : decode b_ZoneNodesModel_tick 138 = .ok (.ireturn, 1) := by decide +kernel
theorem d_ZoneNodesModel_works_0 : decode b_ZoneNodesModel_works 0 = .ok (.iconst 0, 1) := by decide +kernel
theorem d_ZoneNodesModel_works_1 : decode b_ZoneNodesModel_works 1 = .ok (.istore_n 3, 1) := by decide +kernel
theorem d_ZoneNodesModel_works_2 : decode b_ZoneNodesModel_works 2 = .ok (.iload_n 1, 1) := by decide +kernel
theorem d_ZoneNodesModel_works_3 : decode b_ZoneNodesModel_works 3 = .ok (.istore 4, 2) := by decide +kernel
theorem d_ZoneNodesModel_works_5 : decode b_ZoneNodesModel_works 5 = .ok (.iload 4, 2) := by decide +kernel
theorem d_ZoneNodesModel_works_7 : decode b_ZoneNodesModel_works 7 = .ok (.iload_n 2, 1) := by decide +kernel
theorem d_ZoneNodesModel_works_8 : decode b_ZoneNodesModel_works 8 = .ok (.if_icmp .ge 27, 3) := by decide +kernel
theorem d_ZoneNodesModel_works_11 : decode b_ZoneNodesModel_works 11 = .ok (.iload_n 3, 1) := by decide +kernel
theorem d_ZoneNodesModel_works_12 : decode b_ZoneNodesModel_works 12 = .ok (.aload_n 0, 1) := by decide +kernel
theorem d_ZoneNodesModel_works_13 : decode b_ZoneNodesModel_works 13 = .ok (.getfield 56, 3) := by decide +kernel
theorem d_ZoneNodesModel_works_16 : decode b_ZoneNodesModel_works 16 = .ok (.iload 4, 2) := by decide +kernel
theorem d_ZoneNodesModel_works_18 : decode b_ZoneNodesModel_works 18 = .ok (.baload, 1) := by decide +kernel
theorem d_ZoneNodesModel_works_19 : decode b_ZoneNodesModel_works 19 = .ok (.ifCond .eq 7, 3) := by decide +kernel
theorem d_ZoneNodesModel_works_22 : decode b_ZoneNodesModel_works 22 = .ok (.iconst 1, 1) := by decide +kernel
theorem d_ZoneNodesModel_works_23 : decode b_ZoneNodesModel_works 23 = .ok (.goto 4, 3) := by decide +kernel
theorem d_ZoneNodesModel_works_26 : decode b_ZoneNodesModel_works 26 = .ok (.iconst 0, 1) := by decide +kernel
theorem d_ZoneNodesModel_works_27 : decode b_ZoneNodesModel_works 27 = .ok (.iadd, 1) := by decide +kernel
theorem d_ZoneNodesModel_works_28 : decode b_ZoneNodesModel_works 28 = .ok (.istore_n 3, 1) := by decide +kernel
theorem d_ZoneNodesModel_works_29 : decode b_ZoneNodesModel_works 29 = .ok (.iinc 4 1, 3) := by decide +kernel
theorem d_ZoneNodesModel_works_32 : decode b_ZoneNodesModel_works 32 = .ok (.goto (-27), 3) := by decide +kernel
theorem d_ZoneNodesModel_works_35 : decode b_ZoneNodesModel_works 35 = .ok (.iload_n 3, 1) := by decide +kernel
theorem d_ZoneNodesModel_works_36 : decode b_ZoneNodesModel_works 36 = .ok (.ireturn, 1) := by decide +kernel
theorem d_ZoneNodesModel_add_0 : decode b_ZoneNodesModel_add 0 = .ok (.aload_n 0, 1) := by decide +kernel
theorem d_ZoneNodesModel_add_1 : decode b_ZoneNodesModel_add 1 = .ok (.bipush 32, 2) := by decide +kernel
theorem d_ZoneNodesModel_add_3 : decode b_ZoneNodesModel_add 3 = .ok (.iload_n 1, 1) := by decide +kernel
theorem d_ZoneNodesModel_add_4 : decode b_ZoneNodesModel_add 4 = .ok (.imul, 1) := by decide +kernel
theorem d_ZoneNodesModel_add_5 : decode b_ZoneNodesModel_add 5 = .ok (.bipush 32, 2) := by decide +kernel
theorem d_ZoneNodesModel_add_7 : decode b_ZoneNodesModel_add 7 = .ok (.iload_n 1, 1) := by decide +kernel
theorem d_ZoneNodesModel_add_8 : decode b_ZoneNodesModel_add 8 = .ok (.imul, 1) := by decide +kernel
theorem d_ZoneNodesModel_add_9 : decode b_ZoneNodesModel_add 9 = .ok (.bipush 32, 2) := by decide +kernel
theorem d_ZoneNodesModel_add_11 : decode b_ZoneNodesModel_add 11 = .ok (.iadd, 1) := by decide +kernel
theorem d_ZoneNodesModel_add_12 : decode b_ZoneNodesModel_add 12 = .ok (.invokevirtual 141, 3) := by decide +kernel
theorem d_ZoneNodesModel_add_15 : decode b_ZoneNodesModel_add 15 = .ok (.istore 4, 2) := by decide +kernel
theorem d_ZoneNodesModel_add_17 : decode b_ZoneNodesModel_add 17 = .ok (.aload_n 0, 1) := by decide +kernel
theorem d_ZoneNodesModel_add_18 : decode b_ZoneNodesModel_add 18 = .ok (.iload_n 1, 1) := by decide +kernel
theorem d_ZoneNodesModel_add_19 : decode b_ZoneNodesModel_add 19 = .ok (.iconst 2, 1) := by decide +kernel
theorem d_ZoneNodesModel_add_20 : decode b_ZoneNodesModel_add 20 = .ok (.iconst 0, 1) := by decide +kernel
theorem d_ZoneNodesModel_add_21 : decode b_ZoneNodesModel_add 21 = .ok (.invokestatic 90, 3) := by decide +kernel
theorem d_ZoneNodesModel_add_24 : decode b_ZoneNodesModel_add 24 = .ok (.iload_n 1, 1) := by decide +kernel
theorem d_ZoneNodesModel_add_25 : decode b_ZoneNodesModel_add 25 = .ok (.iconst 2, 1) := by decide +kernel
theorem d_ZoneNodesModel_add_26 : decode b_ZoneNodesModel_add 26 = .ok (.iconst 0, 1) := by decide +kernel
theorem d_ZoneNodesModel_add_27 : decode b_ZoneNodesModel_add 27 = .ok (.invokestatic 90, 3) := by decide +kernel
theorem d_ZoneNodesModel_add_30 : decode b_ZoneNodesModel_add 30 = .ok (.bipush 8, 2) := by decide +kernel
theorem d_ZoneNodesModel_add_32 : decode b_ZoneNodesModel_add 32 = .ok (.iadd, 1) := by decide +kernel
theorem d_ZoneNodesModel_add_33 : decode b_ZoneNodesModel_add 33 = .ok (.invokevirtual 141, 3) := by decide +kernel
theorem d_ZoneNodesModel_add_36 : decode b_ZoneNodesModel_add 36 = .ok (.istore 5, 2) := by decide +kernel
theorem d_ZoneNodesModel_add_38 : decode b_ZoneNodesModel_add 38 = .ok (.iload_n 2, 1) := by decide +kernel
theorem d_ZoneNodesModel_add_39 : decode b_ZoneNodesModel_add 39 = .ok (.iconst 2, 1) := by decide +kernel
theorem d_ZoneNodesModel_add_40 : decode b_ZoneNodesModel_add 40 = .ok (.if_icmp .eq 16, 3) := by decide +kernel
theorem d_ZoneNodesModel_add_43 : decode b_ZoneNodesModel_add 43 = .ok (.iload 5, 2) := by decide +kernel
theorem d_ZoneNodesModel_add_45 : decode b_ZoneNodesModel_add 45 = .ok (.ifCond .ne 7, 3) := by decide +kernel
theorem d_ZoneNodesModel_add_48 : decode b_ZoneNodesModel_add 48 = .ok (.iconst 1, 1) := by decide +kernel
theorem d_ZoneNodesModel_add_49 : decode b_ZoneNodesModel_add 49 = .ok (.goto 23, 3) := by decide +kernel
theorem d_ZoneNodesModel_add_52 : decode b_ZoneNodesModel_add 52 = .ok (.iconst 0, 1) := by decide +kernel
theorem d_ZoneNodesModel_add_53 : decode b_ZoneNodesModel_add 53 = .ok (.goto 19, 3) := by decide +kernel
theorem d_ZoneNodesModel_add_56 : decode b_ZoneNodesModel_add 56 = .ok (.iload_n 1, 1) := by decide +kernel
theorem d_ZoneNodesModel_add_57 : decode b_ZoneNodesModel_add 57 = .ok (.ifCond .eq 14, 3) := by decide +kernel
theorem d_ZoneNodesModel_add_60 : decode b_ZoneNodesModel_add 60 = .ok (.iload 4, 2) := by decide +kernel
theorem d_ZoneNodesModel_add_62 : decode b_ZoneNodesModel_add 62 = .ok (.iload 5, 2) := by decide +kernel
theorem d_ZoneNodesModel_add_64 : decode b_ZoneNodesModel_add 64 = .ok (.if_icmp .ne 7, 3) := by decide +kernel
theorem d_ZoneNodesModel_add_67 : decode b_ZoneNodesModel_add 67 = .ok (.iconst 1, 1) := by decide +kernel
theorem d_ZoneNodesModel_add_68 : decode b_ZoneNodesModel_add 68 = .ok (.goto 4, 3) := by decide +kernel
theorem d_ZoneNodesModel_add_71 : decode b_ZoneNodesModel_add 71 = .ok (.iconst 0, 1) := by decide +kernel
theorem d_ZoneNodesModel_add_72 : decode b_ZoneNodesModel_add 72 = .ok (.istore 6, 2) := by decide +kernel
theorem d_ZoneNodesModel_add_74 : decode b_ZoneNodesModel_add 74 = .ok (.iconst 0, 1) := by decide +kernel
theorem d_ZoneNodesModel_add_75 : decode b_ZoneNodesModel_add 75 = .ok (.istore 7, 2) := by decide +kernel
theorem d_ZoneNodesModel_add_77 : decode b_ZoneNodesModel_add 77 = .ok (.iload 7, 2) := by decide +kernel
theorem d_ZoneNodesModel_add_79 : decode b_ZoneNodesModel_add 79 = .ok (.bipush 8, 2) := by decide +kernel
theorem d_ZoneNodesModel_add_81 : decode b_ZoneNodesModel_add 81 = .ok (.if_icmp .ge 32, 3) := by decide +kernel
theorem d_ZoneNodesModel_add_84 : decode b_ZoneNodesModel_add 84 = .ok (.iload 6, 2) := by decide +kernel
theorem d_ZoneNodesModel_add_86 : decode b_ZoneNodesModel_add 86 = .ok (.ifCond .eq 27, 3) := by decide +kernel
theorem d_ZoneNodesModel_add_89 : decode b_ZoneNodesModel_add 89 = .ok (.iload_n 2, 1) := by decide +kernel
theorem d_ZoneNodesModel_add_90 : decode b_ZoneNodesModel_add 90 = .ok (.iconst 2, 1) := by decide +kernel
theorem d_ZoneNodesModel_add_91 : decode b_ZoneNodesModel_add 91 = .ok (.if_icmp .ne 22, 3) := by decide +kernel
theorem d_ZoneNodesModel_add_94 : decode b_ZoneNodesModel_add 94 = .ok (.aload_n 0, 1) := by decide +kernel
theorem d_ZoneNodesModel_add_95 : decode b_ZoneNodesModel_add 95 = .ok (.getfield 56, 3) := by decide +kernel
theorem d_ZoneNodesModel_add_98 : decode b_ZoneNodesModel_add 98 = .ok (.iload_n 1, 1) := by decide +kernel
theorem d_ZoneNodesModel_add_99 : decode b_ZoneNodesModel_add 99 = .ok (.iconst 2, 1) := by decide +kernel
theorem d_ZoneNodesModel_add_100 : decode b_ZoneNodesModel_add 100 = .ok (.iload 7, 2) := by decide +kernel
theorem d_ZoneNodesModel_add_102 : decode b_ZoneNodesModel_add 102 = .ok (.invokestatic 90, 3) := by decide +kernel
theorem d_ZoneNodesModel_add_105 : decode b_ZoneNodesModel_add 105 = .ok (.iconst 0, 1) := by decide +kernel
theorem d_ZoneNodesModel_add_106 : decode b_ZoneNodesModel_add 106 = .ok (.bastore, 1) := by decide +kernel
theorem d_ZoneNodesModel_add_107 : decode b_ZoneNodesModel_add 107 = .ok (.iinc 7 1, 3) := by decide +kernel
theorem d_ZoneNodesModel_add_110 : decode b_ZoneNodesModel_add 110 = .ok (.goto (-33), 3) := by decide +kernel
theorem d_ZoneNodesModel_add_113 : decode b_ZoneNodesModel_add 113 = .ok (.iload 6, 2) := by decide +kernel
theorem d_ZoneNodesModel_add_115 : decode b_ZoneNodesModel_add 115 = .ok (.ifCond .eq 15, 3) := by decide +kernel
theorem d_ZoneNodesModel_add_118 : decode b_ZoneNodesModel_add 118 = .ok (.aload_n 0, 1) := by decide +kernel
theorem d_ZoneNodesModel_add_119 : decode b_ZoneNodesModel_add 119 = .ok (.getfield 56, 3) := by decide +kernel
theorem d_ZoneNodesModel_add_122 : decode b_ZoneNodesModel_add 122 = .ok (.iload_n 1, 1) := by decide +kernel
theorem d_ZoneNodesModel_add_123 : decode b_ZoneNodesModel_add 123 = .ok (.iload_n 2, 1) := by decide +kernel
theorem d_ZoneNodesModel_add_124 : decode b_ZoneNodesModel_add 124 = .ok (.iload_n 3, 1) := by decide +kernel
theorem d_ZoneNodesModel_add_125 : decode b_ZoneNodesModel_add 125 = .ok (.invokestatic 90, 3) := by decide +kernel
theorem d_ZoneNodesModel_add_128 : decode b_ZoneNodesModel_add 128 = .ok (.iconst 1, 1) := by decide +kernel
theorem d_ZoneNodesModel_add_129 : decode b_ZoneNodesModel_add 129 = .ok (.bastore, 1) := by decide +kernel
theorem d_ZoneNodesModel_add_130 : decode b_ZoneNodesModel_add 130 = .ok (.return_, 1) := by decide +kernel
theorem d_ZoneNodesModel_perform_0 : decode b_ZoneNodesModel_perform 0 = .ok (.aload_n 0, 1) := by decide +kernel
theorem d_ZoneNodesModel_perform_1 : decode b_ZoneNodesModel_perform 1 = .ok (.getfield 41, 3) := by decide +kernel
theorem d_ZoneNodesModel_perform_4 : decode b_ZoneNodesModel_perform 4 = .ok (.iconst 4, 1) := by decide +kernel
theorem d_ZoneNodesModel_perform_5 : decode b_ZoneNodesModel_perform 5 = .ok (.iload_n 1, 1) := by decide +kernel
theorem d_ZoneNodesModel_perform_6 : decode b_ZoneNodesModel_perform 6 = .ok (.imul, 1) := by decide +kernel
theorem d_ZoneNodesModel_perform_7 : decode b_ZoneNodesModel_perform 7 = .ok (.iaload, 1) := by decide +kernel
theorem d_ZoneNodesModel_perform_8 : decode b_ZoneNodesModel_perform 8 = .ok (.istore_n 2, 1) := by decide +kernel
theorem d_ZoneNodesModel_perform_9 : decode b_ZoneNodesModel_perform 9 = .ok (.aload_n 0, 1) := by decide +kernel
theorem d_ZoneNodesModel_perform_10 : decode b_ZoneNodesModel_perform 10 = .ok (.getfield 41, 3) := by decide +kernel
theorem d_ZoneNodesModel_perform_13 : decode b_ZoneNodesModel_perform 13 = .ok (.iconst 4, 1) := by decide +kernel
theorem d_ZoneNodesModel_perform_14 : decode b_ZoneNodesModel_perform 14 = .ok (.iload_n 1, 1) := by decide +kernel
theorem d_ZoneNodesModel_perform_15 : decode b_ZoneNodesModel_perform 15 = .ok (.imul, 1) := by decide +kernel
theorem d_ZoneNodesModel_perform_16 : decode b_ZoneNodesModel_perform 16 = .ok (.iconst 1, 1) := by decide +kernel
theorem d_ZoneNodesModel_perform_17 : decode b_ZoneNodesModel_perform 17 = .ok (.iadd, 1) := by decide +kernel
theorem d_ZoneNodesModel_perform_18 : decode b_ZoneNodesModel_perform 18 = .ok (.iaload, 1) := by decide +kernel
theorem d_ZoneNodesModel_perform_19 : decode b_ZoneNodesModel_perform 19 = .ok (.istore_n 3, 1) := by decide +kernel
theorem d_ZoneNodesModel_perform_20 : decode b_ZoneNodesModel_perform 20 = .ok (.aload_n 0, 1) := by decide +kernel
theorem d_ZoneNodesModel_perform_21 : decode b_ZoneNodesModel_perform 21 = .ok (.getfield 41, 3) := by decide +kernel
theorem d_ZoneNodesModel_perform_24 : decode b_ZoneNodesModel_perform 24 = .ok (.iconst 4, 1) := by decide +kernel
theorem d_ZoneNodesModel_perform_25 : decode b_ZoneNodesModel_perform 25 = .ok (.iload_n 1, 1) := by decide +kernel
theorem d_ZoneNodesModel_perform_26 : decode b_ZoneNodesModel_perform 26 = .ok (.imul, 1) := by decide +kernel
theorem d_ZoneNodesModel_perform_27 : decode b_ZoneNodesModel_perform 27 = .ok (.iconst 2, 1) := by decide +kernel
theorem d_ZoneNodesModel_perform_28 : decode b_ZoneNodesModel_perform 28 = .ok (.iadd, 1) := by decide +kernel
theorem d_ZoneNodesModel_perform_29 : decode b_ZoneNodesModel_perform 29 = .ok (.iaload, 1) := by decide +kernel
theorem d_ZoneNodesModel_perform_30 : decode b_ZoneNodesModel_perform 30 = .ok (.istore 4, 2) := by decide +kernel
theorem d_ZoneNodesModel_perform_32 : decode b_ZoneNodesModel_perform 32 = .ok (.iload_n 3, 1) := by decide +kernel
theorem d_ZoneNodesModel_perform_33 : decode b_ZoneNodesModel_perform 33 = .ok (.iload 4, 2) := by decide +kernel
theorem d_ZoneNodesModel_perform_35 : decode b_ZoneNodesModel_perform 35 = .ok (.aload_n 0, 1) := by decide +kernel
theorem d_ZoneNodesModel_perform_36 : decode b_ZoneNodesModel_perform 36 = .ok (.getfield 41, 3) := by decide +kernel
theorem d_ZoneNodesModel_perform_39 : decode b_ZoneNodesModel_perform 39 = .ok (.iconst 4, 1) := by decide +kernel
theorem d_ZoneNodesModel_perform_40 : decode b_ZoneNodesModel_perform 40 = .ok (.iload_n 1, 1) := by decide +kernel
theorem d_ZoneNodesModel_perform_41 : decode b_ZoneNodesModel_perform 41 = .ok (.imul, 1) := by decide +kernel
theorem d_ZoneNodesModel_perform_42 : decode b_ZoneNodesModel_perform 42 = .ok (.iconst 3, 1) := by decide +kernel
theorem d_ZoneNodesModel_perform_43 : decode b_ZoneNodesModel_perform 43 = .ok (.iadd, 1) := by decide +kernel
theorem d_ZoneNodesModel_perform_44 : decode b_ZoneNodesModel_perform 44 = .ok (.iaload, 1) := by decide +kernel
theorem d_ZoneNodesModel_perform_45 : decode b_ZoneNodesModel_perform 45 = .ok (.invokestatic 90, 3) := by decide +kernel
theorem d_ZoneNodesModel_perform_48 : decode b_ZoneNodesModel_perform 48 = .ok (.istore 5, 2) := by decide +kernel
theorem d_ZoneNodesModel_perform_50 : decode b_ZoneNodesModel_perform 50 = .ok (.iconst 0, 1) := by decide +kernel
theorem d_ZoneNodesModel_perform_51 : decode b_ZoneNodesModel_perform 51 = .ok (.iconst 3, 1) := by decide +kernel
theorem d_ZoneNodesModel_perform_52 : decode b_ZoneNodesModel_perform 52 = .ok (.iconst 0, 1) := by decide +kernel
theorem d_ZoneNodesModel_perform_53 : decode b_ZoneNodesModel_perform 53 = .ok (.invokestatic 90, 3) := by decide +kernel
theorem d_ZoneNodesModel_perform_56 : decode b_ZoneNodesModel_perform 56 = .ok (.istore 6, 2) := by decide +kernel
theorem d_ZoneNodesModel_perform_58 : decode b_ZoneNodesModel_perform 58 = .ok (.iload_n 2, 1) := by decide +kernel
theorem d_ZoneNodesModel_perform_59 : decode b_ZoneNodesModel_perform 59 = .ok (.ifCond .ne 20, 3) := by decide +kernel
theorem d_ZoneNodesModel_perform_62 : decode b_ZoneNodesModel_perform 62 = .ok (.aload_n 0, 1) := by decide +kernel
theorem d_ZoneNodesModel_perform_63 : decode b_ZoneNodesModel_perform 63 = .ok (.iload_n 3, 1) := by decide +kernel
theorem d_ZoneNodesModel_perform_64 : decode b_ZoneNodesModel_perform 64 = .ok (.iload 4, 2) := by decide +kernel
theorem d_ZoneNodesModel_perform_66 : decode b_ZoneNodesModel_perform 66 = .ok (.aload_n 0, 1) := by decide +kernel
theorem d_ZoneNodesModel_perform_67 : decode b_ZoneNodesModel_perform 67 = .ok (.getfield 41, 3) := by decide +kernel
theorem d_ZoneNodesModel_perform_70 : decode b_ZoneNodesModel_perform 70 = .ok (.iconst 4, 1) := by decide +kernel
theorem d_ZoneNodesModel_perform_71 : decode b_ZoneNodesModel_perform 71 = .ok (.iload_n 1, 1) := by decide +kernel
theorem d_ZoneNodesModel_perform_72 : decode b_ZoneNodesModel_perform 72 = .ok (.imul, 1) := by decide +kernel
theorem d_ZoneNodesModel_perform_73 : decode b_ZoneNodesModel_perform 73 = .ok (.iconst 3, 1) := by decide +kernel
theorem d_ZoneNodesModel_perform_74 : decode b_ZoneNodesModel_perform 74 = .ok (.iadd, 1) := by decide +kernel
theorem d_ZoneNodesModel_perform_75 : decode b_ZoneNodesModel_perform 75 = .ok (.iaload, 1) := by decide +kernel
theorem d_ZoneNodesModel_perform_76 : decode b_ZoneNodesModel_perform 76 = .ok (.invokevirtual 144, 3) := by decide +kernel
theorem d_ZoneNodesModel_perform_79 : decode b_ZoneNodesModel_perform 79 = .ok (.bipush 32, 2) := by decide +kernel
theorem d_ZoneNodesModel_perform_81 : decode b_ZoneNodesModel_perform 81 = .ok (.iload_n 3, 1) := by decide +kernel
theorem d_ZoneNodesModel_perform_82 : decode b_ZoneNodesModel_perform 82 = .ok (.imul, 1) := by decide +kernel
theorem d_ZoneNodesModel_perform_83 : decode b_ZoneNodesModel_perform 83 = .ok (.istore 7, 2) := by decide +kernel
theorem d_ZoneNodesModel_perform_85 : decode b_ZoneNodesModel_perform 85 = .ok (.iload 7, 2) := by decide +kernel
theorem d_ZoneNodesModel_perform_87 : decode b_ZoneNodesModel_perform 87 = .ok (.bipush 32, 2) := by decide +kernel
theorem d_ZoneNodesModel_perform_89 : decode b_ZoneNodesModel_perform 89 = .ok (.iload_n 3, 1) := by decide +kernel
theorem d_ZoneNodesModel_perform_90 : decode b_ZoneNodesModel_perform 90 = .ok (.imul, 1) := by decide +kernel
theorem d_ZoneNodesModel_perform_91 : decode b_ZoneNodesModel_perform 91 = .ok (.bipush 32, 2) := by decide +kernel
theorem d_ZoneNodesModel_perform_93 : decode b_ZoneNodesModel_perform 93 = .ok (.iadd, 1) := by decide +kernel
theorem d_ZoneNodesModel_perform_94 : decode b_ZoneNodesModel_perform 94 = .ok (.if_icmp .ge 104, 3) := by decide +kernel
theorem d_ZoneNodesModel_perform_97 : decode b_ZoneNodesModel_perform 97 = .ok (.iload_n 2, 1) := by decide +kernel
theorem d_ZoneNodesModel_perform_98 : decode b_ZoneNodesModel_perform 98 = .ok (.iconst 1, 1) := by decide +kernel
theorem d_ZoneNodesModel_perform_99 : decode b_ZoneNodesModel_perform 99 = .ok (.if_icmp .eq 8, 3) := by decide +kernel
theorem d_ZoneNodesModel_perform_102 : decode b_ZoneNodesModel_perform 102 = .ok (.iload_n 2, 1) := by decide +kernel
theorem d_ZoneNodesModel_perform_103 : decode b_ZoneNodesModel_perform 103 = .ok (.iconst 2, 1) := by decide +kernel
theorem d_ZoneNodesModel_perform_104 : decode b_ZoneNodesModel_perform 104 = .ok (.if_icmp .ne 94, 3) := by decide +kernel
theorem d_ZoneNodesModel_perform_107 : decode b_ZoneNodesModel_perform 107 = .ok (.iload 7, 2) := by decide +kernel
theorem d_ZoneNodesModel_perform_109 : decode b_ZoneNodesModel_perform 109 = .ok (.iload 6, 2) := by decide +kernel
theorem d_ZoneNodesModel_perform_111 : decode b_ZoneNodesModel_perform 111 = .ok (.if_icmp .lt 17, 3) := by decide +kernel
theorem d_ZoneNodesModel_perform_114 : decode b_ZoneNodesModel_perform 114 = .ok (.iload 7, 2) := by decide +kernel
theorem d_ZoneNodesModel_perform_116 : decode b_ZoneNodesModel_perform 116 = .ok (.iload 6, 2) := by decide +kernel
theorem d_ZoneNodesModel_perform_118 : decode b_ZoneNodesModel_perform 118 = .ok (.bipush 8, 2) := by decide +kernel
theorem d_ZoneNodesModel_perform_120 : decode b_ZoneNodesModel_perform 120 = .ok (.iadd, 1) := by decide +kernel
theorem d_ZoneNodesModel_perform_121 : decode b_ZoneNodesModel_perform 121 = .ok (.if_icmp .ge 7, 3) := by decide +kernel
theorem d_ZoneNodesModel_perform_124 : decode b_ZoneNodesModel_perform 124 = .ok (.iconst 1, 1) := by decide +kernel
theorem d_ZoneNodesModel_perform_125 : decode b_ZoneNodesModel_perform 125 = .ok (.goto 4, 3) := by decide +kernel
theorem d_ZoneNodesModel_perform_128 : decode b_ZoneNodesModel_perform 128 = .ok (.iconst 0, 1) := by decide +kernel
theorem d_ZoneNodesModel_perform_129 : decode b_ZoneNodesModel_perform 129 = .ok (.istore 8, 2) := by decide +kernel
theorem d_ZoneNodesModel_perform_131 : decode b_ZoneNodesModel_perform 131 = .ok (.iload 8, 2) := by decide +kernel
theorem d_ZoneNodesModel_perform_133 : decode b_ZoneNodesModel_perform 133 = .ok (.ifCond .ne 29, 3) := by decide +kernel
theorem d_ZoneNodesModel_perform_136 : decode b_ZoneNodesModel_perform 136 = .ok (.iload_n 2, 1) := by decide +kernel
theorem d_ZoneNodesModel_perform_137 : decode b_ZoneNodesModel_perform 137 = .ok (.iconst 2, 1) := by decide +kernel
theorem d_ZoneNodesModel_perform_138 : decode b_ZoneNodesModel_perform 138 = .ok (.if_icmp .eq 20, 3) := by decide +kernel
theorem d_ZoneNodesModel_perform_141 : decode b_ZoneNodesModel_perform 141 = .ok (.iload 7, 2) := by decide +kernel
theorem d_ZoneNodesModel_perform_143 : decode b_ZoneNodesModel_perform 143 = .ok (.bipush 32, 2) := by decide +kernel
theorem d_ZoneNodesModel_perform_145 : decode b_ZoneNodesModel_perform 145 = .ok (.iload_n 3, 1) := by decide +kernel
theorem d_ZoneNodesModel_perform_146 : decode b_ZoneNodesModel_perform 146 = .ok (.imul, 1) := by decide +kernel
theorem d_ZoneNodesModel_perform_147 : decode b_ZoneNodesModel_perform 147 = .ok (.isub, 1) := by decide +kernel
theorem d_ZoneNodesModel_perform_148 : decode b_ZoneNodesModel_perform 148 = .ok (.bipush 8, 2) := by decide +kernel
theorem d_ZoneNodesModel_perform_150 : decode b_ZoneNodesModel_perform 150 = .ok (.idiv, 1) := by decide +kernel
theorem d_ZoneNodesModel_perform_151 : decode b_ZoneNodesModel_perform 151 = .ok (.iload 4, 2) := by decide +kernel
theorem d_ZoneNodesModel_perform_153 : decode b_ZoneNodesModel_perform 153 = .ok (.iconst 1, 1) := by decide +kernel
theorem d_ZoneNodesModel_perform_154 : decode b_ZoneNodesModel_perform 154 = .ok (.isub, 1) := by decide +kernel
theorem d_ZoneNodesModel_perform_155 : decode b_ZoneNodesModel_perform 155 = .ok (.if_icmp .ne 7, 3) := by decide +kernel
theorem d_ZoneNodesModel_perform_158 : decode b_ZoneNodesModel_perform 158 = .ok (.iconst 1, 1) := by decide +kernel
theorem d_ZoneNodesModel_perform_159 : decode b_ZoneNodesModel_perform 159 = .ok (.goto 4, 3) := by decide +kernel
theorem d_ZoneNodesModel_perform_162 : decode b_ZoneNodesModel_perform 162 = .ok (.iconst 0, 1) := by decide +kernel
theorem d_ZoneNodesModel_perform_163 : decode b_ZoneNodesModel_perform 163 = .ok (.istore 9, 2) := by decide +kernel
theorem d_ZoneNodesModel_perform_165 : decode b_ZoneNodesModel_perform 165 = .ok (.aload_n 0, 1) := by decide +kernel
theorem d_ZoneNodesModel_perform_166 : decode b_ZoneNodesModel_perform 166 = .ok (.getfield 56, 3) := by decide +kernel
theorem d_ZoneNodesModel_perform_169 : decode b_ZoneNodesModel_perform 169 = .ok (.iload 7, 2) := by decide +kernel
theorem d_ZoneNodesModel_perform_171 : decode b_ZoneNodesModel_perform 171 = .ok (.aload_n 0, 1) := by decide +kernel
theorem d_ZoneNodesModel_perform_172 : decode b_ZoneNodesModel_perform 172 = .ok (.getfield 56, 3) := by decide +kernel
theorem d_ZoneNodesModel_perform_175 : decode b_ZoneNodesModel_perform 175 = .ok (.iload 7, 2) := by decide +kernel
theorem d_ZoneNodesModel_perform_177 : decode b_ZoneNodesModel_perform 177 = .ok (.baload, 1) := by decide +kernel
theorem d_ZoneNodesModel_perform_178 : decode b_ZoneNodesModel_perform 178 = .ok (.ifCond .eq 12, 3) := by decide +kernel
theorem d_ZoneNodesModel_perform_181 : decode b_ZoneNodesModel_perform 181 = .ok (.iload 9, 2) := by decide +kernel
theorem d_ZoneNodesModel_perform_183 : decode b_ZoneNodesModel_perform 183 = .ok (.ifCond .ne 7, 3) := by decide +kernel
theorem d_ZoneNodesModel_perform_186 : decode b_ZoneNodesModel_perform 186 = .ok (.iconst 1, 1) := by decide +kernel
theorem d_ZoneNodesModel_perform_187 : decode b_ZoneNodesModel_perform 187 = .ok (.goto 4, 3) := by decide +kernel
theorem d_ZoneNodesModel_perform_190 : decode b_ZoneNodesModel_perform 190 = .ok (.iconst 0, 1) := by decide +kernel
theorem d_ZoneNodesModel_perform_191 : decode b_ZoneNodesModel_perform 191 = .ok (.bastore, 1) := by decide +kernel
theorem d_ZoneNodesModel_perform_192 : decode b_ZoneNodesModel_perform 192 = .ok (.iinc 7 1, 3) := by decide +kernel
theorem d_ZoneNodesModel_perform_195 : decode b_ZoneNodesModel_perform 195 = .ok (.goto (-110), 3) := by decide +kernel
theorem d_ZoneNodesModel_perform_198 : decode b_ZoneNodesModel_perform 198 = .ok (.iload 5, 2) := by decide +kernel
theorem d_ZoneNodesModel_perform_200 : decode b_ZoneNodesModel_perform 200 = .ok (.iload 6, 2) := by decide +kernel
theorem d_ZoneNodesModel_perform_202 : decode b_ZoneNodesModel_perform 202 = .ok (.if_icmp .lt 32, 3) := by decide +kernel
theorem d_ZoneNodesModel_perform_205 : decode b_ZoneNodesModel_perform 205 = .ok (.iload 5, 2) := by decide +kernel
theorem d_ZoneNodesModel_perform_207 : decode b_ZoneNodesModel_perform 207 = .ok (.iload 6, 2) := by decide +kernel
theorem d_ZoneNodesModel_perform_209 : decode b_ZoneNodesModel_perform 209 = .ok (.bipush 8, 2) := by decide +kernel
theorem d_ZoneNodesModel_perform_211 : decode b_ZoneNodesModel_perform 211 = .ok (.iadd, 1) := by decide +kernel
theorem d_ZoneNodesModel_perform_212 : decode b_ZoneNodesModel_perform 212 = .ok (.if_icmp .ge 22, 3) := by decide +kernel
theorem d_ZoneNodesModel_perform_215 : decode b_ZoneNodesModel_perform 215 = .ok (.aload_n 0, 1) := by decide +kernel
theorem d_ZoneNodesModel_perform_216 : decode b_ZoneNodesModel_perform 216 = .ok (.iload 6, 2) := by decide +kernel
theorem d_ZoneNodesModel_perform_218 : decode b_ZoneNodesModel_perform 218 = .ok (.iload 6, 2) := by decide +kernel
theorem d_ZoneNodesModel_perform_220 : decode b_ZoneNodesModel_perform 220 = .ok (.bipush 8, 2) := by decide +kernel
theorem d_ZoneNodesModel_perform_222 : decode b_ZoneNodesModel_perform 222 = .ok (.iadd, 1) := by decide +kernel
theorem d_ZoneNodesModel_perform_223 : decode b_ZoneNodesModel_perform 223 = .ok (.invokevirtual 141, 3) := by decide +kernel
theorem d_ZoneNodesModel_perform_226 : decode b_ZoneNodesModel_perform 226 = .ok (.iconst 1, 1) := by decide +kernel
theorem d_ZoneNodesModel_perform_227 : decode b_ZoneNodesModel_perform 227 = .ok (.if_icmp .ne 7, 3) := by decide +kernel
theorem d_ZoneNodesModel_perform_230 : decode b_ZoneNodesModel_perform 230 = .ok (.iconst 1, 1) := by decide +kernel
theorem d_ZoneNodesModel_perform_231 : decode b_ZoneNodesModel_perform 231 = .ok (.goto 4, 3) := by decide +kernel
theorem d_ZoneNodesModel_perform_234 : decode b_ZoneNodesModel_perform 234 = .ok (.iconst 0, 1) := by decide +kernel
theorem d_ZoneNodesModel_perform_235 : decode b_ZoneNodesModel_perform 235 = .ok (.istore 7, 2) := by decide +kernel
theorem d_ZoneNodesModel_perform_237 : decode b_ZoneNodesModel_perform 237 = .ok (.iload_n 2, 1) := by decide +kernel
theorem d_ZoneNodesModel_perform_238 : decode b_ZoneNodesModel_perform 238 = .ok (.iconst 3, 1) := by decide +kernel
theorem d_ZoneNodesModel_perform_239 : decode b_ZoneNodesModel_perform 239 = .ok (.if_icmp .ne 16, 3) := by decide +kernel
theorem d_ZoneNodesModel_perform_242 : decode b_ZoneNodesModel_perform 242 = .ok (.iload 7, 2) := by decide +kernel
theorem d_ZoneNodesModel_perform_244 : decode b_ZoneNodesModel_perform 244 = .ok (.ifCond .ne 11, 3) := by decide +kernel
theorem d_ZoneNodesModel_perform_247 : decode b_ZoneNodesModel_perform 247 = .ok (.aload_n 0, 1) := by decide +kernel
theorem d_ZoneNodesModel_perform_248 : decode b_ZoneNodesModel_perform 248 = .ok (.getfield 56, 3) := by decide +kernel
theorem d_ZoneNodesModel_perform_251 : decode b_ZoneNodesModel_perform 251 = .ok (.iload 5, 2) := by decide +kernel
theorem d_ZoneNodesModel_perform_253 : decode b_ZoneNodesModel_perform 253 = .ok (.iconst 0, 1) := by decide +kernel
theorem d_ZoneNodesModel_perform_254 : decode b_ZoneNodesModel_perform 254 = .ok (.bastore, 1) := by decide +kernel
theorem d_ZoneNodesModel_perform_255 : decode b_ZoneNodesModel_perform 255 = .ok (.return_, 1) := by decide +kernel
theorem d_ZoneNodesModel_exact_0 : decode b_ZoneNodesModel_exact 0 = .ok (.aload_n 0, 1) := by decide +kernel
theorem d_ZoneNodesModel_exact_1 : decode b_ZoneNodesModel_exact 1 = .ok (.getfield 41, 3) := by decide +kernel
theorem d_ZoneNodesModel_exact_4 : decode b_ZoneNodesModel_exact 4 = .ok (.iconst 4, 1) := by decide +kernel
theorem d_ZoneNodesModel_exact_5 : decode b_ZoneNodesModel_exact 5 = .ok (.iload_n 1, 1) := by decide +kernel
theorem d_ZoneNodesModel_exact_6 : decode b_ZoneNodesModel_exact 6 = .ok (.imul, 1) := by decide +kernel
theorem d_ZoneNodesModel_exact_7 : decode b_ZoneNodesModel_exact 7 = .ok (.iconst 1, 1) := by decide +kernel
theorem d_ZoneNodesModel_exact_8 : decode b_ZoneNodesModel_exact 8 = .ok (.iadd, 1) := by decide +kernel
theorem d_ZoneNodesModel_exact_9 : decode b_ZoneNodesModel_exact 9 = .ok (.iaload, 1) := by decide +kernel
theorem d_ZoneNodesModel_exact_10 : decode b_ZoneNodesModel_exact 10 = .ok (.istore_n 2, 1) := by decide +kernel
theorem d_ZoneNodesModel_exact_11 : decode b_ZoneNodesModel_exact 11 = .ok (.aload_n 0, 1) := by decide +kernel
theorem d_ZoneNodesModel_exact_12 : decode b_ZoneNodesModel_exact 12 = .ok (.getfield 41, 3) := by decide +kernel
theorem d_ZoneNodesModel_exact_15 : decode b_ZoneNodesModel_exact 15 = .ok (.iconst 4, 1) := by decide +kernel
theorem d_ZoneNodesModel_exact_16 : decode b_ZoneNodesModel_exact 16 = .ok (.iload_n 1, 1) := by decide +kernel
theorem d_ZoneNodesModel_exact_17 : decode b_ZoneNodesModel_exact 17 = .ok (.imul, 1) := by decide +kernel
theorem d_ZoneNodesModel_exact_18 : decode b_ZoneNodesModel_exact 18 = .ok (.iconst 2, 1) := by decide +kernel
theorem d_ZoneNodesModel_exact_19 : decode b_ZoneNodesModel_exact 19 = .ok (.iadd, 1) := by decide +kernel
theorem d_ZoneNodesModel_exact_20 : decode b_ZoneNodesModel_exact 20 = .ok (.iaload, 1) := by decide +kernel
theorem d_ZoneNodesModel_exact_21 : decode b_ZoneNodesModel_exact 21 = .ok (.istore_n 3, 1) := by decide +kernel
theorem d_ZoneNodesModel_exact_22 : decode b_ZoneNodesModel_exact 22 = .ok (.iconst 1, 1) := by decide +kernel
theorem d_ZoneNodesModel_exact_23 : decode b_ZoneNodesModel_exact 23 = .ok (.istore 4, 2) := by decide +kernel
theorem d_ZoneNodesModel_exact_25 : decode b_ZoneNodesModel_exact 25 = .ok (.iconst 0, 1) := by decide +kernel
theorem d_ZoneNodesModel_exact_26 : decode b_ZoneNodesModel_exact 26 = .ok (.istore 5, 2) := by decide +kernel
theorem d_ZoneNodesModel_exact_28 : decode b_ZoneNodesModel_exact 28 = .ok (.iload 5, 2) := by decide +kernel
theorem d_ZoneNodesModel_exact_30 : decode b_ZoneNodesModel_exact 30 = .ok (.bipush 8, 2) := by decide +kernel
theorem d_ZoneNodesModel_exact_32 : decode b_ZoneNodesModel_exact 32 = .ok (.if_icmp .ge 130, 3) := by decide +kernel
theorem d_ZoneNodesModel_exact_35 : decode b_ZoneNodesModel_exact 35 = .ok (.iconst 0, 1) := by decide +kernel
theorem d_ZoneNodesModel_exact_36 : decode b_ZoneNodesModel_exact 36 = .ok (.istore 6, 2) := by decide +kernel
theorem d_ZoneNodesModel_exact_38 : decode b_ZoneNodesModel_exact 38 = .ok (.iconst 0, 1) := by decide +kernel
theorem d_ZoneNodesModel_exact_39 : decode b_ZoneNodesModel_exact 39 = .ok (.istore 7, 2) := by decide +kernel
theorem d_ZoneNodesModel_exact_41 : decode b_ZoneNodesModel_exact 41 = .ok (.iload 7, 2) := by decide +kernel
theorem d_ZoneNodesModel_exact_43 : decode b_ZoneNodesModel_exact 43 = .ok (.aload_n 0, 1) := by decide +kernel
theorem d_ZoneNodesModel_exact_44 : decode b_ZoneNodesModel_exact 44 = .ok (.getfield 105, 3) := by decide +kernel
theorem d_ZoneNodesModel_exact_47 : decode b_ZoneNodesModel_exact 47 = .ok (.if_icmp .ge 80, 3) := by decide +kernel
theorem d_ZoneNodesModel_exact_50 : decode b_ZoneNodesModel_exact 50 = .ok (.iload 6, 2) := by decide +kernel
theorem d_ZoneNodesModel_exact_52 : decode b_ZoneNodesModel_exact 52 = .ok (.ifCond .ne 62, 3) := by decide +kernel
theorem d_ZoneNodesModel_exact_55 : decode b_ZoneNodesModel_exact 55 = .ok (.aload_n 0, 1) := by decide +kernel
theorem d_ZoneNodesModel_exact_56 : decode b_ZoneNodesModel_exact 56 = .ok (.getfield 41, 3) := by decide +kernel
theorem d_ZoneNodesModel_exact_59 : decode b_ZoneNodesModel_exact 59 = .ok (.iconst 4, 1) := by decide +kernel
theorem d_ZoneNodesModel_exact_60 : decode b_ZoneNodesModel_exact 60 = .ok (.iload 7, 2) := by decide +kernel
theorem d_ZoneNodesModel_exact_62 : decode b_ZoneNodesModel_exact 62 = .ok (.imul, 1) := by decide +kernel
theorem d_ZoneNodesModel_exact_63 : decode b_ZoneNodesModel_exact 63 = .ok (.iaload, 1) := by decide +kernel
theorem d_ZoneNodesModel_exact_64 : decode b_ZoneNodesModel_exact 64 = .ok (.iconst 3, 1) := by decide +kernel
theorem d_ZoneNodesModel_exact_65 : decode b_ZoneNodesModel_exact 65 = .ok (.if_icmp .ne 53, 3) := by decide +kernel
theorem d_ZoneNodesModel_exact_68 : decode b_ZoneNodesModel_exact 68 = .ok (.aload_n 0, 1) := by decide +kernel
theorem d_ZoneNodesModel_exact_69 : decode b_ZoneNodesModel_exact 69 = .ok (.getfield 41, 3) := by decide +kernel
theorem d_ZoneNodesModel_exact_72 : decode b_ZoneNodesModel_exact 72 = .ok (.iconst 4, 1) := by decide +kernel
theorem d_ZoneNodesModel_exact_73 : decode b_ZoneNodesModel_exact 73 = .ok (.iload 7, 2) := by decide +kernel
theorem d_ZoneNodesModel_exact_75 : decode b_ZoneNodesModel_exact 75 = .ok (.imul, 1) := by decide +kernel
theorem d_ZoneNodesModel_exact_76 : decode b_ZoneNodesModel_exact 76 = .ok (.iconst 1, 1) := by decide +kernel
theorem d_ZoneNodesModel_exact_77 : decode b_ZoneNodesModel_exact 77 = .ok (.iadd, 1) := by decide +kernel
theorem d_ZoneNodesModel_exact_78 : decode b_ZoneNodesModel_exact 78 = .ok (.iaload, 1) := by decide +kernel
theorem d_ZoneNodesModel_exact_79 : decode b_ZoneNodesModel_exact 79 = .ok (.iload_n 2, 1) := by decide +kernel
theorem d_ZoneNodesModel_exact_80 : decode b_ZoneNodesModel_exact 80 = .ok (.if_icmp .ne 38, 3) := by decide +kernel
theorem d_ZoneNodesModel_exact_83 : decode b_ZoneNodesModel_exact 83 = .ok (.aload_n 0, 1) := by decide +kernel
theorem d_ZoneNodesModel_exact_84 : decode b_ZoneNodesModel_exact 84 = .ok (.getfield 41, 3) := by decide +kernel
theorem d_ZoneNodesModel_exact_87 : decode b_ZoneNodesModel_exact 87 = .ok (.iconst 4, 1) := by decide +kernel
theorem d_ZoneNodesModel_exact_88 : decode b_ZoneNodesModel_exact 88 = .ok (.iload 7, 2) := by decide +kernel
theorem d_ZoneNodesModel_exact_90 : decode b_ZoneNodesModel_exact 90 = .ok (.imul, 1) := by decide +kernel
theorem d_ZoneNodesModel_exact_91 : decode b_ZoneNodesModel_exact 91 = .ok (.iconst 2, 1) := by decide +kernel
theorem d_ZoneNodesModel_exact_92 : decode b_ZoneNodesModel_exact 92 = .ok (.iadd, 1) := by decide +kernel
theorem d_ZoneNodesModel_exact_93 : decode b_ZoneNodesModel_exact 93 = .ok (.iaload, 1) := by decide +kernel
theorem d_ZoneNodesModel_exact_94 : decode b_ZoneNodesModel_exact 94 = .ok (.iload_n 3, 1) := by decide +kernel
theorem d_ZoneNodesModel_exact_95 : decode b_ZoneNodesModel_exact 95 = .ok (.if_icmp .ne 23, 3) := by decide +kernel
theorem d_ZoneNodesModel_exact_98 : decode b_ZoneNodesModel_exact 98 = .ok (.aload_n 0, 1) := by decide +kernel
theorem d_ZoneNodesModel_exact_99 : decode b_ZoneNodesModel_exact 99 = .ok (.getfield 41, 3) := by decide +kernel
theorem d_ZoneNodesModel_exact_102 : decode b_ZoneNodesModel_exact 102 = .ok (.iconst 4, 1) := by decide +kernel
theorem d_ZoneNodesModel_exact_103 : decode b_ZoneNodesModel_exact 103 = .ok (.iload 7, 2) := by decide +kernel
theorem d_ZoneNodesModel_exact_105 : decode b_ZoneNodesModel_exact 105 = .ok (.imul, 1) := by decide +kernel
theorem d_ZoneNodesModel_exact_106 : decode b_ZoneNodesModel_exact 106 = .ok (.iconst 3, 1) := by decide +kernel
theorem d_ZoneNodesModel_exact_107 : decode b_ZoneNodesModel_exact 107 = .ok (.iadd, 1) := by decide +kernel
theorem d_ZoneNodesModel_exact_108 : decode b_ZoneNodesModel_exact 108 = .ok (.iaload, 1) := by decide +kernel
theorem d_ZoneNodesModel_exact_109 : decode b_ZoneNodesModel_exact 109 = .ok (.iload 5, 2) := by decide +kernel
theorem d_ZoneNodesModel_exact_111 : decode b_ZoneNodesModel_exact 111 = .ok (.if_icmp .ne 7, 3) := by decide +kernel
theorem d_ZoneNodesModel_exact_114 : decode b_ZoneNodesModel_exact 114 = .ok (.iconst 1, 1) := by decide +kernel
theorem d_ZoneNodesModel_exact_115 : decode b_ZoneNodesModel_exact 115 = .ok (.goto 4, 3) := by decide +kernel
theorem d_ZoneNodesModel_exact_118 : decode b_ZoneNodesModel_exact 118 = .ok (.iconst 0, 1) := by decide +kernel
theorem d_ZoneNodesModel_exact_119 : decode b_ZoneNodesModel_exact 119 = .ok (.istore 6, 2) := by decide +kernel
theorem d_ZoneNodesModel_exact_121 : decode b_ZoneNodesModel_exact 121 = .ok (.iinc 7 1, 3) := by decide +kernel
theorem d_ZoneNodesModel_exact_124 : decode b_ZoneNodesModel_exact 124 = .ok (.goto (-83), 3) := by decide +kernel
theorem d_ZoneNodesModel_exact_127 : decode b_ZoneNodesModel_exact 127 = .ok (.iload 4, 2) := by decide +kernel
theorem d_ZoneNodesModel_exact_129 : decode b_ZoneNodesModel_exact 129 = .ok (.ifCond .eq 24, 3) := by decide +kernel
theorem d_ZoneNodesModel_exact_132 : decode b_ZoneNodesModel_exact 132 = .ok (.iload 6, 2) := by decide +kernel
theorem d_ZoneNodesModel_exact_134 : decode b_ZoneNodesModel_exact 134 = .ok (.aload_n 0, 1) := by decide +kernel
theorem d_ZoneNodesModel_exact_135 : decode b_ZoneNodesModel_exact 135 = .ok (.getfield 20, 3) := by decide +kernel
theorem d_ZoneNodesModel_exact_138 : decode b_ZoneNodesModel_exact 138 = .ok (.iload_n 2, 1) := by decide +kernel
theorem d_ZoneNodesModel_exact_139 : decode b_ZoneNodesModel_exact 139 = .ok (.iload_n 3, 1) := by decide +kernel
theorem d_ZoneNodesModel_exact_140 : decode b_ZoneNodesModel_exact 140 = .ok (.iload 5, 2) := by decide +kernel
theorem d_ZoneNodesModel_exact_142 : decode b_ZoneNodesModel_exact 142 = .ok (.invokestatic 90, 3) := by decide +kernel
theorem d_ZoneNodesModel_exact_145 : decode b_ZoneNodesModel_exact 145 = .ok (.baload, 1) := by decide +kernel
theorem d_ZoneNodesModel_exact_146 : decode b_ZoneNodesModel_exact 146 = .ok (.if_icmp .ne 7, 3) := by decide +kernel
theorem d_ZoneNodesModel_exact_149 : decode b_ZoneNodesModel_exact 149 = .ok (.iconst 1, 1) := by decide +kernel
theorem d_ZoneNodesModel_exact_150 : decode b_ZoneNodesModel_exact 150 = .ok (.goto 4, 3) := by decide +kernel
theorem d_ZoneNodesModel_exact_153 : decode b_ZoneNodesModel_exact 153 = .ok (.iconst 0, 1) := by decide +kernel
theorem d_ZoneNodesModel_exact_154 : decode b_ZoneNodesModel_exact 154 = .ok (.istore 4, 2) := by decide +kernel
theorem d_ZoneNodesModel_exact_156 : decode b_ZoneNodesModel_exact 156 = .ok (.iinc 5 1, 3) := by decide +kernel
theorem d_ZoneNodesModel_exact_159 : decode b_ZoneNodesModel_exact 159 = .ok (.goto (-131), 3) := by decide +kernel
theorem d_ZoneNodesModel_exact_162 : decode b_ZoneNodesModel_exact 162 = .ok (.iload 4, 2) := by decide +kernel
theorem d_ZoneNodesModel_exact_164 : decode b_ZoneNodesModel_exact 164 = .ok (.ireturn, 1) := by decide +kernel
theorem d_ZoneNodesModel_count_0 : decode b_ZoneNodesModel_count 0 = .ok (.iconst 0, 1) := by decide +kernel
theorem d_ZoneNodesModel_count_1 : decode b_ZoneNodesModel_count 1 = .ok (.istore_n 3, 1) := by decide +kernel
theorem d_ZoneNodesModel_count_2 : decode b_ZoneNodesModel_count 2 = .ok (.bipush 32, 2) := by decide +kernel
theorem d_ZoneNodesModel_count_4 : decode b_ZoneNodesModel_count 4 = .ok (.iload_n 1, 1) := by decide +kernel
theorem d_ZoneNodesModel_count_5 : decode b_ZoneNodesModel_count 5 = .ok (.imul, 1) := by decide +kernel
theorem d_ZoneNodesModel_count_6 : decode b_ZoneNodesModel_count 6 = .ok (.istore 4, 2) := by decide +kernel
theorem d_ZoneNodesModel_count_8 : decode b_ZoneNodesModel_count 8 = .ok (.iload 4, 2) := by decide +kernel
theorem d_ZoneNodesModel_count_10 : decode b_ZoneNodesModel_count 10 = .ok (.bipush 32, 2) := by decide +kernel
theorem d_ZoneNodesModel_count_12 : decode b_ZoneNodesModel_count 12 = .ok (.iload_n 1, 1) := by decide +kernel
theorem d_ZoneNodesModel_count_13 : decode b_ZoneNodesModel_count 13 = .ok (.imul, 1) := by decide +kernel
theorem d_ZoneNodesModel_count_14 : decode b_ZoneNodesModel_count 14 = .ok (.bipush 32, 2) := by decide +kernel
theorem d_ZoneNodesModel_count_16 : decode b_ZoneNodesModel_count 16 = .ok (.iadd, 1) := by decide +kernel
theorem d_ZoneNodesModel_count_17 : decode b_ZoneNodesModel_count 17 = .ok (.if_icmp .ge 47, 3) := by decide +kernel
theorem d_ZoneNodesModel_count_20 : decode b_ZoneNodesModel_count 20 = .ok (.iload_n 3, 1) := by decide +kernel
theorem d_ZoneNodesModel_count_21 : decode b_ZoneNodesModel_count 21 = .ok (.aload_n 0, 1) := by decide +kernel
theorem d_ZoneNodesModel_count_22 : decode b_ZoneNodesModel_count 22 = .ok (.getfield 20, 3) := by decide +kernel
theorem d_ZoneNodesModel_count_25 : decode b_ZoneNodesModel_count 25 = .ok (.iload 4, 2) := by decide +kernel
theorem d_ZoneNodesModel_count_27 : decode b_ZoneNodesModel_count 27 = .ok (.baload, 1) := by decide +kernel
theorem d_ZoneNodesModel_count_28 : decode b_ZoneNodesModel_count 28 = .ok (.ifCond .eq 27, 3) := by decide +kernel
theorem d_ZoneNodesModel_count_31 : decode b_ZoneNodesModel_count 31 = .ok (.iload_n 2, 1) := by decide +kernel
theorem d_ZoneNodesModel_count_32 : decode b_ZoneNodesModel_count 32 = .ok (.ifCond .eq 19, 3) := by decide +kernel
theorem d_ZoneNodesModel_count_35 : decode b_ZoneNodesModel_count 35 = .ok (.iload 4, 2) := by decide +kernel
theorem d_ZoneNodesModel_count_37 : decode b_ZoneNodesModel_count 37 = .ok (.bipush 32, 2) := by decide +kernel
theorem d_ZoneNodesModel_count_39 : decode b_ZoneNodesModel_count 39 = .ok (.iload_n 1, 1) := by decide +kernel
theorem d_ZoneNodesModel_count_40 : decode b_ZoneNodesModel_count 40 = .ok (.imul, 1) := by decide +kernel
theorem d_ZoneNodesModel_count_41 : decode b_ZoneNodesModel_count 41 = .ok (.isub, 1) := by decide +kernel
theorem d_ZoneNodesModel_count_42 : decode b_ZoneNodesModel_count 42 = .ok (.bipush 8, 2) := by decide +kernel
theorem d_ZoneNodesModel_count_44 : decode b_ZoneNodesModel_count 44 = .ok (.idiv, 1) := by decide +kernel
theorem d_ZoneNodesModel_count_45 : decode b_ZoneNodesModel_count 45 = .ok (.iload_n 2, 1) := by decide +kernel
theorem d_ZoneNodesModel_count_46 : decode b_ZoneNodesModel_count 46 = .ok (.iconst 1, 1) := by decide +kernel
theorem d_ZoneNodesModel_count_47 : decode b_ZoneNodesModel_count 47 = .ok (.isub, 1) := by decide +kernel
theorem d_ZoneNodesModel_count_48 : decode b_ZoneNodesModel_count 48 = .ok (.if_icmp .ne 7, 3) := by decide +kernel
theorem d_ZoneNodesModel_count_51 : decode b_ZoneNodesModel_count 51 = .ok (.iconst 1, 1) := by decide +kernel
theorem d_ZoneNodesModel_count_52 : decode b_ZoneNodesModel_count 52 = .ok (.goto 4, 3) := by decide +kernel
theorem d_ZoneNodesModel_count_55 : decode b_ZoneNodesModel_count 55 = .ok (.iconst 0, 1) := by decide +kernel
theorem d_ZoneNodesModel_count_56 : decode b_ZoneNodesModel_count 56 = .ok (.iadd, 1) := by decide +kernel
theorem d_ZoneNodesModel_count_57 : decode b_ZoneNodesModel_count 57 = .ok (.istore_n 3, 1) := by decide +kernel
theorem d_ZoneNodesModel_count_58 : decode b_ZoneNodesModel_count 58 = .ok (.iinc 4 1, 3) := by decide +kernel
theorem d_ZoneNodesModel_count_61 : decode b_ZoneNodesModel_count 61 = .ok (.goto (-53), 3) := by decide +kernel
theorem d_ZoneNodesModel_count_64 : decode b_ZoneNodesModel_count 64 = .ok (.iload_n 3, 1) := by decide +kernel
theorem d_ZoneNodesModel_count_65 : decode b_ZoneNodesModel_count 65 = .ok (.ireturn, 1) := by decide +kernel
theorem d_ZoneNodesModel_meets_0 : decode b_ZoneNodesModel_meets 0 = .ok (.aload_n 0, 1) := by decide +kernel
theorem d_ZoneNodesModel_meets_1 : decode b_ZoneNodesModel_meets 1 = .ok (.getfield 41, 3) := by decide +kernel
theorem d_ZoneNodesModel_meets_4 : decode b_ZoneNodesModel_meets 4 = .ok (.iconst 4, 1) := by decide +kernel
theorem d_ZoneNodesModel_meets_5 : decode b_ZoneNodesModel_meets 5 = .ok (.iload_n 1, 1) := by decide +kernel
theorem d_ZoneNodesModel_meets_6 : decode b_ZoneNodesModel_meets 6 = .ok (.imul, 1) := by decide +kernel
theorem d_ZoneNodesModel_meets_7 : decode b_ZoneNodesModel_meets 7 = .ok (.iaload, 1) := by decide +kernel
theorem d_ZoneNodesModel_meets_8 : decode b_ZoneNodesModel_meets 8 = .ok (.istore_n 2, 1) := by decide +kernel
theorem d_ZoneNodesModel_meets_9 : decode b_ZoneNodesModel_meets 9 = .ok (.aload_n 0, 1) := by decide +kernel
theorem d_ZoneNodesModel_meets_10 : decode b_ZoneNodesModel_meets 10 = .ok (.aload_n 0, 1) := by decide +kernel
theorem d_ZoneNodesModel_meets_11 : decode b_ZoneNodesModel_meets 11 = .ok (.getfield 41, 3) := by decide +kernel
theorem d_ZoneNodesModel_meets_14 : decode b_ZoneNodesModel_meets 14 = .ok (.iconst 4, 1) := by decide +kernel
theorem d_ZoneNodesModel_meets_15 : decode b_ZoneNodesModel_meets 15 = .ok (.iload_n 1, 1) := by decide +kernel
theorem d_ZoneNodesModel_meets_16 : decode b_ZoneNodesModel_meets 16 = .ok (.imul, 1) := by decide +kernel
theorem d_ZoneNodesModel_meets_17 : decode b_ZoneNodesModel_meets 17 = .ok (.iconst 1, 1) := by decide +kernel
theorem d_ZoneNodesModel_meets_18 : decode b_ZoneNodesModel_meets 18 = .ok (.iadd, 1) := by decide +kernel
theorem d_ZoneNodesModel_meets_19 : decode b_ZoneNodesModel_meets 19 = .ok (.iaload, 1) := by decide +kernel
theorem d_ZoneNodesModel_meets_20 : decode b_ZoneNodesModel_meets 20 = .ok (.iconst 0, 1) := by decide +kernel
theorem d_ZoneNodesModel_meets_21 : decode b_ZoneNodesModel_meets 21 = .ok (.invokevirtual 127, 3) := by decide +kernel
theorem d_ZoneNodesModel_meets_24 : decode b_ZoneNodesModel_meets 24 = .ok (.istore_n 3, 1) := by decide +kernel
theorem d_ZoneNodesModel_meets_25 : decode b_ZoneNodesModel_meets 25 = .ok (.aload_n 0, 1) := by decide +kernel
theorem d_ZoneNodesModel_meets_26 : decode b_ZoneNodesModel_meets 26 = .ok (.aload_n 0, 1) := by decide +kernel
theorem d_ZoneNodesModel_meets_27 : decode b_ZoneNodesModel_meets 27 = .ok (.getfield 41, 3) := by decide +kernel
theorem d_ZoneNodesModel_meets_30 : decode b_ZoneNodesModel_meets 30 = .ok (.iconst 4, 1) := by decide +kernel
theorem d_ZoneNodesModel_meets_31 : decode b_ZoneNodesModel_meets 31 = .ok (.iload_n 1, 1) := by decide +kernel
theorem d_ZoneNodesModel_meets_32 : decode b_ZoneNodesModel_meets 32 = .ok (.imul, 1) := by decide +kernel
theorem d_ZoneNodesModel_meets_33 : decode b_ZoneNodesModel_meets 33 = .ok (.iconst 1, 1) := by decide +kernel
theorem d_ZoneNodesModel_meets_34 : decode b_ZoneNodesModel_meets 34 = .ok (.iadd, 1) := by decide +kernel
theorem d_ZoneNodesModel_meets_35 : decode b_ZoneNodesModel_meets 35 = .ok (.iaload, 1) := by decide +kernel
theorem d_ZoneNodesModel_meets_36 : decode b_ZoneNodesModel_meets 36 = .ok (.aload_n 0, 1) := by decide +kernel
theorem d_ZoneNodesModel_meets_37 : decode b_ZoneNodesModel_meets 37 = .ok (.getfield 41, 3) := by decide +kernel
theorem d_ZoneNodesModel_meets_40 : decode b_ZoneNodesModel_meets 40 = .ok (.iconst 4, 1) := by decide +kernel
theorem d_ZoneNodesModel_meets_41 : decode b_ZoneNodesModel_meets 41 = .ok (.iload_n 1, 1) := by decide +kernel
theorem d_ZoneNodesModel_meets_42 : decode b_ZoneNodesModel_meets 42 = .ok (.imul, 1) := by decide +kernel
theorem d_ZoneNodesModel_meets_43 : decode b_ZoneNodesModel_meets 43 = .ok (.iconst 2, 1) := by decide +kernel
theorem d_ZoneNodesModel_meets_44 : decode b_ZoneNodesModel_meets 44 = .ok (.iadd, 1) := by decide +kernel
theorem d_ZoneNodesModel_meets_45 : decode b_ZoneNodesModel_meets 45 = .ok (.iaload, 1) := by decide +kernel
theorem d_ZoneNodesModel_meets_46 : decode b_ZoneNodesModel_meets 46 = .ok (.invokevirtual 127, 3) := by decide +kernel
theorem d_ZoneNodesModel_meets_49 : decode b_ZoneNodesModel_meets 49 = .ok (.istore 4, 2) := by decide +kernel
theorem d_ZoneNodesModel_meets_51 : decode b_ZoneNodesModel_meets 51 = .ok (.iload_n 2, 1) := by decide +kernel
theorem d_ZoneNodesModel_meets_52 : decode b_ZoneNodesModel_meets 52 = .ok (.ifCond .ne 15, 3) := by decide +kernel
theorem d_ZoneNodesModel_meets_55 : decode b_ZoneNodesModel_meets 55 = .ok (.iload_n 3, 1) := by decide +kernel
theorem d_ZoneNodesModel_meets_56 : decode b_ZoneNodesModel_meets 56 = .ok (.ifCond .le 7, 3) := by decide +kernel
theorem d_ZoneNodesModel_meets_59 : decode b_ZoneNodesModel_meets 59 = .ok (.iconst 1, 1) := by decide +kernel
theorem d_ZoneNodesModel_meets_60 : decode b_ZoneNodesModel_meets 60 = .ok (.goto 61, 3) := by decide +kernel
theorem d_ZoneNodesModel_meets_63 : decode b_ZoneNodesModel_meets 63 = .ok (.iconst 0, 1) := by decide +kernel
theorem d_ZoneNodesModel_meets_64 : decode b_ZoneNodesModel_meets 64 = .ok (.goto 57, 3) := by decide +kernel
theorem d_ZoneNodesModel_meets_67 : decode b_ZoneNodesModel_meets 67 = .ok (.iload_n 2, 1) := by decide +kernel
theorem d_ZoneNodesModel_meets_68 : decode b_ZoneNodesModel_meets 68 = .ok (.iconst 1, 1) := by decide +kernel
theorem d_ZoneNodesModel_meets_69 : decode b_ZoneNodesModel_meets 69 = .ok (.if_icmp .ne 15, 3) := by decide +kernel
theorem d_ZoneNodesModel_meets_72 : decode b_ZoneNodesModel_meets 72 = .ok (.iload_n 3, 1) := by decide +kernel
theorem d_ZoneNodesModel_meets_73 : decode b_ZoneNodesModel_meets 73 = .ok (.ifCond .ne 7, 3) := by decide +kernel
theorem d_ZoneNodesModel_meets_76 : decode b_ZoneNodesModel_meets 76 = .ok (.iconst 1, 1) := by decide +kernel
theorem d_ZoneNodesModel_meets_77 : decode b_ZoneNodesModel_meets 77 = .ok (.goto 44, 3) := by decide +kernel
theorem d_ZoneNodesModel_meets_80 : decode b_ZoneNodesModel_meets 80 = .ok (.iconst 0, 1) := by decide +kernel
theorem d_ZoneNodesModel_meets_81 : decode b_ZoneNodesModel_meets 81 = .ok (.goto 40, 3) := by decide +kernel
theorem d_ZoneNodesModel_meets_84 : decode b_ZoneNodesModel_meets 84 = .ok (.iload_n 2, 1) := by decide +kernel
theorem d_ZoneNodesModel_meets_85 : decode b_ZoneNodesModel_meets 85 = .ok (.iconst 2, 1) := by decide +kernel
theorem d_ZoneNodesModel_meets_86 : decode b_ZoneNodesModel_meets 86 = .ok (.if_icmp .ne 16, 3) := by decide +kernel
theorem d_ZoneNodesModel_meets_89 : decode b_ZoneNodesModel_meets 89 = .ok (.iload 4, 2) := by decide +kernel
theorem d_ZoneNodesModel_meets_91 : decode b_ZoneNodesModel_meets 91 = .ok (.ifCond .le 7, 3) := by decide +kernel
theorem d_ZoneNodesModel_meets_94 : decode b_ZoneNodesModel_meets 94 = .ok (.iconst 1, 1) := by decide +kernel
theorem d_ZoneNodesModel_meets_95 : decode b_ZoneNodesModel_meets 95 = .ok (.goto 26, 3) := by decide +kernel
theorem d_ZoneNodesModel_meets_98 : decode b_ZoneNodesModel_meets 98 = .ok (.iconst 0, 1) := by decide +kernel
theorem d_ZoneNodesModel_meets_99 : decode b_ZoneNodesModel_meets 99 = .ok (.goto 22, 3) := by decide +kernel
theorem d_ZoneNodesModel_meets_102 : decode b_ZoneNodesModel_meets 102 = .ok (.iload_n 2, 1) := by decide +kernel
theorem d_ZoneNodesModel_meets_103 : decode b_ZoneNodesModel_meets 103 = .ok (.iconst 4, 1) := by decide +kernel
theorem d_ZoneNodesModel_meets_104 : decode b_ZoneNodesModel_meets 104 = .ok (.if_icmp .ne 16, 3) := by decide +kernel
theorem d_ZoneNodesModel_meets_107 : decode b_ZoneNodesModel_meets 107 = .ok (.iload 4, 2) := by decide +kernel
theorem d_ZoneNodesModel_meets_109 : decode b_ZoneNodesModel_meets 109 = .ok (.ifCond .ne 7, 3) := by decide +kernel
theorem d_ZoneNodesModel_meets_112 : decode b_ZoneNodesModel_meets 112 = .ok (.iconst 1, 1) := by decide +kernel
theorem d_ZoneNodesModel_meets_113 : decode b_ZoneNodesModel_meets 113 = .ok (.goto 8, 3) := by decide +kernel
theorem d_ZoneNodesModel_meets_116 : decode b_ZoneNodesModel_meets 116 = .ok (.iconst 0, 1) := by decide +kernel
theorem d_ZoneNodesModel_meets_117 : decode b_ZoneNodesModel_meets 117 = .ok (.goto 4, 3) := by decide +kernel
theorem d_ZoneNodesModel_meets_120 : decode b_ZoneNodesModel_meets 120 = .ok (.iconst 1, 1) := by decide +kernel
theorem d_ZoneNodesModel_meets_121 : decode b_ZoneNodesModel_meets 121 = .ok (.ireturn, 1) := by decide +kernel
theorem d_ZoneNodesModel_refusal_0 : decode b_ZoneNodesModel_refusal 0 = .ok (.iload_n 1, 1) := by decide +kernel
theorem d_ZoneNodesModel_refusal_1 : decode b_ZoneNodesModel_refusal 1 = .ok (.ifCond .lt 17, 3) := by decide +kernel
theorem d_ZoneNodesModel_refusal_4 : decode b_ZoneNodesModel_refusal 4 = .ok (.iload_n 1, 1) := by decide +kernel
theorem d_ZoneNodesModel_refusal_5 : decode b_ZoneNodesModel_refusal 5 = .ok (.iconst 2, 1) := by decide +kernel
theorem d_ZoneNodesModel_refusal_6 : decode b_ZoneNodesModel_refusal 6 = .ok (.if_icmp .gt 12, 3) := by decide +kernel
theorem d_ZoneNodesModel_refusal_9 : decode b_ZoneNodesModel_refusal 9 = .ok (.aload_n 0, 1) := by decide +kernel
theorem d_ZoneNodesModel_refusal_10 : decode b_ZoneNodesModel_refusal 10 = .ok (.getfield 35, 3) := by decide +kernel
theorem d_ZoneNodesModel_refusal_13 : decode b_ZoneNodesModel_refusal 13 = .ok (.iload_n 1, 1) := by decide +kernel
theorem d_ZoneNodesModel_refusal_14 : decode b_ZoneNodesModel_refusal 14 = .ok (.baload, 1) := by decide +kernel
theorem d_ZoneNodesModel_refusal_15 : decode b_ZoneNodesModel_refusal 15 = .ok (.ifCond .ne 6, 3) := by decide +kernel
theorem d_ZoneNodesModel_refusal_18 : decode b_ZoneNodesModel_refusal 18 = .ok (.bipush 17, 2) := by decide +kernel
theorem d_ZoneNodesModel_refusal_20 : decode b_ZoneNodesModel_refusal 20 = .ok (.ireturn, 1) := by decide +kernel
theorem d_ZoneNodesModel_refusal_21 : decode b_ZoneNodesModel_refusal 21 = .ok (.iload_n 3, 1) := by decide +kernel
theorem d_ZoneNodesModel_refusal_22 : decode b_ZoneNodesModel_refusal 22 = .ok (.aload_n 0, 1) := by decide +kernel
theorem d_ZoneNodesModel_refusal_23 : decode b_ZoneNodesModel_refusal 23 = .ok (.iload_n 1, 1) := by decide +kernel
theorem d_ZoneNodesModel_refusal_24 : decode b_ZoneNodesModel_refusal 24 = .ok (.iload_n 2, 1) := by decide +kernel
theorem d_ZoneNodesModel_refusal_25 : decode b_ZoneNodesModel_refusal 25 = .ok (.invokevirtual 124, 3) := by decide +kernel
theorem d_ZoneNodesModel_refusal_28 : decode b_ZoneNodesModel_refusal 28 = .ok (.if_icmp .eq 6, 3) := by decide +kernel
theorem d_ZoneNodesModel_refusal_31 : decode b_ZoneNodesModel_refusal 31 = .ok (.bipush 16, 2) := by decide +kernel
theorem d_ZoneNodesModel_refusal_33 : decode b_ZoneNodesModel_refusal 33 = .ok (.ireturn, 1) := by decide +kernel
theorem d_ZoneNodesModel_refusal_34 : decode b_ZoneNodesModel_refusal 34 = .ok (.iload_n 2, 1) := by decide +kernel
theorem d_ZoneNodesModel_refusal_35 : decode b_ZoneNodesModel_refusal 35 = .ok (.i2l, 1) := by decide +kernel
theorem d_ZoneNodesModel_refusal_36 : decode b_ZoneNodesModel_refusal 36 = .ok (.aload_n 0, 1) := by decide +kernel
theorem d_ZoneNodesModel_refusal_37 : decode b_ZoneNodesModel_refusal 37 = .ok (.getfield 98, 3) := by decide +kernel
theorem d_ZoneNodesModel_refusal_40 : decode b_ZoneNodesModel_refusal 40 = .ok (.i2l, 1) := by decide +kernel
