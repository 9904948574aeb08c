theorem d_ZoneNodes_restart_32 : decode b_ZoneNodes_restart 32 = .ok (.goto 18, 3) := by decide +kernel
theorem d_ZoneNodes_restart_35 : decode b_ZoneNodes_restart 35 = .ok (.aload_n 0, 1) := by decide +kernel
theorem d_ZoneNodes_restart_36 : decode b_ZoneNodes_restart 36 = .ok (.getfield 33, 3) := by decide +kernel
theorem d_ZoneNodes_restart_39 : decode b_ZoneNodes_restart 39 = .ok (.iload_n 1, 1) := by decide +kernel
theorem d_ZoneNodes_restart_40 : decode b_ZoneNodes_restart 40 = .ok (.iconst 1, 1) := by decide +kernel
theorem d_ZoneNodes_restart_41 : decode b_ZoneNodes_restart 41 = .ok (.isub, 1) := by decide +kernel
theorem d_ZoneNodes_restart_42 : decode b_ZoneNodes_restart 42 = .ok (.aaload, 1) := by decide +kernel
theorem d_ZoneNodes_restart_43 : decode b_ZoneNodes_restart 43 = .ok (.aload_n 0, 1) := by decide +kernel
theorem d_ZoneNodes_restart_44 : decode b_ZoneNodes_restart 44 = .ok (.getfield 93, 3) := by decide +kernel
theorem d_ZoneNodes_restart_47 : decode b_ZoneNodes_restart 47 = .ok (.invokevirtual 152, 3) := by decide +kernel
theorem d_ZoneNodes_restart_50 : decode b_ZoneNodes_restart 50 = .ok (.iconst 1, 1) := by decide +kernel
theorem d_ZoneNodes_restart_51 : decode b_ZoneNodes_restart 51 = .ok (.ireturn, 1) := by decide +kernel
theorem d_ZoneNodes_seal_0 : decode b_ZoneNodes_seal 0 = .ok (.aload_n 0, 1) := by decide +kernel
theorem d_ZoneNodes_seal_1 : decode b_ZoneNodes_seal 1 = .ok (.iload_n 1, 1) := by decide +kernel
theorem d_ZoneNodes_seal_2 : decode b_ZoneNodes_seal 2 = .ok (.invokevirtual 67, 3) := by decide +kernel
theorem d_ZoneNodes_seal_5 : decode b_ZoneNodes_seal 5 = .ok (.ifCond .eq 20, 3) := by decide +kernel
theorem d_ZoneNodes_seal_8 : decode b_ZoneNodes_seal 8 = .ok (.aload_n 0, 1) := by decide +kernel
theorem d_ZoneNodes_seal_9 : decode b_ZoneNodes_seal 9 = .ok (.getfield 20, 3) := by decide +kernel
theorem d_ZoneNodes_seal_12 : decode b_ZoneNodes_seal 12 = .ok (.aload_n 0, 1) := by decide +kernel
theorem d_ZoneNodes_seal_13 : decode b_ZoneNodes_seal 13 = .ok (.getfield 9, 3) := by decide +kernel
theorem d_ZoneNodes_seal_16 : decode b_ZoneNodes_seal 16 = .ok (.iload_n 1, 1) := by decide +kernel
theorem d_ZoneNodes_seal_17 : decode b_ZoneNodes_seal 17 = .ok (.iaload, 1) := by decide +kernel
theorem d_ZoneNodes_seal_18 : decode b_ZoneNodes_seal 18 = .ok (.iload_n 2, 1) := by decide +kernel
theorem d_ZoneNodes_seal_19 : decode b_ZoneNodes_seal 19 = .ok (.invokevirtual 70, 3) := by decide +kernel
theorem d_ZoneNodes_seal_22 : decode b_ZoneNodes_seal 22 = .ok (.goto 4, 3) := by decide +kernel
theorem d_ZoneNodes_seal_25 : decode b_ZoneNodes_seal 25 = .ok (.iconst 0, 1) := by decide +kernel
theorem d_ZoneNodes_seal_26 : decode b_ZoneNodes_seal 26 = .ok (.ireturn, 1) := by decide +kernel
theorem d_ZoneNodes_serial_0 : decode b_ZoneNodes_serial 0 = .ok (.aload_n 0, 1) := by decide +kernel
theorem d_ZoneNodes_serial_1 : decode b_ZoneNodes_serial 1 = .ok (.iload_n 1, 1) := by decide +kernel
theorem d_ZoneNodes_serial_2 : decode b_ZoneNodes_serial 2 = .ok (.invokevirtual 164, 3) := by decide +kernel
theorem d_ZoneNodes_serial_5 : decode b_ZoneNodes_serial 5 = .ok (.ifnonnull 5, 3) := by decide +kernel
theorem d_ZoneNodes_serial_8 : decode b_ZoneNodes_serial 8 = .ok (.iconst 0, 1) := by decide +kernel
theorem d_ZoneNodes_serial_9 : decode b_ZoneNodes_serial 9 = .ok (.ireturn, 1) := by decide +kernel
theorem d_ZoneNodes_serial_10 : decode b_ZoneNodes_serial 10 = .ok (.iload_n 1, 1) := by decide +kernel
theorem d_ZoneNodes_serial_11 : decode b_ZoneNodes_serial 11 = .ok (.ifCond .ne 13, 3) := by decide +kernel
theorem d_ZoneNodes_serial_14 : decode b_ZoneNodes_serial 14 = .ok (.aload_n 0, 1) := by decide +kernel
theorem d_ZoneNodes_serial_15 : decode b_ZoneNodes_serial 15 = .ok (.getfield 46, 3) := by decide +kernel
theorem d_ZoneNodes_serial_18 : decode b_ZoneNodes_serial 18 = .ok (.getfield 168, 3) := by decide +kernel
theorem d_ZoneNodes_serial_21 : decode b_ZoneNodes_serial 21 = .ok (.goto 14, 3) := by decide +kernel
theorem d_ZoneNodes_serial_24 : decode b_ZoneNodes_serial 24 = .ok (.aload_n 0, 1) := by decide +kernel
theorem d_ZoneNodes_serial_25 : decode b_ZoneNodes_serial 25 = .ok (.getfield 33, 3) := by decide +kernel
theorem d_ZoneNodes_serial_28 : decode b_ZoneNodes_serial 28 = .ok (.iload_n 1, 1) := by decide +kernel
theorem d_ZoneNodes_serial_29 : decode b_ZoneNodes_serial 29 = .ok (.iconst 1, 1) := by decide +kernel
theorem d_ZoneNodes_serial_30 : decode b_ZoneNodes_serial 30 = .ok (.isub, 1) := by decide +kernel
theorem d_ZoneNodes_serial_31 : decode b_ZoneNodes_serial 31 = .ok (.aaload, 1) := by decide +kernel
theorem d_ZoneNodes_serial_32 : decode b_ZoneNodes_serial 32 = .ok (.getfield 171, 3) := by decide +kernel
theorem d_ZoneNodes_serial_35 : decode b_ZoneNodes_serial 35 = .ok (.ireturn, 1) := by decide +kernel
theorem d_ZoneNodes_size_0 : decode b_ZoneNodes_size 0 = .ok (.aload_n 0, 1) := by decide +kernel
theorem d_ZoneNodes_size_1 : decode b_ZoneNodes_size 1 = .ok (.iload_n 1, 1) := by decide +kernel
theorem d_ZoneNodes_size_2 : decode b_ZoneNodes_size 2 = .ok (.invokevirtual 164, 3) := by decide +kernel
theorem d_ZoneNodes_size_5 : decode b_ZoneNodes_size 5 = .ok (.astore_n 2, 1) := by decide +kernel
theorem d_ZoneNodes_size_6 : decode b_ZoneNodes_size 6 = .ok (.aload_n 2, 1) := by decide +kernel
theorem d_ZoneNodes_size_7 : decode b_ZoneNodes_size 7 = .ok (.ifnonnull 7, 3) := by decide +kernel
theorem d_ZoneNodes_size_10 : decode b_ZoneNodes_size 10 = .ok (.iconst (-1), 1) := by decide +kernel
theorem d_ZoneNodes_size_11 : decode b_ZoneNodes_size 11 = .ok (.goto 7, 3) := by decide +kernel
theorem d_ZoneNodes_size_14 : decode b_ZoneNodes_size 14 = .ok (.aload_n 2, 1) := by decide +kernel
theorem d_ZoneNodes_size_15 : decode b_ZoneNodes_size 15 = .ok (.invokevirtual 172, 3) := by decide +kernel
theorem d_ZoneNodes_size_18 : decode b_ZoneNodes_size 18 = .ok (.ireturn, 1) := by decide +kernel
theorem d_ZoneNodes_state_0 : decode b_ZoneNodes_state 0 = .ok (.iload_n 1, 1) := by decide +kernel
theorem d_ZoneNodes_state_1 : decode b_ZoneNodes_state 1 = .ok (.invokestatic 133, 3) := by decide +kernel
theorem d_ZoneNodes_state_4 : decode b_ZoneNodes_state 4 = .ok (.ifCond .ne 5, 3) := by decide +kernel
theorem d_ZoneNodes_state_7 : decode b_ZoneNodes_state 7 = .ok (.iconst (-1), 1) := by decide +kernel
theorem d_ZoneNodes_state_8 : decode b_ZoneNodes_state 8 = .ok (.ireturn, 1) := by decide +kernel
theorem d_ZoneNodes_state_9 : decode b_ZoneNodes_state 9 = .ok (.aload_n 0, 1) := by decide +kernel
theorem d_ZoneNodes_state_10 : decode b_ZoneNodes_state 10 = .ok (.iload_n 1, 1) := by decide +kernel
theorem d_ZoneNodes_state_11 : decode b_ZoneNodes_state 11 = .ok (.invokevirtual 136, 3) := by decide +kernel
theorem d_ZoneNodes_state_14 : decode b_ZoneNodes_state 14 = .ok (.ifCond .ne 5, 3) := by decide +kernel
theorem d_ZoneNodes_state_17 : decode b_ZoneNodes_state 17 = .ok (.iconst 3, 1) := by decide +kernel
theorem d_ZoneNodes_state_18 : decode b_ZoneNodes_state 18 = .ok (.ireturn, 1) := by decide +kernel
theorem d_ZoneNodes_state_19 : decode b_ZoneNodes_state 19 = .ok (.iload_n 1, 1) := by decide +kernel
theorem d_ZoneNodes_state_20 : decode b_ZoneNodes_state 20 = .ok (.ifCond .ne 7, 3) := by decide +kernel
theorem d_ZoneNodes_state_23 : decode b_ZoneNodes_state 23 = .ok (.iconst 0, 1) := by decide +kernel
theorem d_ZoneNodes_state_24 : decode b_ZoneNodes_state 24 = .ok (.goto 14, 3) := by decide +kernel
theorem d_ZoneNodes_state_27 : decode b_ZoneNodes_state 27 = .ok (.aload_n 0, 1) := by decide +kernel
theorem d_ZoneNodes_state_28 : decode b_ZoneNodes_state 28 = .ok (.getfield 33, 3) := by decide +kernel
theorem d_ZoneNodes_state_31 : decode b_ZoneNodes_state 31 = .ok (.iload_n 1, 1) := by decide +kernel
theorem d_ZoneNodes_state_32 : decode b_ZoneNodes_state 32 = .ok (.iconst 1, 1) := by decide +kernel
theorem d_ZoneNodes_state_33 : decode b_ZoneNodes_state 33 = .ok (.isub, 1) := by decide +kernel
theorem d_ZoneNodes_state_34 : decode b_ZoneNodes_state 34 = .ok (.aaload, 1) := by decide +kernel
theorem d_ZoneNodes_state_35 : decode b_ZoneNodes_state 35 = .ok (.getfield 187, 3) := by decide +kernel
theorem d_ZoneNodes_state_38 : decode b_ZoneNodes_state 38 = .ok (.ireturn, 1) := by decide +kernel
theorem d_Secondary_askIfTimeHasCome_0 : decode b_Secondary_askIfTimeHasCome 0 = .ok (.aload_n 0, 1) := by decide +kernel
theorem d_Secondary_askIfTimeHasCome_1 : decode b_Secondary_askIfTimeHasCome 1 = .ok (.getfield 48, 3) := by decide +kernel
theorem d_Secondary_askIfTimeHasCome_4 : decode b_Secondary_askIfTimeHasCome 4 = .ok (.iconst 1, 1) := by decide +kernel
theorem d_Secondary_askIfTimeHasCome_5 : decode b_Secondary_askIfTimeHasCome 5 = .ok (.if_icmp .ne 20, 3) := by decide +kernel
theorem d_Secondary_askIfTimeHasCome_8 : decode b_Secondary_askIfTimeHasCome 8 = .ok (.aload_n 0, 1) := by decide +kernel
theorem d_Secondary_askIfTimeHasCome_9 : decode b_Secondary_askIfTimeHasCome 9 = .ok (.getfield 51, 3) := by decide +kernel
theorem d_Secondary_askIfTimeHasCome_12 : decode b_Secondary_askIfTimeHasCome 12 = .ok (.iload_n 1, 1) := by decide +kernel
theorem d_Secondary_askIfTimeHasCome_13 : decode b_Secondary_askIfTimeHasCome 13 = .ok (.aload_n 0, 1) := by decide +kernel
theorem d_Secondary_askIfTimeHasCome_14 : decode b_Secondary_askIfTimeHasCome 14 = .ok (.getfield 28, 3) := by decide +kernel
theorem d_Secondary_askIfTimeHasCome_17 : decode b_Secondary_askIfTimeHasCome 17 = .ok (.isub, 1) := by decide +kernel
theorem d_Secondary_askIfTimeHasCome_18 : decode b_Secondary_askIfTimeHasCome 18 = .ok (.if_icmp .gt 7, 3) := by decide +kernel
theorem d_Secondary_askIfTimeHasCome_21 : decode b_Secondary_askIfTimeHasCome 21 = .ok (.iconst 1, 1) := by decide +kernel
theorem d_Secondary_askIfTimeHasCome_22 : decode b_Secondary_askIfTimeHasCome 22 = .ok (.goto 4, 3) := by decide +kernel
theorem d_Secondary_askIfTimeHasCome_25 : decode b_Secondary_askIfTimeHasCome 25 = .ok (.iconst 0, 1) := by decide +kernel
theorem d_Secondary_askIfTimeHasCome_26 : decode b_Secondary_askIfTimeHasCome 26 = .ok (.istore_n 3, 1) := by decide +kernel
theorem d_Secondary_askIfTimeHasCome_27 : decode b_Secondary_askIfTimeHasCome 27 = .ok (.aload_n 0, 1) := by decide +kernel
theorem d_Secondary_askIfTimeHasCome_28 : decode b_Secondary_askIfTimeHasCome 28 = .ok (.getfield 48, 3) := by decide +kernel
theorem d_Secondary_askIfTimeHasCome_31 : decode b_Secondary_askIfTimeHasCome 31 = .ok (.ifCond .ne 15, 3) := by decide +kernel
theorem d_Secondary_askIfTimeHasCome_34 : decode b_Secondary_askIfTimeHasCome 34 = .ok (.aload_n 0, 1) := by decide +kernel
theorem d_Secondary_askIfTimeHasCome_35 : decode b_Secondary_askIfTimeHasCome 35 = .ok (.getfield 54, 3) := by decide +kernel
theorem d_Secondary_askIfTimeHasCome_38 : decode b_Secondary_askIfTimeHasCome 38 = .ok (.iload_n 1, 1) := by decide +kernel
theorem d_Secondary_askIfTimeHasCome_39 : decode b_Secondary_askIfTimeHasCome 39 = .ok (.if_icmp .gt 7, 3) := by decide +kernel
theorem d_Secondary_askIfTimeHasCome_42 : decode b_Secondary_askIfTimeHasCome 42 = .ok (.iconst 1, 1) := by decide +kernel
theorem d_Secondary_askIfTimeHasCome_43 : decode b_Secondary_askIfTimeHasCome 43 = .ok (.goto 4, 3) := by decide +kernel
theorem d_Secondary_askIfTimeHasCome_46 : decode b_Secondary_askIfTimeHasCome 46 = .ok (.iconst 0, 1) := by decide +kernel
theorem d_Secondary_askIfTimeHasCome_47 : decode b_Secondary_askIfTimeHasCome 47 = .ok (.istore 4, 2) := by decide +kernel
theorem d_Secondary_askIfTimeHasCome_49 : decode b_Secondary_askIfTimeHasCome 49 = .ok (.aload_n 0, 1) := by decide +kernel
theorem d_Secondary_askIfTimeHasCome_50 : decode b_Secondary_askIfTimeHasCome 50 = .ok (.getfield 38, 3) := by decide +kernel
theorem d_Secondary_askIfTimeHasCome_53 : decode b_Secondary_askIfTimeHasCome 53 = .ok (.ifCond .eq 18, 3) := by decide +kernel
theorem d_Secondary_askIfTimeHasCome_56 : decode b_Secondary_askIfTimeHasCome 56 = .ok (.iload_n 3, 1) := by decide +kernel
theorem d_Secondary_askIfTimeHasCome_57 : decode b_Secondary_askIfTimeHasCome 57 = .ok (.ifCond .ne 8, 3) := by decide +kernel
theorem d_Secondary_askIfTimeHasCome_60 : decode b_Secondary_askIfTimeHasCome 60 = .ok (.iload 4, 2) := by decide +kernel
theorem d_Secondary_askIfTimeHasCome_62 : decode b_Secondary_askIfTimeHasCome 62 = .ok (.ifCond .eq 9, 3) := by decide +kernel
theorem d_Secondary_askIfTimeHasCome_65 : decode b_Secondary_askIfTimeHasCome 65 = .ok (.aload_n 0, 1) := by decide +kernel
theorem d_Secondary_askIfTimeHasCome_66 : decode b_Secondary_askIfTimeHasCome 66 = .ok (.iload_n 1, 1) := by decide +kernel
theorem d_Secondary_askIfTimeHasCome_67 : decode b_Secondary_askIfTimeHasCome 67 = .ok (.aload_n 2, 1) := by decide +kernel
theorem d_Secondary_askIfTimeHasCome_68 : decode b_Secondary_askIfTimeHasCome 68 = .ok (.invokevirtual 57, 3) := by decide +kernel
theorem d_Secondary_askIfTimeHasCome_71 : decode b_Secondary_askIfTimeHasCome 71 = .ok (.return_, 1) := by decide +kernel
theorem d_ZoneNodes_tick_0 : decode b_ZoneNodes_tick 0 = .ok (.iload_n 1, 1) := by decide +kernel
theorem d_ZoneNodes_tick_1 : decode b_ZoneNodes_tick 1 = .ok (.iconst 1, 1) := by decide +kernel
theorem d_ZoneNodes_tick_2 : decode b_ZoneNodes_tick 2 = .ok (.bipush 20, 2) := by decide +kernel
theorem d_ZoneNodes_tick_4 : decode b_ZoneNodes_tick 4 = .ok (.invokestatic 37, 3) := by decide +kernel
theorem d_ZoneNodes_tick_7 : decode b_ZoneNodes_tick 7 = .ok (.ifCond .ne 5, 3) := by decide +kernel
theorem d_ZoneNodes_tick_10 : decode b_ZoneNodes_tick 10 = .ok (.iconst 0, 1) := by decide +kernel
theorem d_ZoneNodes_tick_11 : decode b_ZoneNodes_tick 11 = .ok (.ireturn, 1) := by decide +kernel
theorem d_ZoneNodes_tick_12 : decode b_ZoneNodes_tick 12 = .ok (.iconst 0, 1) := by decide +kernel
theorem d_ZoneNodes_tick_13 : decode b_ZoneNodes_tick 13 = .ok (.istore_n 2, 1) := by decide +kernel
theorem d_ZoneNodes_tick_14 : decode b_ZoneNodes_tick 14 = .ok (.iload_n 2, 1) := by decide +kernel
theorem d_ZoneNodes_tick_15 : decode b_ZoneNodes_tick 15 = .ok (.iload_n 1, 1) := by decide +kernel
theorem d_ZoneNodes_tick_16 : decode b_ZoneNodes_tick 16 = .ok (.if_icmp .ge 49, 3) := by decide +kernel
theorem d_ZoneNodes_tick_19 : decode b_ZoneNodes_tick 19 = .ok (.aload_n 0, 1) := by decide +kernel
theorem d_ZoneNodes_tick_20 : decode b_ZoneNodes_tick 20 = .ok (.dup, 1) := by decide +kernel
theorem d_ZoneNodes_tick_21 : decode b_ZoneNodes_tick 21 = .ok (.getfield 93, 3) := by decide +kernel
theorem d_ZoneNodes_tick_24 : decode b_ZoneNodes_tick 24 = .ok (.iconst 1, 1) := by decide +kernel
theorem d_ZoneNodes_tick_25 : decode b_ZoneNodes_tick 25 = .ok (.iadd, 1) := by decide +kernel
theorem d_ZoneNodes_tick_26 : decode b_ZoneNodes_tick 26 = .ok (.putfield 93, 3) := by decide +kernel
theorem d_ZoneNodes_tick_29 : decode b_ZoneNodes_tick 29 = .ok (.iconst 0, 1) := by decide +kernel
theorem d_ZoneNodes_tick_30 : decode b_ZoneNodes_tick 30 = .ok (.istore_n 3, 1) := by decide +kernel
theorem d_ZoneNodes_tick_31 : decode b_ZoneNodes_tick 31 = .ok (.iload_n 3, 1) := by decide +kernel
theorem d_ZoneNodes_tick_32 : decode b_ZoneNodes_tick 32 = .ok (.iconst 2, 1) := by decide +kernel
theorem d_ZoneNodes_tick_33 : decode b_ZoneNodes_tick 33 = .ok (.if_icmp .ge 26, 3) := by decide +kernel
theorem d_ZoneNodes_tick_36 : decode b_ZoneNodes_tick 36 = .ok (.aload_n 0, 1) := by decide +kernel
theorem d_ZoneNodes_tick_37 : decode b_ZoneNodes_tick 37 = .ok (.getfield 33, 3) := by decide +kernel
theorem d_ZoneNodes_tick_40 : decode b_ZoneNodes_tick 40 = .ok (.iload_n 3, 1) := by decide +kernel
theorem d_ZoneNodes_tick_41 : decode b_ZoneNodes_tick 41 = .ok (.aaload, 1) := by decide +kernel
theorem d_ZoneNodes_tick_42 : decode b_ZoneNodes_tick 42 = .ok (.aload_n 0, 1) := by decide +kernel
theorem d_ZoneNodes_tick_43 : decode b_ZoneNodes_tick 43 = .ok (.getfield 93, 3) := by decide +kernel
theorem d_ZoneNodes_tick_46 : decode b_ZoneNodes_tick 46 = .ok (.aload_n 0, 1) := by decide +kernel
theorem d_ZoneNodes_tick_47 : decode b_ZoneNodes_tick 47 = .ok (.getfield 27, 3) := by decide +kernel
theorem d_ZoneNodes_tick_50 : decode b_ZoneNodes_tick 50 = .ok (.invokevirtual 96, 3) := by decide +kernel
theorem d_ZoneNodes_tick_53 : decode b_ZoneNodes_tick 53 = .ok (.iinc 3 1, 3) := by decide +kernel
theorem d_ZoneNodes_tick_56 : decode b_ZoneNodes_tick 56 = .ok (.goto (-25), 3) := by decide +kernel
theorem d_ZoneNodes_tick_59 : decode b_ZoneNodes_tick 59 = .ok (.iinc 2 1, 3) := by decide +kernel
theorem d_ZoneNodes_tick_62 : decode b_ZoneNodes_tick 62 = .ok (.goto (-48), 3) := by decide +kernel
theorem d_ZoneNodes_tick_65 : decode b_ZoneNodes_tick 65 = .ok (.iconst 1, 1) := by decide +kernel
theorem d_ZoneNodes_tick_66 : decode b_ZoneNodes_tick 66 = .ok (.ireturn, 1) := by decide +kernel
theorem d_Draft_empty_0 : decode b_Draft_empty 0 = .ok (.aload_n 0, 1) := by decide +kernel
theorem d_Draft_empty_1 : decode b_Draft_empty 1 = .ok (.iconst 0, 1) := by decide +kernel
theorem d_Draft_empty_2 : decode b_Draft_empty 2 = .ok (.putfield 18, 3) := by decide +kernel
theorem d_Draft_empty_5 : decode b_Draft_empty 5 = .ok (.aload_n 0, 1) := by decide +kernel
theorem d_Draft_empty_6 : decode b_Draft_empty 6 = .ok (.iconst 0, 1) := by decide +kernel
theorem d_Draft_empty_7 : decode b_Draft_empty 7 = .ok (.putfield 22, 3) := by decide +kernel
theorem d_Draft_empty_10 : decode b_Draft_empty 10 = .ok (.return_, 1) := by decide +kernel
theorem d_ZoneNodes_update_0 : decode b_ZoneNodes_update 0 = .ok (.aload_n 0, 1) := by decide +kernel
theorem d_ZoneNodes_update_1 : decode b_ZoneNodes_update 1 = .ok (.getfield 46, 3) := by decide +kernel
theorem d_ZoneNodes_update_4 : decode b_ZoneNodes_update 4 = .ok (.getfield 74, 3) := by decide +kernel
theorem d_ZoneNodes_update_7 : decode b_ZoneNodes_update 7 = .ok (.ifCond .ne 5, 3) := by decide +kernel
theorem d_ZoneNodes_update_10 : decode b_ZoneNodes_update 10 = .ok (.iconst (-1), 1) := by decide +kernel
theorem d_ZoneNodes_update_11 : decode b_ZoneNodes_update 11 = .ok (.ireturn, 1) := by decide +kernel
theorem d_ZoneNodes_update_12 : decode b_ZoneNodes_update 12 = .ok (.aload_n 0, 1) := by decide +kernel
theorem d_ZoneNodes_update_13 : decode b_ZoneNodes_update 13 = .ok (.iload_n 1, 1) := by decide +kernel
theorem d_ZoneNodes_update_14 : decode b_ZoneNodes_update 14 = .ok (.iload_n 2, 1) := by decide +kernel
theorem d_ZoneNodes_update_15 : decode b_ZoneNodes_update 15 = .ok (.iload_n 3, 1) := by decide +kernel
theorem d_ZoneNodes_update_16 : decode b_ZoneNodes_update 16 = .ok (.invokevirtual 78, 3) := by decide +kernel
theorem d_ZoneNodes_update_19 : decode b_ZoneNodes_update 19 = .ok (.istore 4, 2) := by decide +kernel
theorem d_ZoneNodes_update_21 : decode b_ZoneNodes_update 21 = .ok (.iload 4, 2) := by decide +kernel
theorem d_ZoneNodes_update_23 : decode b_ZoneNodes_update 23 = .ok (.ifCond .ne 9, 3) := by decide +kernel
theorem d_ZoneNodes_update_26 : decode b_ZoneNodes_update 26 = .ok (.aload_n 0, 1) := by decide +kernel
theorem d_ZoneNodes_update_27 : decode b_ZoneNodes_update 27 = .ok (.invokevirtual 82, 3) := by decide +kernel
theorem d_ZoneNodes_update_30 : decode b_ZoneNodes_update 30 = .ok (.istore 4, 2) := by decide +kernel
theorem d_ZoneNodes_update_32 : decode b_ZoneNodes_update 32 = .ok (.aload_n 0, 1) := by decide +kernel
theorem d_ZoneNodes_update_33 : decode b_ZoneNodes_update 33 = .ok (.getfield 20, 3) := by decide +kernel
theorem d_ZoneNodes_update_36 : decode b_ZoneNodes_update 36 = .ok (.invokevirtual 86, 3) := by decide +kernel
theorem d_ZoneNodes_update_39 : decode b_ZoneNodes_update 39 = .ok (.iload 4, 2) := by decide +kernel
theorem d_ZoneNodes_update_41 : decode b_ZoneNodes_update 41 = .ok (.ireturn, 1) := by decide +kernel
theorem d_ZoneNodesModel_place_0 : decode b_ZoneNodesModel_place 0 = .ok (.bipush 32, 2) := by decide +kernel
theorem d_ZoneNodesModel_place_2 : decode b_ZoneNodesModel_place 2 = .ok (.iload_n 0, 1) := by decide +kernel
theorem d_ZoneNodesModel_place_3 : decode b_ZoneNodesModel_place 3 = .ok (.imul, 1) := by decide +kernel
theorem d_ZoneNodesModel_place_4 : decode b_ZoneNodesModel_place 4 = .ok (.bipush 8, 2) := by decide +kernel
theorem d_ZoneNodesModel_place_6 : decode b_ZoneNodesModel_place 6 = .ok (.iload_n 1, 1) := by decide +kernel
theorem d_ZoneNodesModel_place_7 : decode b_ZoneNodesModel_place 7 = .ok (.iconst 1, 1) := by decide +kernel
theorem d_ZoneNodesModel_place_8 : decode b_ZoneNodesModel_place 8 = .ok (.isub, 1) := by decide +kernel
theorem d_ZoneNodesModel_place_9 : decode b_ZoneNodesModel_place 9 = .ok (.imul, 1) := by decide +kernel
theorem d_ZoneNodesModel_place_10 : decode b_ZoneNodesModel_place 10 = .ok (.iadd, 1) := by decide +kernel
theorem d_ZoneNodesModel_place_11 : decode b_ZoneNodesModel_place 11 = .ok (.iload_n 2, 1) := by decide +kernel
theorem d_ZoneNodesModel_place_12 : decode b_ZoneNodesModel_place 12 = .ok (.iadd, 1) := by decide +kernel
theorem d_ZoneNodesModel_place_13 : decode b_ZoneNodesModel_place 13 = .ok (.ireturn, 1) := by decide +kernel
theorem d_ZoneNodesModel_rest_0 : decode b_ZoneNodesModel_rest 0 = .ok (.aload_n 0, 1) := by decide +kernel
theorem d_ZoneNodesModel_rest_1 : decode b_ZoneNodesModel_rest 1 = .ok (.getfield 26, 3) := by decide +kernel
theorem d_ZoneNodesModel_rest_4 : decode b_ZoneNodesModel_rest 4 = .ok (.iload_n 1, 1) := by decide +kernel
theorem d_ZoneNodesModel_rest_5 : decode b_ZoneNodesModel_rest 5 = .ok (.iconst 0, 1) := by decide +kernel
theorem d_ZoneNodesModel_rest_6 : decode b_ZoneNodesModel_rest 6 = .ok (.iastore, 1) := by decide +kernel
theorem d_ZoneNodesModel_rest_7 : decode b_ZoneNodesModel_rest 7 = .ok (.aload_n 0, 1) := by decide +kernel
theorem d_ZoneNodesModel_rest_8 : decode b_ZoneNodesModel_rest 8 = .ok (.getfield 29, 3) := by decide +kernel
theorem d_ZoneNodesModel_rest_11 : decode b_ZoneNodesModel_rest 11 = .ok (.iload_n 1, 1) := by decide +kernel
theorem d_ZoneNodesModel_rest_12 : decode b_ZoneNodesModel_rest 12 = .ok (.aload_n 0, 1) := by decide +kernel
theorem d_ZoneNodesModel_rest_13 : decode b_ZoneNodesModel_rest 13 = .ok (.getfield 98, 3) := by decide +kernel
theorem d_ZoneNodesModel_rest_16 : decode b_ZoneNodesModel_rest 16 = .ok (.iload_n 2, 1) := by decide +kernel
theorem d_ZoneNodesModel_rest_17 : decode b_ZoneNodesModel_rest 17 = .ok (.iadd, 1) := by decide +kernel
theorem d_ZoneNodesModel_rest_18 : decode b_ZoneNodesModel_rest 18 = .ok (.iastore, 1) := by decide +kernel
theorem d_ZoneNodesModel_rest_19 : decode b_ZoneNodesModel_rest 19 = .ok (.return_, 1) := by decide +kernel
theorem d_ZoneNodesModel_init_0 : decode b_ZoneNodesModel_init 0 = .ok (.aload_n 0, 1) := by decide +kernel
theorem d_ZoneNodesModel_init_1 : decode b_ZoneNodesModel_init 1 = .ok (.invokespecial 1, 3) := by decide +kernel
theorem d_ZoneNodesModel_init_4 : decode b_ZoneNodesModel_init 4 = .ok (.aload_n 0, 1) := by decide +kernel
theorem d_ZoneNodesModel_init_5 : decode b_ZoneNodesModel_init 5 = .ok (.iconst 3, 1) := by decide +kernel
theorem d_ZoneNodesModel_init_6 : decode b_ZoneNodesModel_init 6 = .ok (.newarray .boolean, 2) := by decide +kernel
theorem d_ZoneNodesModel_init_8 : decode b_ZoneNodesModel_init 8 = .ok (.putfield 7, 3) := by decide +kernel
theorem d_ZoneNodesModel_init_11 : decode b_ZoneNodesModel_init 11 = .ok (.aload_n 0, 1) := by decide +kernel
theorem d_ZoneNodesModel_init_12 : decode b_ZoneNodesModel_init 12 = .ok (.iconst 3, 1) := by decide +kernel
theorem d_ZoneNodesModel_init_13 : decode b_ZoneNodesModel_init 13 = .ok (.newarray .boolean, 2) := by decide +kernel
theorem d_ZoneNodesModel_init_15 : decode b_ZoneNodesModel_init 15 = .ok (.putfield 13, 3) := by decide +kernel
theorem d_ZoneNodesModel_init_18 : decode b_ZoneNodesModel_init 18 = .ok (.aload_n 0, 1) := by decide +kernel
theorem d_ZoneNodesModel_init_19 : decode b_ZoneNodesModel_init 19 = .ok (.iconst 3, 1) := by decide +kernel
theorem d_ZoneNodesModel_init_20 : decode b_ZoneNodesModel_init 20 = .ok (.newarray .int, 2) := by decide +kernel
theorem d_ZoneNodesModel_init_22 : decode b_ZoneNodesModel_init 22 = .ok (.putfield 16, 3) := by decide +kernel
theorem d_ZoneNodesModel_init_25 : decode b_ZoneNodesModel_init 25 = .ok (.aload_n 0, 1) := by decide +kernel
theorem d_ZoneNodesModel_init_26 : decode b_ZoneNodesModel_init 26 = .ok (.sipush 768, 3) := by decide +kernel
theorem d_ZoneNodesModel_init_29 : decode b_ZoneNodesModel_init 29 = .ok (.newarray .boolean, 2) := by decide +kernel
theorem d_ZoneNodesModel_init_31 : decode b_ZoneNodesModel_init 31 = .ok (.putfield 20, 3) := by decide +kernel
theorem d_ZoneNodesModel_init_34 : decode b_ZoneNodesModel_init 34 = .ok (.aload_n 0, 1) := by decide +kernel
theorem d_ZoneNodesModel_init_35 : decode b_ZoneNodesModel_init 35 = .ok (.sipush 768, 3) := by decide +kernel
theorem d_ZoneNodesModel_init_38 : decode b_ZoneNodesModel_init 38 = .ok (.newarray .boolean, 2) := by decide +kernel
theorem d_ZoneNodesModel_init_40 : decode b_ZoneNodesModel_init 40 = .ok (.putfield 23, 3) := by decide +kernel
theorem d_ZoneNodesModel_init_43 : decode b_ZoneNodesModel_init 43 = .ok (.aload_n 0, 1) := by decide +kernel
theorem d_ZoneNodesModel_init_44 : decode b_ZoneNodesModel_init 44 = .ok (.iconst 3, 1) := by decide +kernel
theorem d_ZoneNodesModel_init_45 : decode b_ZoneNodesModel_init 45 = .ok (.newarray .int, 2) := by decide +kernel
theorem d_ZoneNodesModel_init_47 : decode b_ZoneNodesModel_init 47 = .ok (.putfield 26, 3) := by decide +kernel
theorem d_ZoneNodesModel_init_50 : decode b_ZoneNodesModel_init 50 = .ok (.aload_n 0, 1) := by decide +kernel
theorem d_ZoneNodesModel_init_51 : decode b_ZoneNodesModel_init 51 = .ok (.iconst 3, 1) := by decide +kernel
theorem d_ZoneNodesModel_init_52 : decode b_ZoneNodesModel_init 52 = .ok (.newarray .int, 2) := by decide +kernel
theorem d_ZoneNodesModel_init_54 : decode b_ZoneNodesModel_init 54 = .ok (.putfield 29, 3) := by decide +kernel
theorem d_ZoneNodesModel_init_57 : decode b_ZoneNodesModel_init 57 = .ok (.aload_n 0, 1) := by decide +kernel
theorem d_ZoneNodesModel_init_58 : decode b_ZoneNodesModel_init 58 = .ok (.iconst 3, 1) := by decide +kernel
theorem d_ZoneNodesModel_init_59 : decode b_ZoneNodesModel_init 59 = .ok (.newarray .int, 2) := by decide +kernel
theorem d_ZoneNodesModel_init_61 : decode b_ZoneNodesModel_init 61 = .ok (.putfield 32, 3) := by decide +kernel
theorem d_ZoneNodesModel_init_64 : decode b_ZoneNodesModel_init 64 = .ok (.aload_n 0, 1) := by decide +kernel
theorem d_ZoneNodesModel_init_65 : decode b_ZoneNodesModel_init 65 = .ok (.iconst 3, 1) := by decide +kernel
theorem d_ZoneNodesModel_init_66 : decode b_ZoneNodesModel_init 66 = .ok (.newarray .boolean, 2) := by decide +kernel
theorem d_ZoneNodesModel_init_68 : decode b_ZoneNodesModel_init 68 = .ok (.putfield 35, 3) := by decide +kernel
theorem d_ZoneNodesModel_init_71 : decode b_ZoneNodesModel_init 71 = .ok (.aload_n 0, 1) := by decide +kernel
theorem d_ZoneNodesModel_init_72 : decode b_ZoneNodesModel_init 72 = .ok (.iconst 3, 1) := by decide +kernel
theorem d_ZoneNodesModel_init_73 : decode b_ZoneNodesModel_init 73 = .ok (.newarray .int, 2) := by decide +kernel
theorem d_ZoneNodesModel_init_75 : decode b_ZoneNodesModel_init 75 = .ok (.putfield 38, 3) := by decide +kernel
theorem d_ZoneNodesModel_init_78 : decode b_ZoneNodesModel_init 78 = .ok (.aload_n 0, 1) := by decide +kernel
theorem d_ZoneNodesModel_init_79 : decode b_ZoneNodesModel_init 79 = .ok (.bipush 32, 2) := by decide +kernel
theorem d_ZoneNodesModel_init_81 : decode b_ZoneNodesModel_init 81 = .ok (.newarray .int, 2) := by decide +kernel
theorem d_ZoneNodesModel_init_83 : decode b_ZoneNodesModel_init 83 = .ok (.putfield 41, 3) := by decide +kernel
theorem d_ZoneNodesModel_init_86 : decode b_ZoneNodesModel_init 86 = .ok (.aload_n 0, 1) := by decide +kernel
theorem d_ZoneNodesModel_init_87 : decode b_ZoneNodesModel_init 87 = .ok (.bipush 6, 2) := by decide +kernel
theorem d_ZoneNodesModel_init_89 : decode b_ZoneNodesModel_init 89 = .ok (.newarray .int, 2) := by decide +kernel
theorem d_ZoneNodesModel_init_91 : decode b_ZoneNodesModel_init 91 = .ok (.putfield 44, 3) := by decide +kernel
theorem d_ZoneNodesModel_init_94 : decode b_ZoneNodesModel_init 94 = .ok (.aload_n 0, 1) := by decide +kernel
theorem d_ZoneNodesModel_init_95 : decode b_ZoneNodesModel_init 95 = .ok (.bipush 6, 2) := by decide +kernel
theorem d_ZoneNodesModel_init_97 : decode b_ZoneNodesModel_init 97 = .ok (.newarray .boolean, 2) := by decide +kernel
theorem d_ZoneNodesModel_init_99 : decode b_ZoneNodesModel_init 99 = .ok (.putfield 47, 3) := by decide +kernel
theorem d_ZoneNodesModel_init_102 : decode b_ZoneNodesModel_init 102 = .ok (.aload_n 0, 1) := by decide +kernel
theorem d_ZoneNodesModel_init_103 : decode b_ZoneNodesModel_init 103 = .ok (.sipush 1536, 3) := by decide +kernel
theorem d_ZoneNodesModel_init_106 : decode b_ZoneNodesModel_init 106 = .ok (.newarray .boolean, 2) := by decide +kernel
theorem d_ZoneNodesModel_init_108 : decode b_ZoneNodesModel_init 108 = .ok (.putfield 50, 3) := by decide +kernel
theorem d_ZoneNodesModel_init_111 : decode b_ZoneNodesModel_init 111 = .ok (.aload_n 0, 1) := by decide +kernel
theorem d_ZoneNodesModel_init_112 : decode b_ZoneNodesModel_init 112 = .ok (.bipush 6, 2) := by decide +kernel
theorem d_ZoneNodesModel_init_114 : decode b_ZoneNodesModel_init 114 = .ok (.newarray .int, 2) := by decide +kernel
theorem d_ZoneNodesModel_init_116 : decode b_ZoneNodesModel_init 116 = .ok (.putfield 53, 3) := by decide +kernel
theorem d_ZoneNodesModel_init_119 : decode b_ZoneNodesModel_init 119 = .ok (.aload_n 0, 1) := by decide +kernel
theorem d_ZoneNodesModel_init_120 : decode b_ZoneNodesModel_init 120 = .ok (.sipush 256, 3) := by decide +kernel
theorem d_ZoneNodesModel_init_123 : decode b_ZoneNodesModel_init 123 = .ok (.newarray .boolean, 2) := by decide +kernel
theorem d_ZoneNodesModel_init_125 : decode b_ZoneNodesModel_init 125 = .ok (.putfield 56, 3) := by decide +kernel
theorem d_ZoneNodesModel_init_128 : decode b_ZoneNodesModel_init 128 = .ok (.aload_n 0, 1) := by decide +kernel
theorem d_ZoneNodesModel_init_129 : decode b_ZoneNodesModel_init 129 = .ok (.bipush 96, 2) := by decide +kernel
theorem d_ZoneNodesModel_init_131 : decode b_ZoneNodesModel_init 131 = .ok (.newarray .int, 2) := by decide +kernel
theorem d_ZoneNodesModel_init_133 : decode b_ZoneNodesModel_init 133 = .ok (.putfield 59, 3) := by decide +kernel
theorem d_ZoneNodesModel_init_136 : decode b_ZoneNodesModel_init 136 = .ok (.aload_n 0, 1) := by decide +kernel
theorem d_ZoneNodesModel_init_137 : decode b_ZoneNodesModel_init 137 = .ok (.bipush 96, 2) := by decide +kernel
theorem d_ZoneNodesModel_init_139 : decode b_ZoneNodesModel_init 139 = .ok (.newarray .int, 2) := by decide +kernel
theorem d_ZoneNodesModel_init_141 : decode b_ZoneNodesModel_init 141 = .ok (.putfield 62, 3) := by decide +kernel
theorem d_ZoneNodesModel_init_144 : decode b_ZoneNodesModel_init 144 = .ok (.aload_n 0, 1) := by decide +kernel
theorem d_ZoneNodesModel_init_145 : decode b_ZoneNodesModel_init 145 = .ok (.bipush 96, 2) := by decide +kernel
theorem d_ZoneNodesModel_init_147 : decode b_ZoneNodesModel_init 147 = .ok (.newarray .int, 2) := by decide +kernel
theorem d_ZoneNodesModel_init_149 : decode b_ZoneNodesModel_init 149 = .ok (.putfield 65, 3) := by decide +kernel
theorem d_ZoneNodesModel_init_152 : decode b_ZoneNodesModel_init 152 = .ok (.aload_n 0, 1) := by decide +kernel
theorem d_ZoneNodesModel_init_153 : decode b_ZoneNodesModel_init 153 = .ok (.bipush 96, 2) := by decide +kernel
theorem d_ZoneNodesModel_init_155 : decode b_ZoneNodesModel_init 155 = .ok (.newarray .int, 2) := by decide +kernel
theorem d_ZoneNodesModel_init_157 : decode b_ZoneNodesModel_init 157 = .ok (.putfield 68, 3) := by decide +kernel
theorem d_ZoneNodesModel_init_160 : decode b_ZoneNodesModel_init 160 = .ok (.aload_n 0, 1) := by decide +kernel
theorem d_ZoneNodesModel_init_161 : decode b_ZoneNodesModel_init 161 = .ok (.bipush 96, 2) := by decide +kernel
theorem d_ZoneNodesModel_init_163 : decode b_ZoneNodesModel_init 163 = .ok (.newarray .int, 2) := by decide +kernel
theorem d_ZoneNodesModel_init_165 : decode b_ZoneNodesModel_init 165 = .ok (.putfield 71, 3) := by decide +kernel
theorem d_ZoneNodesModel_init_168 : decode b_ZoneNodesModel_init 168 = .ok (.aload_n 0, 1) := by decide +kernel
theorem d_ZoneNodesModel_init_169 : decode b_ZoneNodesModel_init 169 = .ok (.bipush 96, 2) := by decide +kernel
theorem d_ZoneNodesModel_init_171 : decode b_ZoneNodesModel_init 171 = .ok (.newarray .boolean, 2) := by decide +kernel
theorem d_ZoneNodesModel_init_173 : decode b_ZoneNodesModel_init 173 = .ok (.putfield 74, 3) := by decide +kernel
theorem d_ZoneNodesModel_init_176 : decode b_ZoneNodesModel_init 176 = .ok (.aload_n 0, 1) := by decide +kernel
theorem d_ZoneNodesModel_init_177 : decode b_ZoneNodesModel_init 177 = .ok (.bipush 96, 2) := by decide +kernel
theorem d_ZoneNodesModel_init_179 : decode b_ZoneNodesModel_init 179 = .ok (.newarray .boolean, 2) := by decide +kernel
theorem d_ZoneNodesModel_init_181 : decode b_ZoneNodesModel_init 181 = .ok (.putfield 77, 3) := by decide +kernel
theorem d_ZoneNodesModel_init_184 : decode b_ZoneNodesModel_init 184 = .ok (.aload_n 0, 1) := by decide +kernel
theorem d_ZoneNodesModel_init_185 : decode b_ZoneNodesModel_init 185 = .ok (.iload_n 2, 1) := by decide +kernel
theorem d_ZoneNodesModel_init_186 : decode b_ZoneNodesModel_init 186 = .ok (.iconst 4, 1) := by decide +kernel
theorem d_ZoneNodesModel_init_187 : decode b_ZoneNodesModel_init 187 = .ok (.if_icmp .lt 13, 3) := by decide +kernel
theorem d_ZoneNodesModel_init_190 : decode b_ZoneNodesModel_init 190 = .ok (.iload_n 2, 1) := by decide +kernel
theorem d_ZoneNodesModel_init_191 : decode b_ZoneNodesModel_init 191 = .ok (.bipush 50, 2) := by decide +kernel
theorem d_ZoneNodesModel_init_193 : decode b_ZoneNodesModel_init 193 = .ok (.if_icmp .gt 7, 3) := by decide +kernel
theorem d_ZoneNodesModel_init_196 : decode b_ZoneNodesModel_init 196 = .ok (.iload_n 2, 1) := by decide +kernel
theorem d_ZoneNodesModel_init_197 : decode b_ZoneNodesModel_init 197 = .ok (.goto 5, 3) := by decide +kernel
theorem d_ZoneNodesModel_init_200 : decode b_ZoneNodesModel_init 200 = .ok (.bipush 10, 2) := by decide +kernel
theorem d_ZoneNodesModel_init_202 : decode b_ZoneNodesModel_init 202 = .ok (.putfield 80, 3) := by decide +kernel
theorem d_ZoneNodesModel_init_205 : decode b_ZoneNodesModel_init 205 = .ok (.aload_n 0, 1) := by decide +kernel
theorem d_ZoneNodesModel_init_206 : decode b_ZoneNodesModel_init 206 = .ok (.iload_n 3, 1) := by decide +kernel
theorem d_ZoneNodesModel_init_207 : decode b_ZoneNodesModel_init 207 = .ok (.iconst 2, 1) := by decide +kernel
theorem d_ZoneNodesModel_init_208 : decode b_ZoneNodesModel_init 208 = .ok (.if_icmp .lt 13, 3) := by decide +kernel
theorem d_ZoneNodesModel_init_211 : decode b_ZoneNodesModel_init 211 = .ok (.iload_n 3, 1) := by decide +kernel
theorem d_ZoneNodesModel_init_212 : decode b_ZoneNodesModel_init 212 = .ok (.bipush 20, 2) := by decide +kernel
theorem d_ZoneNodesModel_init_214 : decode b_ZoneNodesModel_init 214 = .ok (.if_icmp .gt 7, 3) := by decide +kernel
theorem d_ZoneNodesModel_init_217 : decode b_ZoneNodesModel_init 217 = .ok (.iload_n 3, 1) := by decide +kernel
theorem d_ZoneNodesModel_init_218 : decode b_ZoneNodesModel_init 218 = .ok (.goto 4, 3) := by decide +kernel
theorem d_ZoneNodesModel_init_221 : decode b_ZoneNodesModel_init 221 = .ok (.iconst 4, 1) := by decide +kernel
theorem d_ZoneNodesModel_init_222 : decode b_ZoneNodesModel_init 222 = .ok (.putfield 84, 3) := by decide +kernel
theorem d_ZoneNodesModel_init_225 : decode b_ZoneNodesModel_init 225 = .ok (.aload_n 0, 1) := by decide +kernel
theorem d_ZoneNodesModel_init_226 : decode b_ZoneNodesModel_init 226 = .ok (.iload 4, 2) := by decide +kernel
theorem d_ZoneNodesModel_init_228 : decode b_ZoneNodesModel_init 228 = .ok (.bipush 10, 2) := by decide +kernel
theorem d_ZoneNodesModel_init_230 : decode b_ZoneNodesModel_init 230 = .ok (.if_icmp .lt 16, 3) := by decide +kernel
theorem d_ZoneNodesModel_init_233 : decode b_ZoneNodesModel_init 233 = .ok (.iload 4, 2) := by decide +kernel
theorem d_ZoneNodesModel_init_235 : decode b_ZoneNodesModel_init 235 = .ok (.sipush 200, 3) := by decide +kernel
theorem d_ZoneNodesModel_init_238 : decode b_ZoneNodesModel_init 238 = .ok (.if_icmp .gt 8, 3) := by decide +kernel
theorem d_ZoneNodesModel_init_241 : decode b_ZoneNodesModel_init 241 = .ok (.iload 4, 2) := by decide +kernel
theorem d_ZoneNodesModel_init_243 : decode b_ZoneNodesModel_init 243 = .ok (.goto 5, 3) := by decide +kernel
theorem d_ZoneNodesModel_init_246 : decode b_ZoneNodesModel_init 246 = .ok (.bipush 60, 2) := by decide +kernel
theorem d_ZoneNodesModel_init_248 : decode b_ZoneNodesModel_init 248 = .ok (.putfield 87, 3) := by decide +kernel
theorem d_ZoneNodesModel_init_251 : decode b_ZoneNodesModel_init 251 = .ok (.aload_n 0, 1) := by decide +kernel
theorem d_ZoneNodesModel_init_252 : decode b_ZoneNodesModel_init 252 = .ok (.getfield 16, 3) := by decide +kernel
theorem d_ZoneNodesModel_init_255 : decode b_ZoneNodesModel_init 255 = .ok (.iconst 0, 1) := by decide +kernel
theorem d_ZoneNodesModel_init_256 : decode b_ZoneNodesModel_init 256 = .ok (.iload_n 1, 1) := by decide +kernel
theorem d_ZoneNodesModel_init_257 : decode b_ZoneNodesModel_init 257 = .ok (.iastore, 1) := by decide +kernel
theorem d_ZoneNodesModel_init_258 : decode b_ZoneNodesModel_init 258 = .ok (.aload_n 0, 1) := by decide +kernel
theorem d_ZoneNodesModel_init_259 : decode b_ZoneNodesModel_init 259 = .ok (.getfield 13, 3) := by decide +kernel
theorem d_ZoneNodesModel_init_262 : decode b_ZoneNodesModel_init 262 = .ok (.iconst 0, 1) := by decide +kernel
theorem d_ZoneNodesModel_init_263 : decode b_ZoneNodesModel_init 263 = .ok (.iconst 1, 1) := by decide +kernel
theorem d_ZoneNodesModel_init_264 : decode b_ZoneNodesModel_init 264 = .ok (.bastore, 1) := by decide +kernel
theorem d_ZoneNodesModel_init_265 : decode b_ZoneNodesModel_init 265 = .ok (.aload_n 0, 1) := by decide +kernel
theorem d_ZoneNodesModel_init_266 : decode b_ZoneNodesModel_init 266 = .ok (.getfield 20, 3) := by decide +kernel
theorem d_ZoneNodesModel_init_269 : decode b_ZoneNodesModel_init 269 = .ok (.iconst 0, 1) := by decide +kernel
theorem d_ZoneNodesModel_init_270 : decode b_ZoneNodesModel_init 270 = .ok (.iconst 3, 1) := by decide +kernel
theorem d_ZoneNodesModel_init_271 : decode b_ZoneNodesModel_init 271 = .ok (.iconst 1, 1) := by decide +kernel
theorem d_ZoneNodesModel_init_272 : decode b_ZoneNodesModel_init 272 = .ok (.invokestatic 90, 3) := by decide +kernel
theorem d_ZoneNodesModel_init_275 : decode b_ZoneNodesModel_init 275 = .ok (.iconst 1, 1) := by decide +kernel
theorem d_ZoneNodesModel_init_276 : decode b_ZoneNodesModel_init 276 = .ok (.bastore, 1) := by decide +kernel
theorem d_ZoneNodesModel_init_277 : decode b_ZoneNodesModel_init 277 = .ok (.iconst 0, 1) := by decide +kernel
theorem d_ZoneNodesModel_init_278 : decode b_ZoneNodesModel_init 278 = .ok (.istore 5, 2) := by decide +kernel
theorem d_ZoneNodesModel_init_280 : decode b_ZoneNodesModel_init 280 = .ok (.iload 5, 2) := by decide +kernel
theorem d_ZoneNodesModel_init_282 : decode b_ZoneNodesModel_init 282 = .ok (.iconst 3, 1) := by decide +kernel
theorem d_ZoneNodesModel_init_283 : decode b_ZoneNodesModel_init 283 = .ok (.if_icmp .ge 17, 3) := by decide +kernel
theorem d_ZoneNodesModel_init_286 : decode b_ZoneNodesModel_init 286 = .ok (.aload_n 0, 1) := by decide +kernel
theorem d_ZoneNodesModel_init_287 : decode b_ZoneNodesModel_init 287 = .ok (.getfield 7, 3) := by decide +kernel
theorem d_ZoneNodesModel_init_290 : decode b_ZoneNodesModel_init 290 = .ok (.iload 5, 2) := by decide +kernel
theorem d_ZoneNodesModel_init_292 : decode b_ZoneNodesModel_init 292 = .ok (.iconst 1, 1) := by decide +kernel
theorem d_ZoneNodesModel_init_293 : decode b_ZoneNodesModel_init 293 = .ok (.bastore, 1) := by decide +kernel
theorem d_ZoneNodesModel_init_294 : decode b_ZoneNodesModel_init 294 = .ok (.iinc 5 1, 3) := by decide +kernel
theorem d_ZoneNodesModel_init_297 : decode b_ZoneNodesModel_init 297 = .ok (.goto (-17), 3) := by decide +kernel
theorem d_ZoneNodesModel_init_300 : decode b_ZoneNodesModel_init 300 = .ok (.aload_n 0, 1) := by decide +kernel
theorem d_ZoneNodesModel_init_301 : decode b_ZoneNodesModel_init 301 = .ok (.iconst 1, 1) := by decide +kernel
theorem d_ZoneNodesModel_init_302 : decode b_ZoneNodesModel_init 302 = .ok (.iconst 1, 1) := by decide +kernel
theorem d_ZoneNodesModel_init_303 : decode b_ZoneNodesModel_init 303 = .ok (.invokevirtual 94, 3) := by decide +kernel
theorem d_ZoneNodesModel_init_306 : decode b_ZoneNodesModel_init 306 = .ok (.aload_n 0, 1) := by decide +kernel
theorem d_ZoneNodesModel_init_307 : decode b_ZoneNodesModel_init 307 = .ok (.iconst 2, 1) := by decide +kernel
theorem d_ZoneNodesModel_init_308 : decode b_ZoneNodesModel_init 308 = .ok (.iconst 1, 1) := by decide +kernel
theorem d_ZoneNodesModel_init_309 : decode b_ZoneNodesModel_init 309 = .ok (.invokevirtual 94, 3) := by decide +kernel
theorem d_ZoneNodesModel_init_312 : decode b_ZoneNodesModel_init 312 = .ok (.aload_n 0, 1) := by decide +kernel
theorem d_ZoneNodesModel_init_313 : decode b_ZoneNodesModel_init 313 = .ok (.getfield 32, 3) := by decide +kernel
theorem d_ZoneNodesModel_init_316 : decode b_ZoneNodesModel_init 316 = .ok (.iconst 1, 1) := by decide +kernel
theorem d_ZoneNodesModel_init_317 : decode b_ZoneNodesModel_init 317 = .ok (.aload_n 0, 1) := by decide +kernel
theorem d_ZoneNodesModel_init_318 : decode b_ZoneNodesModel_init 318 = .ok (.getfield 87, 3) := by decide +kernel
theorem d_ZoneNodesModel_init_321 : decode b_ZoneNodesModel_init 321 = .ok (.iastore, 1) := by decide +kernel
theorem d_ZoneNodesModel_init_322 : decode b_ZoneNodesModel_init 322 = .ok (.aload_n 0, 1) := by decide +kernel
theorem d_ZoneNodesModel_init_323 : decode b_ZoneNodesModel_init 323 = .ok (.getfield 32, 3) := by decide +kernel
theorem d_ZoneNodesModel_init_326 : decode b_ZoneNodesModel_init 326 = .ok (.iconst 2, 1) := by decide +kernel
theorem d_ZoneNodesModel_init_327 : decode b_ZoneNodesModel_init 327 = .ok (.aload_n 0, 1) := by decide +kernel
theorem d_ZoneNodesModel_init_328 : decode b_ZoneNodesModel_init 328 = .ok (.getfield 87, 3) := by decide +kernel
theorem d_ZoneNodesModel_init_331 : decode b_ZoneNodesModel_init 331 = .ok (.iastore, 1) := by decide +kernel
theorem d_ZoneNodesModel_init_332 : decode b_ZoneNodesModel_init 332 = .ok (.return_, 1) := by decide +kernel
theorem d_ZoneNodesModel_isMessage_0 : decode b_ZoneNodesModel_isMessage 0 = .ok (.iload_n 1, 1) := by decide +kernel
theorem d_ZoneNodesModel_isMessage_1 : decode b_ZoneNodesModel_isMessage 1 = .ok (.ifCond .lt 15, 3) := by decide +kernel
theorem d_ZoneNodesModel_isMessage_4 : decode b_ZoneNodesModel_isMessage 4 = .ok (.iload_n 1, 1) := by decide +kernel
theorem d_ZoneNodesModel_isMessage_5 : decode b_ZoneNodesModel_isMessage 5 = .ok (.aload_n 0, 1) := by decide +kernel
theorem d_ZoneNodesModel_isMessage_6 : decode b_ZoneNodesModel_isMessage 6 = .ok (.getfield 177, 3) := by decide +kernel
theorem d_ZoneNodesModel_isMessage_9 : decode b_ZoneNodesModel_isMessage 9 = .ok (.if_icmp .ge 7, 3) := by decide +kernel
theorem d_ZoneNodesModel_isMessage_12 : decode b_ZoneNodesModel_isMessage 12 = .ok (.iconst 1, 1) := by decide +kernel
theorem d_ZoneNodesModel_isMessage_13 : decode b_ZoneNodesModel_isMessage 13 = .ok (.goto 4, 3) := by decide +kernel
theorem d_ZoneNodesModel_isMessage_16 : decode b_ZoneNodesModel_isMessage 16 = .ok (.iconst 0, 1) := by decide +kernel
theorem d_ZoneNodesModel_isMessage_17 : decode b_ZoneNodesModel_isMessage 17 = .ok (.ireturn, 1) := by decide +kernel
theorem d_ZoneNodesModel_alter_0 : decode b_ZoneNodesModel_alter 0 = .ok (.aload_n 0, 1) := by decide +kernel
theorem d_ZoneNodesModel_alter_1 : decode b_ZoneNodesModel_alter 1 = .ok (.iload_n 1, 1) := by decide +kernel
theorem d_ZoneNodesModel_alter_2 : decode b_ZoneNodesModel_alter 2 = .ok (.invokevirtual 187, 3) := by decide +kernel
theorem d_ZoneNodesModel_alter_5 : decode b_ZoneNodesModel_alter 5 = .ok (.ifCond .eq 22, 3) := by decide +kernel
theorem d_ZoneNodesModel_alter_8 : decode b_ZoneNodesModel_alter 8 = .ok (.aload_n 0, 1) := by decide +kernel
theorem d_ZoneNodesModel_alter_9 : decode b_ZoneNodesModel_alter 9 = .ok (.getfield 59, 3) := by decide +kernel
theorem d_ZoneNodesModel_alter_12 : decode b_ZoneNodesModel_alter 12 = .ok (.iload_n 1, 1) := by decide +kernel
theorem d_ZoneNodesModel_alter_13 : decode b_ZoneNodesModel_alter 13 = .ok (.iaload, 1) := by decide +kernel
theorem d_ZoneNodesModel_alter_14 : decode b_ZoneNodesModel_alter 14 = .ok (.iconst 5, 1) := by decide +kernel
theorem d_ZoneNodesModel_alter_15 : decode b_ZoneNodesModel_alter 15 = .ok (.if_icmp .ne 12, 3) := by decide +kernel
theorem d_ZoneNodesModel_alter_18 : decode b_ZoneNodesModel_alter 18 = .ok (.aload_n 0, 1) := by decide +kernel
theorem d_ZoneNodesModel_alter_19 : decode b_ZoneNodesModel_alter 19 = .ok (.getfield 74, 3) := by decide +kernel
theorem d_ZoneNodesModel_alter_22 : decode b_ZoneNodesModel_alter 22 = .ok (.iload_n 1, 1) := by decide +kernel
theorem d_ZoneNodesModel_alter_23 : decode b_ZoneNodesModel_alter 23 = .ok (.baload, 1) := by decide +kernel
theorem d_ZoneNodesModel_alter_24 : decode b_ZoneNodesModel_alter 24 = .ok (.ifCond .eq 5, 3) := by decide +kernel
theorem d_ZoneNodesModel_alter_27 : decode b_ZoneNodesModel_alter 27 = .ok (.iconst 0, 1) := by decide +kernel
theorem d_ZoneNodesModel_alter_28 : decode b_ZoneNodesModel_alter 28 = .ok (.ireturn, 1) := by decide +kernel
theorem d_ZoneNodesModel_alter_29 : decode b_ZoneNodesModel_alter 29 = .ok (.aload_n 0, 1) := by decide +kernel
theorem d_ZoneNodesModel_alter_30 : decode b_ZoneNodesModel_alter 30 = .ok (.getfield 74, 3) := by decide +kernel
theorem d_ZoneNodesModel_alter_33 : decode b_ZoneNodesModel_alter 33 = .ok (.iload_n 1, 1) := by decide +kernel
theorem d_ZoneNodesModel_alter_34 : decode b_ZoneNodesModel_alter 34 = .ok (.iconst 1, 1) := by decide +kernel
theorem d_ZoneNodesModel_alter_35 : decode b_ZoneNodesModel_alter 35 = .ok (.bastore, 1) := by decide +kernel
theorem d_ZoneNodesModel_alter_36 : decode b_ZoneNodesModel_alter 36 = .ok (.iconst 1, 1) := by decide +kernel
theorem d_ZoneNodesModel_alter_37 : decode b_ZoneNodesModel_alter 37 = .ok (.ireturn, 1) := by decide +kernel
theorem d_ZoneNodesModel_arm_0 : decode b_ZoneNodesModel_arm 0 = .ok (.iload_n 1, 1) := by decide +kernel
theorem d_ZoneNodesModel_arm_1 : decode b_ZoneNodesModel_arm 1 = .ok (.ifCond .lt 17, 3) := by decide +kernel
theorem d_ZoneNodesModel_arm_4 : decode b_ZoneNodesModel_arm 4 = .ok (.iload_n 1, 1) := by decide +kernel
theorem d_ZoneNodesModel_arm_5 : decode b_ZoneNodesModel_arm 5 = .ok (.iconst 3, 1) := by decide +kernel
theorem d_ZoneNodesModel_arm_6 : decode b_ZoneNodesModel_arm 6 = .ok (.if_icmp .gt 12, 3) := by decide +kernel
theorem d_ZoneNodesModel_arm_9 : decode b_ZoneNodesModel_arm 9 = .ok (.aload_n 0, 1) := by decide +kernel
theorem d_ZoneNodesModel_arm_10 : decode b_ZoneNodesModel_arm 10 = .ok (.getfield 7, 3) := by decide +kernel
theorem d_ZoneNodesModel_arm_13 : decode b_ZoneNodesModel_arm 13 = .ok (.iconst 0, 1) := by decide +kernel
theorem d_ZoneNodesModel_arm_14 : decode b_ZoneNodesModel_arm 14 = .ok (.baload, 1) := by decide +kernel
theorem d_ZoneNodesModel_arm_15 : decode b_ZoneNodesModel_arm 15 = .ok (.ifCond .ne 5, 3) := by decide +kernel
theorem d_ZoneNodesModel_arm_18 : decode b_ZoneNodesModel_arm 18 = .ok (.iconst 0, 1) := by decide +kernel
theorem d_ZoneNodesModel_arm_19 : decode b_ZoneNodesModel_arm 19 = .ok (.ireturn, 1) := by decide +kernel
theorem d_ZoneNodesModel_arm_20 : decode b_ZoneNodesModel_arm 20 = .ok (.aload_n 0, 1) := by decide +kernel
theorem d_ZoneNodesModel_arm_21 : decode b_ZoneNodesModel_arm 21 = .ok (.iload_n 1, 1) := by decide +kernel
theorem d_ZoneNodesModel_arm_22 : decode b_ZoneNodesModel_arm 22 = .ok (.putfield 159, 3) := by decide +kernel
theorem d_ZoneNodesModel_arm_25 : decode b_ZoneNodesModel_arm 25 = .ok (.iconst 1, 1) := by decide +kernel
theorem d_ZoneNodesModel_arm_26 : decode b_ZoneNodesModel_arm 26 = .ok (.ireturn, 1) := by decide +kernel
theorem d_ZoneNodesModel_isRecord_0 : decode b_ZoneNodesModel_isRecord 0 = .ok (.iload_n 0, 1) := by decide +kernel
theorem d_ZoneNodesModel_isRecord_1 : decode b_ZoneNodesModel_isRecord 1 = .ok (.ifCond .lt 33, 3) := by decide +kernel
theorem d_ZoneNodesModel_isRecord_4 : decode b_ZoneNodesModel_isRecord 4 = .ok (.iload_n 0, 1) := by decide +kernel
theorem d_ZoneNodesModel_isRecord_5 : decode b_ZoneNodesModel_isRecord 5 = .ok (.bipush 7, 2) := by decide +kernel
theorem d_ZoneNodesModel_isRecord_7 : decode b_ZoneNodesModel_isRecord 7 = .ok (.if_icmp .gt 27, 3) := by decide +kernel
theorem d_ZoneNodesModel_isRecord_10 : decode b_ZoneNodesModel_isRecord 10 = .ok (.iload_n 1, 1) := by decide +kernel
theorem d_ZoneNodesModel_isRecord_11 : decode b_ZoneNodesModel_isRecord 11 = .ok (.iconst 1, 1) := by decide +kernel
theorem d_ZoneNodesModel_isRecord_12 : decode b_ZoneNodesModel_isRecord 12 = .ok (.if_icmp .lt 22, 3) := by decide +kernel
theorem d_ZoneNodesModel_isRecord_15 : decode b_ZoneNodesModel_isRecord 15 = .ok (.iload_n 1, 1) := by decide +kernel
theorem d_ZoneNodesModel_isRecord_16 : decode b_ZoneNodesModel_isRecord 16 = .ok (.iconst 4, 1) := by decide +kernel
theorem d_ZoneNodesModel_isRecord_17 : decode b_ZoneNodesModel_isRecord 17 = .ok (.if_icmp .gt 17, 3) := by decide +kernel
theorem d_ZoneNodesModel_isRecord_20 : decode b_ZoneNodesModel_isRecord 20 = .ok (.iload_n 2, 1) := by decide +kernel
theorem d_ZoneNodesModel_isRecord_21 : decode b_ZoneNodesModel_isRecord 21 = .ok (.ifCond .lt 13, 3) := by decide +kernel
theorem d_ZoneNodesModel_isRecord_24 : decode b_ZoneNodesModel_isRecord 24 = .ok (.iload_n 2, 1) := by decide +kernel
theorem d_ZoneNodesModel_isRecord_25 : decode b_ZoneNodesModel_isRecord 25 = .ok (.bipush 7, 2) := by decide +kernel
theorem d_ZoneNodesModel_isRecord_27 : decode b_ZoneNodesModel_isRecord 27 = .ok (.if_icmp .gt 7, 3) := by decide +kernel
theorem d_ZoneNodesModel_isRecord_30 : decode b_ZoneNodesModel_isRecord 30 = .ok (.iconst 1, 1) := by decide +kernel
theorem d_ZoneNodesModel_isRecord_31 : decode b_ZoneNodesModel_isRecord 31 = .ok (.goto 4, 3) := by decide +kernel
theorem d_ZoneNodesModel_isRecord_34 : decode b_ZoneNodesModel_isRecord 34 = .ok (.iconst 0, 1) := by decide +kernel
theorem d_ZoneNodesModel_isRecord_35 : decode b_ZoneNodesModel_isRecord 35 = .ok (.ireturn, 1) := by decide +kernel
theorem d_ZoneNodesModel_say_0 : decode b_ZoneNodesModel_say 0 = .ok (.aload_n 0, 1) := by decide +kernel
theorem d_ZoneNodesModel_say_1 : decode b_ZoneNodesModel_say 1 = .ok (.getfield 41, 3) := by decide +kernel
theorem d_ZoneNodesModel_say_4 : decode b_ZoneNodesModel_say 4 = .ok (.iconst 4, 1) := by decide +kernel
theorem d_ZoneNodesModel_say_5 : decode b_ZoneNodesModel_say 5 = .ok (.iload_n 1, 1) := by decide +kernel
theorem d_ZoneNodesModel_say_6 : decode b_ZoneNodesModel_say 6 = .ok (.imul, 1) := by decide +kernel
theorem d_ZoneNodesModel_say_7 : decode b_ZoneNodesModel_say 7 = .ok (.iload_n 2, 1) := by decide +kernel
theorem d_ZoneNodesModel_say_8 : decode b_ZoneNodesModel_say 8 = .ok (.iastore, 1) := by decide +kernel
theorem d_ZoneNodesModel_say_9 : decode b_ZoneNodesModel_say 9 = .ok (.aload_n 0, 1) := by decide +kernel
theorem d_ZoneNodesModel_say_10 : decode b_ZoneNodesModel_say 10 = .ok (.getfield 41, 3) := by decide +kernel
theorem d_ZoneNodesModel_say_13 : decode b_ZoneNodesModel_say 13 = .ok (.iconst 4, 1) := by decide +kernel
theorem d_ZoneNodesModel_say_14 : decode b_ZoneNodesModel_say 14 = .ok (.iload_n 1, 1) := by decide +kernel
theorem d_ZoneNodesModel_say_15 : decode b_ZoneNodesModel_say 15 = .ok (.imul, 1) := by decide +kernel
theorem d_ZoneNodesModel_say_16 : decode b_ZoneNodesModel_say 16 = .ok (.iconst 1, 1) := by decide +kernel
theorem d_ZoneNodesModel_say_17 : decode b_ZoneNodesModel_say 17 = .ok (.iadd, 1) := by decide +kernel
theorem d_ZoneNodesModel_say_18 : decode b_ZoneNodesModel_say 18 = .ok (.iload_n 3, 1) := by decide +kernel
theorem d_ZoneNodesModel_say_19 : decode b_ZoneNodesModel_say 19 = .ok (.iastore, 1) := by decide +kernel
theorem d_ZoneNodesModel_say_20 : decode b_ZoneNodesModel_say 20 = .ok (.aload_n 0, 1) := by decide +kernel
theorem d_ZoneNodesModel_say_21 : decode b_ZoneNodesModel_say 21 = .ok (.getfield 41, 3) := by decide +kernel
theorem d_ZoneNodesModel_say_24 : decode b_ZoneNodesModel_say 24 = .ok (.iconst 4, 1) := by decide +kernel
theorem d_ZoneNodesModel_say_25 : decode b_ZoneNodesModel_say 25 = .ok (.iload_n 1, 1) := by decide +kernel
theorem d_ZoneNodesModel_say_26 : decode b_ZoneNodesModel_say 26 = .ok (.imul, 1) := by decide +kernel
theorem d_ZoneNodesModel_say_27 : decode b_ZoneNodesModel_say 27 = .ok (.iconst 2, 1) := by decide +kernel
theorem d_ZoneNodesModel_say_28 : decode b_ZoneNodesModel_say 28 = .ok (.iadd, 1) := by decide +kernel
theorem d_ZoneNodesModel_say_29 : decode b_ZoneNodesModel_say 29 = .ok (.iload 4, 2) := by decide +kernel
theorem d_ZoneNodesModel_say_31 : decode b_ZoneNodesModel_say 31 = .ok (.iastore, 1) := by decide +kernel
theorem d_ZoneNodesModel_say_32 : decode b_ZoneNodesModel_say 32 = .ok (.aload_n 0, 1) := by decide +kernel
theorem d_ZoneNodesModel_say_33 : decode b_ZoneNodesModel_say 33 = .ok (.getfield 41, 3) := by decide +kernel
theorem d_ZoneNodesModel_say_36 : decode b_ZoneNodesModel_say 36 = .ok (.iconst 4, 1) := by decide +kernel
theorem d_ZoneNodesModel_say_37 : decode b_ZoneNodesModel_say 37 = .ok (.iload_n 1, 1) := by decide +kernel
theorem d_ZoneNodesModel_say_38 : decode b_ZoneNodesModel_say 38 = .ok (.imul, 1) := by decide +kernel
theorem d_ZoneNodesModel_say_39 : decode b_ZoneNodesModel_say 39 = .ok (.iconst 3, 1) := by decide +kernel
theorem d_ZoneNodesModel_say_40 : decode b_ZoneNodesModel_say 40 = .ok (.iadd, 1) := by decide +kernel
theorem d_ZoneNodesModel_say_41 : decode b_ZoneNodesModel_say 41 = .ok (.iload 5, 2) := by decide +kernel
theorem d_ZoneNodesModel_say_43 : decode b_ZoneNodesModel_say 43 = .ok (.iastore, 1) := by decide +kernel
theorem d_ZoneNodesModel_say_44 : decode b_ZoneNodesModel_say 44 = .ok (.return_, 1) := by decide +kernel
theorem d_ZoneNodesModel_change_0 : decode b_ZoneNodesModel_change 0 = .ok (.iload_n 1, 1) := by decide +kernel
theorem d_ZoneNodesModel_change_1 : decode b_ZoneNodesModel_change 1 = .ok (.ifCond .lt 26, 3) := by decide +kernel
theorem d_ZoneNodesModel_change_4 : decode b_ZoneNodesModel_change 4 = .ok (.iload_n 1, 1) := by decide +kernel
theorem d_ZoneNodesModel_change_5 : decode b_ZoneNodesModel_change 5 = .ok (.iconst 3, 1) := by decide +kernel
theorem d_ZoneNodesModel_change_6 : decode b_ZoneNodesModel_change 6 = .ok (.if_icmp .gt 21, 3) := by decide +kernel
theorem d_ZoneNodesModel_change_9 : decode b_ZoneNodesModel_change 9 = .ok (.iload_n 2, 1) := by decide +kernel
theorem d_ZoneNodesModel_change_10 : decode b_ZoneNodesModel_change 10 = .ok (.iload_n 3, 1) := by decide +kernel
theorem d_ZoneNodesModel_change_11 : decode b_ZoneNodesModel_change 11 = .ok (.iload 4, 2) := by decide +kernel
theorem d_ZoneNodesModel_change_13 : decode b_ZoneNodesModel_change 13 = .ok (.invokestatic 101, 3) := by decide +kernel
theorem d_ZoneNodesModel_change_16 : decode b_ZoneNodesModel_change 16 = .ok (.ifCond .eq 11, 3) := by decide +kernel
theorem d_ZoneNodesModel_change_19 : decode b_ZoneNodesModel_change 19 = .ok (.aload_n 0, 1) := by decide +kernel
theorem d_ZoneNodesModel_change_20 : decode b_ZoneNodesModel_change 20 = .ok (.getfield 112, 3) := by decide +kernel
theorem d_ZoneNodesModel_change_23 : decode b_ZoneNodesModel_change 23 = .ok (.iconst 4, 1) := by decide +kernel
theorem d_ZoneNodesModel_change_24 : decode b_ZoneNodesModel_change 24 = .ok (.if_icmp .lt 5, 3) := by decide +kernel
theorem d_ZoneNodesModel_change_27 : decode b_ZoneNodesModel_change 27 = .ok (.iconst 0, 1) := by decide +kernel
theorem d_ZoneNodesModel_change_28 : decode b_ZoneNodesModel_change 28 = .ok (.ireturn, 1) := by decide +kernel
theorem d_ZoneNodesModel_change_29 : decode b_ZoneNodesModel_change 29 = .ok (.aload_n 0, 1) := by decide +kernel
theorem d_ZoneNodesModel_change_30 : decode b_ZoneNodesModel_change 30 = .ok (.iconst 4, 1) := by decide +kernel
theorem d_ZoneNodesModel_change_31 : decode b_ZoneNodesModel_change 31 = .ok (.aload_n 0, 1) := by decide +kernel
theorem d_ZoneNodesModel_change_32 : decode b_ZoneNodesModel_change 32 = .ok (.getfield 112, 3) := by decide +kernel
theorem d_ZoneNodesModel_change_35 : decode b_ZoneNodesModel_change 35 = .ok (.iadd, 1) := by decide +kernel
theorem d_ZoneNodesModel_change_36 : decode b_ZoneNodesModel_change 36 = .ok (.iload_n 1, 1) := by decide +kernel
theorem d_ZoneNodesModel_change_37 : decode b_ZoneNodesModel_change 37 = .ok (.iload_n 2, 1) := by decide +kernel
theorem d_ZoneNodesModel_change_38 : decode b_ZoneNodesModel_change 38 = .ok (.iload_n 3, 1) := by decide +kernel
theorem d_ZoneNodesModel_change_39 : decode b_ZoneNodesModel_change 39 = .ok (.iload 4, 2) := by decide +kernel
theorem d_ZoneNodesModel_change_41 : decode b_ZoneNodesModel_change 41 = .ok (.invokevirtual 108, 3) := by decide +kernel
theorem d_ZoneNodesModel_change_44 : decode b_ZoneNodesModel_change 44 = .ok (.aload_n 0, 1) := by decide +kernel
theorem d_ZoneNodesModel_change_45 : decode b_ZoneNodesModel_change 45 = .ok (.dup, 1) := by decide +kernel
theorem d_ZoneNodesModel_change_46 : decode b_ZoneNodesModel_change 46 = .ok (.getfield 112, 3) := by decide +kernel
theorem d_ZoneNodesModel_change_49 : decode b_ZoneNodesModel_change 49 = .ok (.iconst 1, 1) := by decide +kernel
theorem d_ZoneNodesModel_change_50 : decode b_ZoneNodesModel_change 50 = .ok (.iadd, 1) := by decide +kernel
theorem d_ZoneNodesModel_change_51 : decode b_ZoneNodesModel_change 51 = .ok (.putfield 112, 3) := by decide +kernel
theorem d_ZoneNodesModel_change_54 : decode b_ZoneNodesModel_change 54 = .ok (.iconst 1, 1) := by decide +kernel
theorem d_ZoneNodesModel_change_55 : decode b_ZoneNodesModel_change 55 = .ok (.ireturn, 1) := by decide +kernel
theorem d_ZoneNodesModel_remove_0 : decode b_ZoneNodesModel_remove 0 = .ok (.aload_n 0, 1) := by decide +kernel
theorem d_ZoneNodesModel_remove_1 : decode b_ZoneNodesModel_remove 1 = .ok (.dup, 1) := by decide +kernel
theorem d_ZoneNodesModel_remove_2 : decode b_ZoneNodesModel_remove 2 = .ok (.getfield 177, 3) := by decide +kernel
theorem d_ZoneNodesModel_remove_5 : decode b_ZoneNodesModel_remove 5 = .ok (.iconst 1, 1) := by decide +kernel
theorem d_ZoneNodesModel_remove_6 : decode b_ZoneNodesModel_remove 6 = .ok (.isub, 1) := by decide +kernel
theorem d_ZoneNodesModel_remove_7 : decode b_ZoneNodesModel_remove 7 = .ok (.putfield 177, 3) := by decide +kernel
theorem d_ZoneNodesModel_remove_10 : decode b_ZoneNodesModel_remove 10 = .ok (.iload_n 1, 1) := by decide +kernel
theorem d_ZoneNodesModel_remove_11 : decode b_ZoneNodesModel_remove 11 = .ok (.istore_n 2, 1) := by decide +kernel
theorem d_ZoneNodesModel_remove_12 : decode b_ZoneNodesModel_remove 12 = .ok (.iload_n 2, 1) := by decide +kernel
theorem d_ZoneNodesModel_remove_13 : decode b_ZoneNodesModel_remove 13 = .ok (.aload_n 0, 1) := by decide +kernel
theorem d_ZoneNodesModel_remove_14 : decode b_ZoneNodesModel_remove 14 = .ok (.getfield 177, 3) := by decide +kernel
theorem d_ZoneNodesModel_remove_17 : decode b_ZoneNodesModel_remove 17 = .ok (.if_icmp .ge 107, 3) := by decide +kernel
theorem d_ZoneNodesModel_remove_20 : decode b_ZoneNodesModel_remove 20 = .ok (.aload_n 0, 1) := by decide +kernel
theorem d_ZoneNodesModel_remove_21 : decode b_ZoneNodesModel_remove 21 = .ok (.getfield 59, 3) := by decide +kernel
theorem d_ZoneNodesModel_remove_24 : decode b_ZoneNodesModel_remove 24 = .ok (.iload_n 2, 1) := by decide +kernel
theorem d_ZoneNodesModel_remove_25 : decode b_ZoneNodesModel_remove 25 = .ok (.aload_n 0, 1) := by decide +kernel
theorem d_ZoneNodesModel_remove_26 : decode b_ZoneNodesModel_remove 26 = .ok (.getfield 59, 3) := by decide +kernel
theorem d_ZoneNodesModel_remove_29 : decode b_ZoneNodesModel_remove 29 = .ok (.iload_n 2, 1) := by decide +kernel
theorem d_ZoneNodesModel_remove_30 : decode b_ZoneNodesModel_remove 30 = .ok (.iconst 1, 1) := by decide +kernel
theorem d_ZoneNodesModel_remove_31 : decode b_ZoneNodesModel_remove 31 = .ok (.iadd, 1) := by decide +kernel
theorem d_ZoneNodesModel_remove_32 : decode b_ZoneNodesModel_remove 32 = .ok (.iaload, 1) := by decide +kernel
theorem d_ZoneNodesModel_remove_33 : decode b_ZoneNodesModel_remove 33 = .ok (.iastore, 1) := by decide +kernel
theorem d_ZoneNodesModel_remove_34 : decode b_ZoneNodesModel_remove 34 = .ok (.aload_n 0, 1) := by decide +kernel
theorem d_ZoneNodesModel_remove_35 : decode b_ZoneNodesModel_remove 35 = .ok (.getfield 62, 3) := by decide +kernel
theorem d_ZoneNodesModel_remove_38 : decode b_ZoneNodesModel_remove 38 = .ok (.iload_n 2, 1) := by decide +kernel
theorem d_ZoneNodesModel_remove_39 : decode b_ZoneNodesModel_remove 39 = .ok (.aload_n 0, 1) := by decide +kernel
theorem d_ZoneNodesModel_remove_40 : decode b_ZoneNodesModel_remove 40 = .ok (.getfield 62, 3) := by decide +kernel
theorem d_ZoneNodesModel_remove_43 : decode b_ZoneNodesModel_remove 43 = .ok (.iload_n 2, 1) := by decide +kernel
theorem d_ZoneNodesModel_remove_44 : decode b_ZoneNodesModel_remove 44 = .ok (.iconst 1, 1) := by decide +kernel
theorem d_ZoneNodesModel_remove_45 : decode b_ZoneNodesModel_remove 45 = .ok (.iadd, 1) := by decide +kernel
theorem d_ZoneNodesModel_remove_46 : decode b_ZoneNodesModel_remove 46 = .ok (.iaload, 1) := by decide +kernel
theorem d_ZoneNodesModel_remove_47 : decode b_ZoneNodesModel_remove 47 = .ok (.iastore, 1) := by decide +kernel
theorem d_ZoneNodesModel_remove_48 : decode b_ZoneNodesModel_remove 48 = .ok (.aload_n 0, 1) := by decide +kernel
theorem d_ZoneNodesModel_remove_49 : decode b_ZoneNodesModel_remove 49 = .ok (.getfield 65, 3) := by decide +kernel
theorem d_ZoneNodesModel_remove_52 : decode b_ZoneNodesModel_remove 52 = .ok (.iload_n 2, 1) := by decide +kernel
theorem d_ZoneNodesModel_remove_53 : decode b_ZoneNodesModel_remove 53 = .ok (.aload_n 0, 1) := by decide +kernel
theorem d_ZoneNodesModel_remove_54 : decode b_ZoneNodesModel_remove 54 = .ok (.getfield 65, 3) := by decide +kernel
theorem d_ZoneNodesModel_remove_57 : decode b_ZoneNodesModel_remove 57 = .ok (.iload_n 2, 1) := by decide +kernel
theorem d_ZoneNodesModel_remove_58 : decode b_ZoneNodesModel_remove 58 = .ok (.iconst 1, 1) := by decide +kernel
theorem d_ZoneNodesModel_remove_59 : decode b_ZoneNodesModel_remove 59 = .ok (.iadd, 1) := by decide +kernel
theorem d_ZoneNodesModel_remove_60 : decode b_ZoneNodesModel_remove 60 = .ok (.iaload, 1) := by decide +kernel
theorem d_ZoneNodesModel_remove_61 : decode b_ZoneNodesModel_remove 61 = .ok (.iastore, 1) := by decide +kernel
theorem d_ZoneNodesModel_remove_62 : decode b_ZoneNodesModel_remove 62 = .ok (.aload_n 0, 1) := by decide +kernel
theorem d_ZoneNodesModel_remove_63 : decode b_ZoneNodesModel_remove 63 = .ok (.getfield 68, 3) := by decide +kernel
theorem d_ZoneNodesModel_remove_66 : decode b_ZoneNodesModel_remove 66 = .ok (.iload_n 2, 1) := by decide +kernel
theorem d_ZoneNodesModel_remove_67 : decode b_ZoneNodesModel_remove 67 = .ok (.aload_n 0, 1) := by decide +kernel
theorem d_ZoneNodesModel_remove_68 : decode b_ZoneNodesModel_remove 68 = .ok (.getfield 68, 3) := by decide +kernel
theorem d_ZoneNodesModel_remove_71 : decode b_ZoneNodesModel_remove 71 = .ok (.iload_n 2, 1) := by decide +kernel
theorem d_ZoneNodesModel_remove_72 : decode b_ZoneNodesModel_remove 72 = .ok (.iconst 1, 1) := by decide +kernel
theorem d_ZoneNodesModel_remove_73 : decode b_ZoneNodesModel_remove 73 = .ok (.iadd, 1) := by decide +kernel
theorem d_ZoneNodesModel_remove_74 : decode b_ZoneNodesModel_remove 74 = .ok (.iaload, 1) := by decide +kernel
theorem d_ZoneNodesModel_remove_75 : decode b_ZoneNodesModel_remove 75 = .ok (.iastore, 1) := by decide +kernel
theorem d_ZoneNodesModel_remove_76 : decode b_ZoneNodesModel_remove 76 = .ok (.aload_n 0, 1) := by decide +kernel
theorem d_ZoneNodesModel_remove_77 : decode b_ZoneNodesModel_remove 77 = .ok (.getfield 71, 3) := by decide +kernel
theorem d_ZoneNodesModel_remove_80 : decode b_ZoneNodesModel_remove 80 = .ok (.iload_n 2, 1) := by decide +kernel
theorem d_ZoneNodesModel_remove_81 : decode b_ZoneNodesModel_remove 81 = .ok (.aload_n 0, 1) := by decide +kernel
theorem d_ZoneNodesModel_remove_82 : decode b_ZoneNodesModel_remove 82 = .ok (.getfield 71, 3) := by decide +kernel
theorem d_ZoneNodesModel_remove_85 : decode b_ZoneNodesModel_remove 85 = .ok (.iload_n 2, 1) := by decide +kernel
theorem d_ZoneNodesModel_remove_86 : decode b_ZoneNodesModel_remove 86 = .ok (.iconst 1, 1) := by decide +kernel
theorem d_ZoneNodesModel_remove_87 : decode b_ZoneNodesModel_remove 87 = .ok (.iadd, 1) := by decide +kernel
theorem d_ZoneNodesModel_remove_88 : decode b_ZoneNodesModel_remove 88 = .ok (.iaload, 1) := by decide +kernel
theorem d_ZoneNodesModel_remove_89 : decode b_ZoneNodesModel_remove 89 = .ok (.iastore, 1) := by decide +kernel
theorem d_ZoneNodesModel_remove_90 : decode b_ZoneNodesModel_remove 90 = .ok (.aload_n 0, 1) := by decide +kernel
theorem d_ZoneNodesModel_remove_91 : decode b_ZoneNodesModel_remove 91 = .ok (.getfield 74, 3) := by decide +kernel
theorem d_ZoneNodesModel_remove_94 : decode b_ZoneNodesModel_remove 94 = .ok (.iload_n 2, 1) := by decide +kernel
theorem d_ZoneNodesModel_remove_95 : decode b_ZoneNodesModel_remove 95 = .ok (.aload_n 0, 1) := by decide +kernel
theorem d_ZoneNodesModel_remove_96 : decode b_ZoneNodesModel_remove 96 = .ok (.getfield 74, 3) := by decide +kernel
theorem d_ZoneNodesModel_remove_99 : decode b_ZoneNodesModel_remove 99 = .ok (.iload_n 2, 1) := by decide +kernel
theorem d_ZoneNodesModel_remove_100 : decode b_ZoneNodesModel_remove 100 = .ok (.iconst 1, 1) := by decide +kernel
theorem d_ZoneNodesModel_remove_101 : decode b_ZoneNodesModel_remove 101 = .ok (.iadd, 1) := by decide +kernel
