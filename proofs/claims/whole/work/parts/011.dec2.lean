theorem d_ZoneNodes_takePrimaryDown_43 : decode b_ZoneNodes_takePrimaryDown 43 = .ok (.invokevirtual 234, 3) := by decide +kernel
theorem d_ZoneNodes_takePrimaryDown_46 : decode b_ZoneNodes_takePrimaryDown 46 = .ok (.iinc 1 1, 3) := by decide +kernel
theorem d_ZoneNodes_takePrimaryDown_49 : decode b_ZoneNodes_takePrimaryDown 49 = .ok (.goto (-31), 3) := by decide +kernel
theorem d_ZoneNodes_takePrimaryDown_52 : decode b_ZoneNodes_takePrimaryDown 52 = .ok (.return_, 1) := by decide +kernel
theorem d_ZoneNodes_crash_0 : decode b_ZoneNodes_crash 0 = .ok (.iload_n 1, 1) := by decide +kernel
theorem d_ZoneNodes_crash_1 : decode b_ZoneNodes_crash 1 = .ok (.invokestatic 133, 3) := by decide +kernel
theorem d_ZoneNodes_crash_4 : decode b_ZoneNodes_crash 4 = .ok (.ifCond .eq 11, 3) := by decide +kernel
theorem d_ZoneNodes_crash_7 : decode b_ZoneNodes_crash 7 = .ok (.aload_n 0, 1) := by decide +kernel
theorem d_ZoneNodes_crash_8 : decode b_ZoneNodes_crash 8 = .ok (.iload_n 1, 1) := by decide +kernel
theorem d_ZoneNodes_crash_9 : decode b_ZoneNodes_crash 9 = .ok (.invokevirtual 136, 3) := by decide +kernel
theorem d_ZoneNodes_crash_12 : decode b_ZoneNodes_crash 12 = .ok (.ifCond .ne 5, 3) := by decide +kernel
theorem d_ZoneNodes_crash_15 : decode b_ZoneNodes_crash 15 = .ok (.iconst 0, 1) := by decide +kernel
theorem d_ZoneNodes_crash_16 : decode b_ZoneNodes_crash 16 = .ok (.ireturn, 1) := by decide +kernel
theorem d_ZoneNodes_crash_17 : decode b_ZoneNodes_crash 17 = .ok (.iload_n 1, 1) := by decide +kernel
theorem d_ZoneNodes_crash_18 : decode b_ZoneNodes_crash 18 = .ok (.ifCond .ne 10, 3) := by decide +kernel
theorem d_ZoneNodes_crash_21 : decode b_ZoneNodes_crash 21 = .ok (.aload_n 0, 1) := by decide +kernel
theorem d_ZoneNodes_crash_22 : decode b_ZoneNodes_crash 22 = .ok (.invokevirtual 139, 3) := by decide +kernel
theorem d_ZoneNodes_crash_25 : decode b_ZoneNodes_crash 25 = .ok (.goto 23, 3) := by decide +kernel
theorem d_ZoneNodes_crash_28 : decode b_ZoneNodes_crash 28 = .ok (.aload_n 0, 1) := by decide +kernel
theorem d_ZoneNodes_crash_29 : decode b_ZoneNodes_crash 29 = .ok (.getfield 27, 3) := by decide +kernel
theorem d_ZoneNodes_crash_32 : decode b_ZoneNodes_crash 32 = .ok (.iload_n 1, 1) := by decide +kernel
theorem d_ZoneNodes_crash_33 : decode b_ZoneNodes_crash 33 = .ok (.invokevirtual 142, 3) := by decide +kernel
theorem d_ZoneNodes_crash_36 : decode b_ZoneNodes_crash 36 = .ok (.aload_n 0, 1) := by decide +kernel
theorem d_ZoneNodes_crash_37 : decode b_ZoneNodes_crash 37 = .ok (.getfield 33, 3) := by decide +kernel
theorem d_ZoneNodes_crash_40 : decode b_ZoneNodes_crash 40 = .ok (.iload_n 1, 1) := by decide +kernel
theorem d_ZoneNodes_crash_41 : decode b_ZoneNodes_crash 41 = .ok (.iconst 1, 1) := by decide +kernel
theorem d_ZoneNodes_crash_42 : decode b_ZoneNodes_crash 42 = .ok (.isub, 1) := by decide +kernel
theorem d_ZoneNodes_crash_43 : decode b_ZoneNodes_crash 43 = .ok (.aaload, 1) := by decide +kernel
theorem d_ZoneNodes_crash_44 : decode b_ZoneNodes_crash 44 = .ok (.iconst 0, 1) := by decide +kernel
theorem d_ZoneNodes_crash_45 : decode b_ZoneNodes_crash 45 = .ok (.putfield 145, 3) := by decide +kernel
theorem d_ZoneNodes_crash_48 : decode b_ZoneNodes_crash 48 = .ok (.iconst 1, 1) := by decide +kernel
theorem d_ZoneNodes_crash_49 : decode b_ZoneNodes_crash 49 = .ok (.ireturn, 1) := by decide +kernel
theorem d_Wire_isBehindAnotherPart_0 : decode b_Wire_isBehindAnotherPart 0 = .ok (.aload_n 0, 1) := by decide +kernel
theorem d_Wire_isBehindAnotherPart_1 : decode b_Wire_isBehindAnotherPart 1 = .ok (.getfield 11, 3) := by decide +kernel
theorem d_Wire_isBehindAnotherPart_4 : decode b_Wire_isBehindAnotherPart 4 = .ok (.iload_n 1, 1) := by decide +kernel
theorem d_Wire_isBehindAnotherPart_5 : decode b_Wire_isBehindAnotherPart 5 = .ok (.aaload, 1) := by decide +kernel
theorem d_Wire_isBehindAnotherPart_6 : decode b_Wire_isBehindAnotherPart 6 = .ok (.getfield 26, 3) := by decide +kernel
theorem d_Wire_isBehindAnotherPart_9 : decode b_Wire_isBehindAnotherPart 9 = .ok (.iconst 5, 1) := by decide +kernel
theorem d_Wire_isBehindAnotherPart_10 : decode b_Wire_isBehindAnotherPart 10 = .ok (.if_icmp .eq 5, 3) := by decide +kernel
theorem d_Wire_isBehindAnotherPart_13 : decode b_Wire_isBehindAnotherPart 13 = .ok (.iconst 0, 1) := by decide +kernel
theorem d_Wire_isBehindAnotherPart_14 : decode b_Wire_isBehindAnotherPart 14 = .ok (.ireturn, 1) := by decide +kernel
theorem d_Wire_isBehindAnotherPart_15 : decode b_Wire_isBehindAnotherPart 15 = .ok (.iconst 0, 1) := by decide +kernel
theorem d_Wire_isBehindAnotherPart_16 : decode b_Wire_isBehindAnotherPart 16 = .ok (.istore_n 2, 1) := by decide +kernel
theorem d_Wire_isBehindAnotherPart_17 : decode b_Wire_isBehindAnotherPart 17 = .ok (.iload_n 2, 1) := by decide +kernel
theorem d_Wire_isBehindAnotherPart_18 : decode b_Wire_isBehindAnotherPart 18 = .ok (.iload_n 1, 1) := by decide +kernel
theorem d_Wire_isBehindAnotherPart_19 : decode b_Wire_isBehindAnotherPart 19 = .ok (.if_icmp .ge 45, 3) := by decide +kernel
theorem d_Wire_isBehindAnotherPart_22 : decode b_Wire_isBehindAnotherPart 22 = .ok (.aload_n 0, 1) := by decide +kernel
theorem d_Wire_isBehindAnotherPart_23 : decode b_Wire_isBehindAnotherPart 23 = .ok (.getfield 11, 3) := by decide +kernel
theorem d_Wire_isBehindAnotherPart_26 : decode b_Wire_isBehindAnotherPart 26 = .ok (.iload_n 2, 1) := by decide +kernel
theorem d_Wire_isBehindAnotherPart_27 : decode b_Wire_isBehindAnotherPart 27 = .ok (.aaload, 1) := by decide +kernel
theorem d_Wire_isBehindAnotherPart_28 : decode b_Wire_isBehindAnotherPart 28 = .ok (.getfield 26, 3) := by decide +kernel
theorem d_Wire_isBehindAnotherPart_31 : decode b_Wire_isBehindAnotherPart 31 = .ok (.iconst 5, 1) := by decide +kernel
theorem d_Wire_isBehindAnotherPart_32 : decode b_Wire_isBehindAnotherPart 32 = .ok (.if_icmp .ne 26, 3) := by decide +kernel
theorem d_Wire_isBehindAnotherPart_35 : decode b_Wire_isBehindAnotherPart 35 = .ok (.aload_n 0, 1) := by decide +kernel
theorem d_Wire_isBehindAnotherPart_36 : decode b_Wire_isBehindAnotherPart 36 = .ok (.getfield 11, 3) := by decide +kernel
theorem d_Wire_isBehindAnotherPart_39 : decode b_Wire_isBehindAnotherPart 39 = .ok (.iload_n 2, 1) := by decide +kernel
theorem d_Wire_isBehindAnotherPart_40 : decode b_Wire_isBehindAnotherPart 40 = .ok (.aaload, 1) := by decide +kernel
theorem d_Wire_isBehindAnotherPart_41 : decode b_Wire_isBehindAnotherPart 41 = .ok (.getfield 29, 3) := by decide +kernel
theorem d_Wire_isBehindAnotherPart_44 : decode b_Wire_isBehindAnotherPart 44 = .ok (.aload_n 0, 1) := by decide +kernel
theorem d_Wire_isBehindAnotherPart_45 : decode b_Wire_isBehindAnotherPart 45 = .ok (.getfield 11, 3) := by decide +kernel
theorem d_Wire_isBehindAnotherPart_48 : decode b_Wire_isBehindAnotherPart 48 = .ok (.iload_n 1, 1) := by decide +kernel
theorem d_Wire_isBehindAnotherPart_49 : decode b_Wire_isBehindAnotherPart 49 = .ok (.aaload, 1) := by decide +kernel
theorem d_Wire_isBehindAnotherPart_50 : decode b_Wire_isBehindAnotherPart 50 = .ok (.getfield 29, 3) := by decide +kernel
theorem d_Wire_isBehindAnotherPart_53 : decode b_Wire_isBehindAnotherPart 53 = .ok (.if_icmp .ne 5, 3) := by decide +kernel
theorem d_Wire_isBehindAnotherPart_56 : decode b_Wire_isBehindAnotherPart 56 = .ok (.iconst 1, 1) := by decide +kernel
theorem d_Wire_isBehindAnotherPart_57 : decode b_Wire_isBehindAnotherPart 57 = .ok (.ireturn, 1) := by decide +kernel
theorem d_Wire_isBehindAnotherPart_58 : decode b_Wire_isBehindAnotherPart 58 = .ok (.iinc 2 1, 3) := by decide +kernel
theorem d_Wire_isBehindAnotherPart_61 : decode b_Wire_isBehindAnotherPart 61 = .ok (.goto (-44), 3) := by decide +kernel
theorem d_Wire_isBehindAnotherPart_64 : decode b_Wire_isBehindAnotherPart 64 = .ok (.iconst 0, 1) := by decide +kernel
theorem d_Wire_isBehindAnotherPart_65 : decode b_Wire_isBehindAnotherPart 65 = .ok (.ireturn, 1) := by decide +kernel
theorem d_ZoneNodes_deliver_0 : decode b_ZoneNodes_deliver 0 = .ok (.aload_n 0, 1) := by decide +kernel
theorem d_ZoneNodes_deliver_1 : decode b_ZoneNodes_deliver 1 = .ok (.getfield 27, 3) := by decide +kernel
theorem d_ZoneNodes_deliver_4 : decode b_ZoneNodes_deliver 4 = .ok (.iload_n 1, 1) := by decide +kernel
theorem d_ZoneNodes_deliver_5 : decode b_ZoneNodes_deliver 5 = .ok (.invokevirtual 100, 3) := by decide +kernel
theorem d_ZoneNodes_deliver_8 : decode b_ZoneNodes_deliver 8 = .ok (.astore_n 2, 1) := by decide +kernel
theorem d_ZoneNodes_deliver_9 : decode b_ZoneNodes_deliver 9 = .ok (.aload_n 2, 1) := by decide +kernel
theorem d_ZoneNodes_deliver_10 : decode b_ZoneNodes_deliver 10 = .ok (.ifnull 14, 3) := by decide +kernel
theorem d_ZoneNodes_deliver_13 : decode b_ZoneNodes_deliver 13 = .ok (.aload_n 0, 1) := by decide +kernel
theorem d_ZoneNodes_deliver_14 : decode b_ZoneNodes_deliver 14 = .ok (.getfield 27, 3) := by decide +kernel
theorem d_ZoneNodes_deliver_17 : decode b_ZoneNodes_deliver 17 = .ok (.iload_n 1, 1) := by decide +kernel
theorem d_ZoneNodes_deliver_18 : decode b_ZoneNodes_deliver 18 = .ok (.invokevirtual 104, 3) := by decide +kernel
theorem d_ZoneNodes_deliver_21 : decode b_ZoneNodes_deliver 21 = .ok (.ifCond .eq 5, 3) := by decide +kernel
theorem d_ZoneNodes_deliver_24 : decode b_ZoneNodes_deliver 24 = .ok (.iconst 0, 1) := by decide +kernel
theorem d_ZoneNodes_deliver_25 : decode b_ZoneNodes_deliver 25 = .ok (.ireturn, 1) := by decide +kernel
theorem d_ZoneNodes_deliver_26 : decode b_ZoneNodes_deliver 26 = .ok (.aload_n 0, 1) := by decide +kernel
theorem d_ZoneNodes_deliver_27 : decode b_ZoneNodes_deliver 27 = .ok (.getfield 27, 3) := by decide +kernel
theorem d_ZoneNodes_deliver_30 : decode b_ZoneNodes_deliver 30 = .ok (.iload_n 1, 1) := by decide +kernel
theorem d_ZoneNodes_deliver_31 : decode b_ZoneNodes_deliver 31 = .ok (.invokevirtual 107, 3) := by decide +kernel
theorem d_ZoneNodes_deliver_34 : decode b_ZoneNodes_deliver 34 = .ok (.aload_n 2, 1) := by decide +kernel
theorem d_ZoneNodes_deliver_35 : decode b_ZoneNodes_deliver 35 = .ok (.getfield 110, 3) := by decide +kernel
theorem d_ZoneNodes_deliver_38 : decode b_ZoneNodes_deliver 38 = .ok (.iconst 2, 1) := by decide +kernel
theorem d_ZoneNodes_deliver_39 : decode b_ZoneNodes_deliver 39 = .ok (.if_icmp .eq 11, 3) := by decide +kernel
theorem d_ZoneNodes_deliver_42 : decode b_ZoneNodes_deliver 42 = .ok (.aload_n 2, 1) := by decide +kernel
theorem d_ZoneNodes_deliver_43 : decode b_ZoneNodes_deliver 43 = .ok (.getfield 110, 3) := by decide +kernel
theorem d_ZoneNodes_deliver_46 : decode b_ZoneNodes_deliver 46 = .ok (.iconst 4, 1) := by decide +kernel
theorem d_ZoneNodes_deliver_47 : decode b_ZoneNodes_deliver 47 = .ok (.if_icmp .ne 11, 3) := by decide +kernel
theorem d_ZoneNodes_deliver_50 : decode b_ZoneNodes_deliver 50 = .ok (.aload_n 0, 1) := by decide +kernel
theorem d_ZoneNodes_deliver_51 : decode b_ZoneNodes_deliver 51 = .ok (.aload_n 2, 1) := by decide +kernel
theorem d_ZoneNodes_deliver_52 : decode b_ZoneNodes_deliver 52 = .ok (.invokevirtual 115, 3) := by decide +kernel
theorem d_ZoneNodes_deliver_55 : decode b_ZoneNodes_deliver 55 = .ok (.goto 19, 3) := by decide +kernel
theorem d_ZoneNodes_deliver_58 : decode b_ZoneNodes_deliver 58 = .ok (.aload_n 0, 1) := by decide +kernel
theorem d_ZoneNodes_deliver_59 : decode b_ZoneNodes_deliver 59 = .ok (.aload_n 2, 1) := by decide +kernel
theorem d_ZoneNodes_deliver_60 : decode b_ZoneNodes_deliver 60 = .ok (.aload_n 0, 1) := by decide +kernel
theorem d_ZoneNodes_deliver_61 : decode b_ZoneNodes_deliver 61 = .ok (.getfield 33, 3) := by decide +kernel
theorem d_ZoneNodes_deliver_64 : decode b_ZoneNodes_deliver 64 = .ok (.aload_n 2, 1) := by decide +kernel
theorem d_ZoneNodes_deliver_65 : decode b_ZoneNodes_deliver 65 = .ok (.getfield 119, 3) := by decide +kernel
theorem d_ZoneNodes_deliver_68 : decode b_ZoneNodes_deliver 68 = .ok (.iconst 1, 1) := by decide +kernel
theorem d_ZoneNodes_deliver_69 : decode b_ZoneNodes_deliver 69 = .ok (.isub, 1) := by decide +kernel
theorem d_ZoneNodes_deliver_70 : decode b_ZoneNodes_deliver 70 = .ok (.aaload, 1) := by decide +kernel
theorem d_ZoneNodes_deliver_71 : decode b_ZoneNodes_deliver 71 = .ok (.invokevirtual 122, 3) := by decide +kernel
theorem d_ZoneNodes_deliver_74 : decode b_ZoneNodes_deliver 74 = .ok (.iconst 1, 1) := by decide +kernel
theorem d_ZoneNodes_deliver_75 : decode b_ZoneNodes_deliver 75 = .ok (.ireturn, 1) := by decide +kernel
theorem d_ZoneNodes_drop_0 : decode b_ZoneNodes_drop 0 = .ok (.aload_n 0, 1) := by decide +kernel
theorem d_ZoneNodes_drop_1 : decode b_ZoneNodes_drop 1 = .ok (.getfield 27, 3) := by decide +kernel
theorem d_ZoneNodes_drop_4 : decode b_ZoneNodes_drop 4 = .ok (.iload_n 1, 1) := by decide +kernel
theorem d_ZoneNodes_drop_5 : decode b_ZoneNodes_drop 5 = .ok (.invokevirtual 100, 3) := by decide +kernel
theorem d_ZoneNodes_drop_8 : decode b_ZoneNodes_drop 8 = .ok (.astore_n 2, 1) := by decide +kernel
theorem d_ZoneNodes_drop_9 : decode b_ZoneNodes_drop 9 = .ok (.aload_n 2, 1) := by decide +kernel
theorem d_ZoneNodes_drop_10 : decode b_ZoneNodes_drop 10 = .ok (.ifnull 10, 3) := by decide +kernel
theorem d_ZoneNodes_drop_13 : decode b_ZoneNodes_drop 13 = .ok (.aload_n 2, 1) := by decide +kernel
theorem d_ZoneNodes_drop_14 : decode b_ZoneNodes_drop 14 = .ok (.invokevirtual 126, 3) := by decide +kernel
theorem d_ZoneNodes_drop_17 : decode b_ZoneNodes_drop 17 = .ok (.ifCond .eq 5, 3) := by decide +kernel
theorem d_ZoneNodes_drop_20 : decode b_ZoneNodes_drop 20 = .ok (.iconst 0, 1) := by decide +kernel
theorem d_ZoneNodes_drop_21 : decode b_ZoneNodes_drop 21 = .ok (.ireturn, 1) := by decide +kernel
theorem d_ZoneNodes_drop_22 : decode b_ZoneNodes_drop 22 = .ok (.aload_n 0, 1) := by decide +kernel
theorem d_ZoneNodes_drop_23 : decode b_ZoneNodes_drop 23 = .ok (.getfield 27, 3) := by decide +kernel
theorem d_ZoneNodes_drop_26 : decode b_ZoneNodes_drop 26 = .ok (.iload_n 1, 1) := by decide +kernel
theorem d_ZoneNodes_drop_27 : decode b_ZoneNodes_drop 27 = .ok (.invokevirtual 107, 3) := by decide +kernel
theorem d_ZoneNodes_drop_30 : decode b_ZoneNodes_drop 30 = .ok (.iconst 1, 1) := by decide +kernel
theorem d_ZoneNodes_drop_31 : decode b_ZoneNodes_drop 31 = .ok (.ireturn, 1) := by decide +kernel
theorem d_ZoneNodes_recordsOf_0 : decode b_ZoneNodes_recordsOf 0 = .ok (.iload_n 1, 1) := by decide +kernel
theorem d_ZoneNodes_recordsOf_1 : decode b_ZoneNodes_recordsOf 1 = .ok (.ifCond .ne 11, 3) := by decide +kernel
theorem d_ZoneNodes_recordsOf_4 : decode b_ZoneNodes_recordsOf 4 = .ok (.aload_n 0, 1) := by decide +kernel
theorem d_ZoneNodes_recordsOf_5 : decode b_ZoneNodes_recordsOf 5 = .ok (.getfield 46, 3) := by decide +kernel
theorem d_ZoneNodes_recordsOf_8 : decode b_ZoneNodes_recordsOf 8 = .ok (.getfield 197, 3) := by decide +kernel
theorem d_ZoneNodes_recordsOf_11 : decode b_ZoneNodes_recordsOf 11 = .ok (.areturn, 1) := by decide +kernel
theorem d_ZoneNodes_recordsOf_12 : decode b_ZoneNodes_recordsOf 12 = .ok (.iload_n 1, 1) := by decide +kernel
theorem d_ZoneNodes_recordsOf_13 : decode b_ZoneNodes_recordsOf 13 = .ok (.invokestatic 133, 3) := by decide +kernel
theorem d_ZoneNodes_recordsOf_16 : decode b_ZoneNodes_recordsOf 16 = .ok (.ifCond .eq 17, 3) := by decide +kernel
theorem d_ZoneNodes_recordsOf_19 : decode b_ZoneNodes_recordsOf 19 = .ok (.aload_n 0, 1) := by decide +kernel
theorem d_ZoneNodes_recordsOf_20 : decode b_ZoneNodes_recordsOf 20 = .ok (.getfield 33, 3) := by decide +kernel
theorem d_ZoneNodes_recordsOf_23 : decode b_ZoneNodes_recordsOf 23 = .ok (.iload_n 1, 1) := by decide +kernel
theorem d_ZoneNodes_recordsOf_24 : decode b_ZoneNodes_recordsOf 24 = .ok (.iconst 1, 1) := by decide +kernel
theorem d_ZoneNodes_recordsOf_25 : decode b_ZoneNodes_recordsOf 25 = .ok (.isub, 1) := by decide +kernel
theorem d_ZoneNodes_recordsOf_26 : decode b_ZoneNodes_recordsOf 26 = .ok (.aaload, 1) := by decide +kernel
theorem d_ZoneNodes_recordsOf_27 : decode b_ZoneNodes_recordsOf 27 = .ok (.getfield 201, 3) := by decide +kernel
theorem d_ZoneNodes_recordsOf_30 : decode b_ZoneNodes_recordsOf 30 = .ok (.ifCond .ne 5, 3) := by decide +kernel
theorem d_ZoneNodes_recordsOf_33 : decode b_ZoneNodes_recordsOf 33 = .ok (.aconst_null, 1) := by decide +kernel
theorem d_ZoneNodes_recordsOf_34 : decode b_ZoneNodes_recordsOf 34 = .ok (.areturn, 1) := by decide +kernel
theorem d_ZoneNodes_recordsOf_35 : decode b_ZoneNodes_recordsOf 35 = .ok (.aload_n 0, 1) := by decide +kernel
theorem d_ZoneNodes_recordsOf_36 : decode b_ZoneNodes_recordsOf 36 = .ok (.getfield 33, 3) := by decide +kernel
theorem d_ZoneNodes_recordsOf_39 : decode b_ZoneNodes_recordsOf 39 = .ok (.iload_n 1, 1) := by decide +kernel
theorem d_ZoneNodes_recordsOf_40 : decode b_ZoneNodes_recordsOf 40 = .ok (.iconst 1, 1) := by decide +kernel
theorem d_ZoneNodes_recordsOf_41 : decode b_ZoneNodes_recordsOf 41 = .ok (.isub, 1) := by decide +kernel
theorem d_ZoneNodes_recordsOf_42 : decode b_ZoneNodes_recordsOf 42 = .ok (.aaload, 1) := by decide +kernel
theorem d_ZoneNodes_recordsOf_43 : decode b_ZoneNodes_recordsOf 43 = .ok (.getfield 204, 3) := by decide +kernel
theorem d_ZoneNodes_recordsOf_46 : decode b_ZoneNodes_recordsOf 46 = .ok (.areturn, 1) := by decide +kernel
theorem d_Records_contains_0 : decode b_Records_contains 0 = .ok (.aload_n 0, 1) := by decide +kernel
theorem d_Records_contains_1 : decode b_Records_contains 1 = .ok (.iload_n 1, 1) := by decide +kernel
theorem d_Records_contains_2 : decode b_Records_contains 2 = .ok (.iload_n 2, 1) := by decide +kernel
theorem d_Records_contains_3 : decode b_Records_contains 3 = .ok (.invokevirtual 15, 3) := by decide +kernel
theorem d_Records_contains_6 : decode b_Records_contains 6 = .ok (.iload_n 3, 1) := by decide +kernel
theorem d_Records_contains_7 : decode b_Records_contains 7 = .ok (.ishr, 1) := by decide +kernel
theorem d_Records_contains_8 : decode b_Records_contains 8 = .ok (.iconst 1, 1) := by decide +kernel
theorem d_Records_contains_9 : decode b_Records_contains 9 = .ok (.iand, 1) := by decide +kernel
theorem d_Records_contains_10 : decode b_Records_contains 10 = .ok (.iconst 1, 1) := by decide +kernel
theorem d_Records_contains_11 : decode b_Records_contains 11 = .ok (.if_icmp .ne 7, 3) := by decide +kernel
theorem d_Records_contains_14 : decode b_Records_contains 14 = .ok (.iconst 1, 1) := by decide +kernel
theorem d_Records_contains_15 : decode b_Records_contains 15 = .ok (.goto 4, 3) := by decide +kernel
theorem d_Records_contains_18 : decode b_Records_contains 18 = .ok (.iconst 0, 1) := by decide +kernel
theorem d_Records_contains_19 : decode b_Records_contains 19 = .ok (.ireturn, 1) := by decide +kernel
theorem d_ZoneNodes_has_0 : decode b_ZoneNodes_has 0 = .ok (.aload_n 0, 1) := by decide +kernel
theorem d_ZoneNodes_has_1 : decode b_ZoneNodes_has 1 = .ok (.iload_n 1, 1) := by decide +kernel
theorem d_ZoneNodes_has_2 : decode b_ZoneNodes_has 2 = .ok (.invokevirtual 164, 3) := by decide +kernel
theorem d_ZoneNodes_has_5 : decode b_ZoneNodes_has 5 = .ok (.astore 5, 2) := by decide +kernel
theorem d_ZoneNodes_has_7 : decode b_ZoneNodes_has 7 = .ok (.aload 5, 2) := by decide +kernel
theorem d_ZoneNodes_has_9 : decode b_ZoneNodes_has 9 = .ok (.ifnull 29, 3) := by decide +kernel
theorem d_ZoneNodes_has_12 : decode b_ZoneNodes_has 12 = .ok (.iload_n 2, 1) := by decide +kernel
theorem d_ZoneNodes_has_13 : decode b_ZoneNodes_has 13 = .ok (.iload_n 3, 1) := by decide +kernel
theorem d_ZoneNodes_has_14 : decode b_ZoneNodes_has 14 = .ok (.iload 4, 2) := by decide +kernel
theorem d_ZoneNodes_has_16 : decode b_ZoneNodes_has 16 = .ok (.invokestatic 53, 3) := by decide +kernel
theorem d_ZoneNodes_has_19 : decode b_ZoneNodes_has 19 = .ok (.ifCond .eq 19, 3) := by decide +kernel
theorem d_ZoneNodes_has_22 : decode b_ZoneNodes_has 22 = .ok (.aload 5, 2) := by decide +kernel
theorem d_ZoneNodes_has_24 : decode b_ZoneNodes_has 24 = .ok (.iload_n 2, 1) := by decide +kernel
theorem d_ZoneNodes_has_25 : decode b_ZoneNodes_has 25 = .ok (.iload_n 3, 1) := by decide +kernel
theorem d_ZoneNodes_has_26 : decode b_ZoneNodes_has 26 = .ok (.iload 4, 2) := by decide +kernel
theorem d_ZoneNodes_has_28 : decode b_ZoneNodes_has 28 = .ok (.invokevirtual 177, 3) := by decide +kernel
theorem d_ZoneNodes_has_31 : decode b_ZoneNodes_has 31 = .ok (.ifCond .eq 7, 3) := by decide +kernel
theorem d_ZoneNodes_has_34 : decode b_ZoneNodes_has 34 = .ok (.iconst 1, 1) := by decide +kernel
theorem d_ZoneNodes_has_35 : decode b_ZoneNodes_has 35 = .ok (.goto 4, 3) := by decide +kernel
theorem d_ZoneNodes_has_38 : decode b_ZoneNodes_has 38 = .ok (.iconst 0, 1) := by decide +kernel
theorem d_ZoneNodes_has_39 : decode b_ZoneNodes_has 39 = .ok (.ireturn, 1) := by decide +kernel
theorem d_ZoneNodes_journal_0 : decode b_ZoneNodes_journal 0 = .ok (.aload_n 0, 1) := by decide +kernel
theorem d_ZoneNodes_journal_1 : decode b_ZoneNodes_journal 1 = .ok (.getfield 46, 3) := by decide +kernel
theorem d_ZoneNodes_journal_4 : decode b_ZoneNodes_journal 4 = .ok (.getfield 190, 3) := by decide +kernel
theorem d_ZoneNodes_journal_7 : decode b_ZoneNodes_journal 7 = .ok (.getfield 194, 3) := by decide +kernel
theorem d_ZoneNodes_journal_10 : decode b_ZoneNodes_journal 10 = .ok (.ireturn, 1) := by decide +kernel
theorem d_ZoneNodes_key_0 : decode b_ZoneNodes_key 0 = .ok (.iload_n 1, 1) := by decide +kernel
theorem d_ZoneNodes_key_1 : decode b_ZoneNodes_key 1 = .ok (.iconst 0, 1) := by decide +kernel
theorem d_ZoneNodes_key_2 : decode b_ZoneNodes_key 2 = .ok (.iconst 2, 1) := by decide +kernel
theorem d_ZoneNodes_key_3 : decode b_ZoneNodes_key 3 = .ok (.invokestatic 37, 3) := by decide +kernel
theorem d_ZoneNodes_key_6 : decode b_ZoneNodes_key 6 = .ok (.ifCond .ne 5, 3) := by decide +kernel
theorem d_ZoneNodes_key_9 : decode b_ZoneNodes_key 9 = .ok (.iconst 0, 1) := by decide +kernel
theorem d_ZoneNodes_key_10 : decode b_ZoneNodes_key 10 = .ok (.ireturn, 1) := by decide +kernel
theorem d_ZoneNodes_key_11 : decode b_ZoneNodes_key 11 = .ok (.aload_n 0, 1) := by decide +kernel
theorem d_ZoneNodes_key_12 : decode b_ZoneNodes_key 12 = .ok (.getfield 9, 3) := by decide +kernel
theorem d_ZoneNodes_key_15 : decode b_ZoneNodes_key 15 = .ok (.iload_n 1, 1) := by decide +kernel
theorem d_ZoneNodes_key_16 : decode b_ZoneNodes_key 16 = .ok (.iload_n 2, 1) := by decide +kernel
theorem d_ZoneNodes_key_17 : decode b_ZoneNodes_key 17 = .ok (.iastore, 1) := by decide +kernel
theorem d_ZoneNodes_key_18 : decode b_ZoneNodes_key 18 = .ok (.aload_n 0, 1) := by decide +kernel
theorem d_ZoneNodes_key_19 : decode b_ZoneNodes_key 19 = .ok (.getfield 13, 3) := by decide +kernel
theorem d_ZoneNodes_key_22 : decode b_ZoneNodes_key 22 = .ok (.iload_n 1, 1) := by decide +kernel
theorem d_ZoneNodes_key_23 : decode b_ZoneNodes_key 23 = .ok (.iconst 1, 1) := by decide +kernel
theorem d_ZoneNodes_key_24 : decode b_ZoneNodes_key 24 = .ok (.bastore, 1) := by decide +kernel
theorem d_ZoneNodes_key_25 : decode b_ZoneNodes_key 25 = .ok (.iconst 1, 1) := by decide +kernel
theorem d_ZoneNodes_key_26 : decode b_ZoneNodes_key 26 = .ok (.ireturn, 1) := by decide +kernel
theorem d_ZoneNodes_knowsKey_0 : decode b_ZoneNodes_knowsKey 0 = .ok (.iload_n 1, 1) := by decide +kernel
theorem d_ZoneNodes_knowsKey_1 : decode b_ZoneNodes_knowsKey 1 = .ok (.iconst 0, 1) := by decide +kernel
theorem d_ZoneNodes_knowsKey_2 : decode b_ZoneNodes_knowsKey 2 = .ok (.iconst 2, 1) := by decide +kernel
theorem d_ZoneNodes_knowsKey_3 : decode b_ZoneNodes_knowsKey 3 = .ok (.invokestatic 37, 3) := by decide +kernel
theorem d_ZoneNodes_knowsKey_6 : decode b_ZoneNodes_knowsKey 6 = .ok (.ifCond .eq 16, 3) := by decide +kernel
theorem d_ZoneNodes_knowsKey_9 : decode b_ZoneNodes_knowsKey 9 = .ok (.aload_n 0, 1) := by decide +kernel
theorem d_ZoneNodes_knowsKey_10 : decode b_ZoneNodes_knowsKey 10 = .ok (.getfield 13, 3) := by decide +kernel
theorem d_ZoneNodes_knowsKey_13 : decode b_ZoneNodes_knowsKey 13 = .ok (.iload_n 1, 1) := by decide +kernel
theorem d_ZoneNodes_knowsKey_14 : decode b_ZoneNodes_knowsKey 14 = .ok (.baload, 1) := by decide +kernel
theorem d_ZoneNodes_knowsKey_15 : decode b_ZoneNodes_knowsKey 15 = .ok (.ifCond .eq 7, 3) := by decide +kernel
theorem d_ZoneNodes_knowsKey_18 : decode b_ZoneNodes_knowsKey 18 = .ok (.iconst 1, 1) := by decide +kernel
theorem d_ZoneNodes_knowsKey_19 : decode b_ZoneNodes_knowsKey 19 = .ok (.goto 4, 3) := by decide +kernel
theorem d_ZoneNodes_knowsKey_22 : decode b_ZoneNodes_knowsKey 22 = .ok (.iconst 0, 1) := by decide +kernel
theorem d_ZoneNodes_knowsKey_23 : decode b_ZoneNodes_knowsKey 23 = .ok (.ireturn, 1) := by decide +kernel
theorem d_Records_aliasOf_0 : decode b_Records_aliasOf 0 = .ok (.iconst 0, 1) := by decide +kernel
theorem d_Records_aliasOf_1 : decode b_Records_aliasOf 1 = .ok (.istore_n 2, 1) := by decide +kernel
theorem d_Records_aliasOf_2 : decode b_Records_aliasOf 2 = .ok (.iload_n 2, 1) := by decide +kernel
theorem d_Records_aliasOf_3 : decode b_Records_aliasOf 3 = .ok (.bipush 8, 2) := by decide +kernel
theorem d_Records_aliasOf_5 : decode b_Records_aliasOf 5 = .ok (.if_icmp .ge 21, 3) := by decide +kernel
theorem d_Records_aliasOf_8 : decode b_Records_aliasOf 8 = .ok (.aload_n 0, 1) := by decide +kernel
theorem d_Records_aliasOf_9 : decode b_Records_aliasOf 9 = .ok (.iload_n 1, 1) := by decide +kernel
theorem d_Records_aliasOf_10 : decode b_Records_aliasOf 10 = .ok (.iconst 2, 1) := by decide +kernel
theorem d_Records_aliasOf_11 : decode b_Records_aliasOf 11 = .ok (.iload_n 2, 1) := by decide +kernel
theorem d_Records_aliasOf_12 : decode b_Records_aliasOf 12 = .ok (.invokevirtual 23, 3) := by decide +kernel
theorem d_Records_aliasOf_15 : decode b_Records_aliasOf 15 = .ok (.ifCond .eq 5, 3) := by decide +kernel
theorem d_Records_aliasOf_18 : decode b_Records_aliasOf 18 = .ok (.iload_n 2, 1) := by decide +kernel
theorem d_Records_aliasOf_19 : decode b_Records_aliasOf 19 = .ok (.ireturn, 1) := by decide +kernel
theorem d_Records_aliasOf_20 : decode b_Records_aliasOf 20 = .ok (.iinc 2 1, 3) := by decide +kernel
theorem d_Records_aliasOf_23 : decode b_Records_aliasOf 23 = .ok (.goto (-21), 3) := by decide +kernel
theorem d_Records_aliasOf_26 : decode b_Records_aliasOf 26 = .ok (.iconst (-1), 1) := by decide +kernel
theorem d_Records_aliasOf_27 : decode b_Records_aliasOf 27 = .ok (.ireturn, 1) := by decide +kernel
theorem d_Records_hasOtherThanAlias_0 : decode b_Records_hasOtherThanAlias 0 = .ok (.iconst 1, 1) := by decide +kernel
theorem d_Records_hasOtherThanAlias_1 : decode b_Records_hasOtherThanAlias 1 = .ok (.istore_n 2, 1) := by decide +kernel
theorem d_Records_hasOtherThanAlias_2 : decode b_Records_hasOtherThanAlias 2 = .ok (.iload_n 2, 1) := by decide +kernel
theorem d_Records_hasOtherThanAlias_3 : decode b_Records_hasOtherThanAlias 3 = .ok (.iconst 4, 1) := by decide +kernel
theorem d_Records_hasOtherThanAlias_4 : decode b_Records_hasOtherThanAlias 4 = .ok (.if_icmp .gt 25, 3) := by decide +kernel
theorem d_Records_hasOtherThanAlias_7 : decode b_Records_hasOtherThanAlias 7 = .ok (.iload_n 2, 1) := by decide +kernel
theorem d_Records_hasOtherThanAlias_8 : decode b_Records_hasOtherThanAlias 8 = .ok (.iconst 2, 1) := by decide +kernel
theorem d_Records_hasOtherThanAlias_9 : decode b_Records_hasOtherThanAlias 9 = .ok (.if_icmp .eq 14, 3) := by decide +kernel
theorem d_Records_hasOtherThanAlias_12 : decode b_Records_hasOtherThanAlias 12 = .ok (.aload_n 0, 1) := by decide +kernel
theorem d_Records_hasOtherThanAlias_13 : decode b_Records_hasOtherThanAlias 13 = .ok (.iload_n 1, 1) := by decide +kernel
theorem d_Records_hasOtherThanAlias_14 : decode b_Records_hasOtherThanAlias 14 = .ok (.iload_n 2, 1) := by decide +kernel
theorem d_Records_hasOtherThanAlias_15 : decode b_Records_hasOtherThanAlias 15 = .ok (.invokevirtual 15, 3) := by decide +kernel
theorem d_Records_hasOtherThanAlias_18 : decode b_Records_hasOtherThanAlias 18 = .ok (.ifCond .eq 5, 3) := by decide +kernel
theorem d_Records_hasOtherThanAlias_21 : decode b_Records_hasOtherThanAlias 21 = .ok (.iconst 1, 1) := by decide +kernel
theorem d_Records_hasOtherThanAlias_22 : decode b_Records_hasOtherThanAlias 22 = .ok (.ireturn, 1) := by decide +kernel
theorem d_Records_hasOtherThanAlias_23 : decode b_Records_hasOtherThanAlias 23 = .ok (.iinc 2 1, 3) := by decide +kernel
theorem d_Records_hasOtherThanAlias_26 : decode b_Records_hasOtherThanAlias 26 = .ok (.goto (-24), 3) := by decide +kernel
theorem d_Records_hasOtherThanAlias_29 : decode b_Records_hasOtherThanAlias 29 = .ok (.iconst 0, 1) := by decide +kernel
theorem d_Records_hasOtherThanAlias_30 : decode b_Records_hasOtherThanAlias 30 = .ok (.ireturn, 1) := by decide +kernel
theorem d_Records_isUsed_0 : decode b_Records_isUsed 0 = .ok (.aload_n 0, 1) := by decide +kernel
theorem d_Records_isUsed_1 : decode b_Records_isUsed 1 = .ok (.iload_n 1, 1) := by decide +kernel
theorem d_Records_isUsed_2 : decode b_Records_isUsed 2 = .ok (.iconst 2, 1) := by decide +kernel
theorem d_Records_isUsed_3 : decode b_Records_isUsed 3 = .ok (.invokevirtual 15, 3) := by decide +kernel
theorem d_Records_isUsed_6 : decode b_Records_isUsed 6 = .ok (.ifCond .ne 11, 3) := by decide +kernel
theorem d_Records_isUsed_9 : decode b_Records_isUsed 9 = .ok (.aload_n 0, 1) := by decide +kernel
theorem d_Records_isUsed_10 : decode b_Records_isUsed 10 = .ok (.iload_n 1, 1) := by decide +kernel
theorem d_Records_isUsed_11 : decode b_Records_isUsed 11 = .ok (.invokevirtual 19, 3) := by decide +kernel
theorem d_Records_isUsed_14 : decode b_Records_isUsed 14 = .ok (.ifCond .eq 7, 3) := by decide +kernel
theorem d_Records_isUsed_17 : decode b_Records_isUsed 17 = .ok (.iconst 1, 1) := by decide +kernel
theorem d_Records_isUsed_18 : decode b_Records_isUsed 18 = .ok (.goto 4, 3) := by decide +kernel
theorem d_Records_isUsed_21 : decode b_Records_isUsed 21 = .ok (.iconst 0, 1) := by decide +kernel
theorem d_Records_isUsed_22 : decode b_Records_isUsed 22 = .ok (.ireturn, 1) := by decide +kernel
theorem d_Integer_bitCount_0 : decode b_Integer_bitCount 0 = .ok (.iload_n 0, 1) := by decide +kernel
theorem d_Integer_bitCount_1 : decode b_Integer_bitCount 1 = .ok (.iload_n 0, 1) := by decide +kernel
theorem d_Integer_bitCount_2 : decode b_Integer_bitCount 2 = .ok (.iconst 1, 1) := by decide +kernel
theorem d_Integer_bitCount_3 : decode b_Integer_bitCount 3 = .ok (.iushr, 1) := by decide +kernel
theorem d_Integer_bitCount_4 : decode b_Integer_bitCount 4 = .ok (.ldc_w 265, 3) := by decide +kernel
theorem d_Integer_bitCount_7 : decode b_Integer_bitCount 7 = .ok (.iand, 1) := by decide +kernel
theorem d_Integer_bitCount_8 : decode b_Integer_bitCount 8 = .ok (.isub, 1) := by decide +kernel
theorem d_Integer_bitCount_9 : decode b_Integer_bitCount 9 = .ok (.istore_n 0, 1) := by decide +kernel
theorem d_Integer_bitCount_10 : decode b_Integer_bitCount 10 = .ok (.iload_n 0, 1) := by decide +kernel
theorem d_Integer_bitCount_11 : decode b_Integer_bitCount 11 = .ok (.ldc_w 266, 3) := by decide +kernel
theorem d_Integer_bitCount_14 : decode b_Integer_bitCount 14 = .ok (.iand, 1) := by decide +kernel
theorem d_Integer_bitCount_15 : decode b_Integer_bitCount 15 = .ok (.iload_n 0, 1) := by decide +kernel
theorem d_Integer_bitCount_16 : decode b_Integer_bitCount 16 = .ok (.iconst 2, 1) := by decide +kernel
theorem d_Integer_bitCount_17 : decode b_Integer_bitCount 17 = .ok (.iushr, 1) := by decide +kernel
theorem d_Integer_bitCount_18 : decode b_Integer_bitCount 18 = .ok (.ldc_w 266, 3) := by decide +kernel
theorem d_Integer_bitCount_21 : decode b_Integer_bitCount 21 = .ok (.iand, 1) := by decide +kernel
theorem d_Integer_bitCount_22 : decode b_Integer_bitCount 22 = .ok (.iadd, 1) := by decide +kernel
theorem d_Integer_bitCount_23 : decode b_Integer_bitCount 23 = .ok (.istore_n 0, 1) := by decide +kernel
theorem d_Integer_bitCount_24 : decode b_Integer_bitCount 24 = .ok (.iload_n 0, 1) := by decide +kernel
theorem d_Integer_bitCount_25 : decode b_Integer_bitCount 25 = .ok (.iload_n 0, 1) := by decide +kernel
theorem d_Integer_bitCount_26 : decode b_Integer_bitCount 26 = .ok (.iconst 4, 1) := by decide +kernel
theorem d_Integer_bitCount_27 : decode b_Integer_bitCount 27 = .ok (.iushr, 1) := by decide +kernel
theorem d_Integer_bitCount_28 : decode b_Integer_bitCount 28 = .ok (.iadd, 1) := by decide +kernel
theorem d_Integer_bitCount_29 : decode b_Integer_bitCount 29 = .ok (.ldc_w 267, 3) := by decide +kernel
theorem d_Integer_bitCount_32 : decode b_Integer_bitCount 32 = .ok (.iand, 1) := by decide +kernel
theorem d_Integer_bitCount_33 : decode b_Integer_bitCount 33 = .ok (.istore_n 0, 1) := by decide +kernel
theorem d_Integer_bitCount_34 : decode b_Integer_bitCount 34 = .ok (.iload_n 0, 1) := by decide +kernel
theorem d_Integer_bitCount_35 : decode b_Integer_bitCount 35 = .ok (.iload_n 0, 1) := by decide +kernel
theorem d_Integer_bitCount_36 : decode b_Integer_bitCount 36 = .ok (.bipush 8, 2) := by decide +kernel
theorem d_Integer_bitCount_38 : decode b_Integer_bitCount 38 = .ok (.iushr, 1) := by decide +kernel
theorem d_Integer_bitCount_39 : decode b_Integer_bitCount 39 = .ok (.iadd, 1) := by decide +kernel
theorem d_Integer_bitCount_40 : decode b_Integer_bitCount 40 = .ok (.istore_n 0, 1) := by decide +kernel
theorem d_Integer_bitCount_41 : decode b_Integer_bitCount 41 = .ok (.iload_n 0, 1) := by decide +kernel
theorem d_Integer_bitCount_42 : decode b_Integer_bitCount 42 = .ok (.iload_n 0, 1) := by decide +kernel
theorem d_Integer_bitCount_43 : decode b_Integer_bitCount 43 = .ok (.bipush 16, 2) := by decide +kernel
theorem d_Integer_bitCount_45 : decode b_Integer_bitCount 45 = .ok (.iushr, 1) := by decide +kernel
theorem d_Integer_bitCount_46 : decode b_Integer_bitCount 46 = .ok (.iadd, 1) := by decide +kernel
theorem d_Integer_bitCount_47 : decode b_Integer_bitCount 47 = .ok (.istore_n 0, 1) := by decide +kernel
theorem d_Integer_bitCount_48 : decode b_Integer_bitCount 48 = .ok (.iload_n 0, 1) := by decide +kernel
theorem d_Integer_bitCount_49 : decode b_Integer_bitCount 49 = .ok (.bipush 63, 2) := by decide +kernel
theorem d_Integer_bitCount_51 : decode b_Integer_bitCount 51 = .ok (.iand, 1) := by decide +kernel
theorem d_Integer_bitCount_52 : decode b_Integer_bitCount 52 = .ok (.ireturn, 1) := by decide +kernel
theorem d_ZoneNodes_lookUp_0 : decode b_ZoneNodes_lookUp 0 = .ok (.iload_n 1, 1) := by decide +kernel
theorem d_ZoneNodes_lookUp_1 : decode b_ZoneNodes_lookUp 1 = .ok (.istore_n 3, 1) := by decide +kernel
theorem d_ZoneNodes_lookUp_2 : decode b_ZoneNodes_lookUp 2 = .ok (.iconst 0, 1) := by decide +kernel
theorem d_ZoneNodes_lookUp_3 : decode b_ZoneNodes_lookUp 3 = .ok (.istore 4, 2) := by decide +kernel
theorem d_ZoneNodes_lookUp_5 : decode b_ZoneNodes_lookUp 5 = .ok (.iload 4, 2) := by decide +kernel
theorem d_ZoneNodes_lookUp_7 : decode b_ZoneNodes_lookUp 7 = .ok (.bipush 8, 2) := by decide +kernel
theorem d_ZoneNodes_lookUp_9 : decode b_ZoneNodes_lookUp 9 = .ok (.if_icmp .gt 57, 3) := by decide +kernel
theorem d_ZoneNodes_lookUp_12 : decode b_ZoneNodes_lookUp 12 = .ok (.iload_n 2, 1) := by decide +kernel
theorem d_ZoneNodes_lookUp_13 : decode b_ZoneNodes_lookUp 13 = .ok (.iconst 2, 1) := by decide +kernel
theorem d_ZoneNodes_lookUp_14 : decode b_ZoneNodes_lookUp 14 = .ok (.if_icmp .ne 7, 3) := by decide +kernel
theorem d_ZoneNodes_lookUp_17 : decode b_ZoneNodes_lookUp 17 = .ok (.iconst (-1), 1) := by decide +kernel
theorem d_ZoneNodes_lookUp_18 : decode b_ZoneNodes_lookUp 18 = .ok (.goto 8, 3) := by decide +kernel
theorem d_ZoneNodes_lookUp_21 : decode b_ZoneNodes_lookUp 21 = .ok (.aload_n 0, 1) := by decide +kernel
theorem d_ZoneNodes_lookUp_22 : decode b_ZoneNodes_lookUp 22 = .ok (.iload_n 3, 1) := by decide +kernel
theorem d_ZoneNodes_lookUp_23 : decode b_ZoneNodes_lookUp 23 = .ok (.invokevirtual 262, 3) := by decide +kernel
theorem d_ZoneNodes_lookUp_26 : decode b_ZoneNodes_lookUp 26 = .ok (.istore 5, 2) := by decide +kernel
theorem d_ZoneNodes_lookUp_28 : decode b_ZoneNodes_lookUp 28 = .ok (.iload 5, 2) := by decide +kernel
theorem d_ZoneNodes_lookUp_30 : decode b_ZoneNodes_lookUp 30 = .ok (.ifCond .ge 27, 3) := by decide +kernel
theorem d_ZoneNodes_lookUp_33 : decode b_ZoneNodes_lookUp 33 = .ok (.aload_n 0, 1) := by decide +kernel
theorem d_ZoneNodes_lookUp_34 : decode b_ZoneNodes_lookUp 34 = .ok (.iload_n 3, 1) := by decide +kernel
theorem d_ZoneNodes_lookUp_35 : decode b_ZoneNodes_lookUp 35 = .ok (.invokevirtual 266, 3) := by decide +kernel
theorem d_ZoneNodes_lookUp_38 : decode b_ZoneNodes_lookUp 38 = .ok (.ifCond .eq 15, 3) := by decide +kernel
theorem d_ZoneNodes_lookUp_41 : decode b_ZoneNodes_lookUp 41 = .ok (.aload_n 0, 1) := by decide +kernel
theorem d_ZoneNodes_lookUp_42 : decode b_ZoneNodes_lookUp 42 = .ok (.iload_n 3, 1) := by decide +kernel
theorem d_ZoneNodes_lookUp_43 : decode b_ZoneNodes_lookUp 43 = .ok (.iload_n 2, 1) := by decide +kernel
theorem d_ZoneNodes_lookUp_44 : decode b_ZoneNodes_lookUp 44 = .ok (.invokevirtual 269, 3) := by decide +kernel
theorem d_ZoneNodes_lookUp_47 : decode b_ZoneNodes_lookUp 47 = .ok (.invokestatic 272, 3) := by decide +kernel
theorem d_ZoneNodes_lookUp_50 : decode b_ZoneNodes_lookUp 50 = .ok (.goto 6, 3) := by decide +kernel
theorem d_ZoneNodes_lookUp_53 : decode b_ZoneNodes_lookUp 53 = .ok (.sipush 300, 3) := by decide +kernel
theorem d_ZoneNodes_lookUp_56 : decode b_ZoneNodes_lookUp 56 = .ok (.ireturn, 1) := by decide +kernel
theorem d_ZoneNodes_lookUp_57 : decode b_ZoneNodes_lookUp 57 = .ok (.iload 5, 2) := by decide +kernel
theorem d_ZoneNodes_lookUp_59 : decode b_ZoneNodes_lookUp 59 = .ok (.istore_n 3, 1) := by decide +kernel
theorem d_ZoneNodes_lookUp_60 : decode b_ZoneNodes_lookUp 60 = .ok (.iinc 4 1, 3) := by decide +kernel
theorem d_ZoneNodes_lookUp_63 : decode b_ZoneNodes_lookUp 63 = .ok (.goto (-58), 3) := by decide +kernel
theorem d_ZoneNodes_lookUp_66 : decode b_ZoneNodes_lookUp 66 = .ok (.sipush 200, 3) := by decide +kernel
theorem d_ZoneNodes_lookUp_69 : decode b_ZoneNodes_lookUp 69 = .ok (.ireturn, 1) := by decide +kernel
theorem d_ZoneNodes_notifySecondaries_0 : decode b_ZoneNodes_notifySecondaries 0 = .ok (.iconst 1, 1) := by decide +kernel
theorem d_ZoneNodes_notifySecondaries_1 : decode b_ZoneNodes_notifySecondaries 1 = .ok (.istore_n 1, 1) := by decide +kernel
theorem d_ZoneNodes_notifySecondaries_2 : decode b_ZoneNodes_notifySecondaries 2 = .ok (.iload_n 1, 1) := by decide +kernel
theorem d_ZoneNodes_notifySecondaries_3 : decode b_ZoneNodes_notifySecondaries 3 = .ok (.iconst 2, 1) := by decide +kernel
theorem d_ZoneNodes_notifySecondaries_4 : decode b_ZoneNodes_notifySecondaries 4 = .ok (.if_icmp .gt 25, 3) := by decide +kernel
theorem d_ZoneNodes_notifySecondaries_7 : decode b_ZoneNodes_notifySecondaries 7 = .ok (.aload_n 0, 1) := by decide +kernel
theorem d_ZoneNodes_notifySecondaries_8 : decode b_ZoneNodes_notifySecondaries 8 = .ok (.getfield 27, 3) := by decide +kernel
theorem d_ZoneNodes_notifySecondaries_11 : decode b_ZoneNodes_notifySecondaries 11 = .ok (.iconst 1, 1) := by decide +kernel
theorem d_ZoneNodes_notifySecondaries_12 : decode b_ZoneNodes_notifySecondaries 12 = .ok (.iload_n 1, 1) := by decide +kernel
theorem d_ZoneNodes_notifySecondaries_13 : decode b_ZoneNodes_notifySecondaries 13 = .ok (.aload_n 0, 1) := by decide +kernel
theorem d_ZoneNodes_notifySecondaries_14 : decode b_ZoneNodes_notifySecondaries 14 = .ok (.getfield 46, 3) := by decide +kernel
theorem d_ZoneNodes_notifySecondaries_17 : decode b_ZoneNodes_notifySecondaries 17 = .ok (.getfield 168, 3) := by decide +kernel
theorem d_ZoneNodes_notifySecondaries_20 : decode b_ZoneNodes_notifySecondaries 20 = .ok (.invokevirtual 230, 3) := by decide +kernel
theorem d_ZoneNodes_notifySecondaries_23 : decode b_ZoneNodes_notifySecondaries 23 = .ok (.iinc 1 1, 3) := by decide +kernel
theorem d_ZoneNodes_notifySecondaries_26 : decode b_ZoneNodes_notifySecondaries 26 = .ok (.goto (-24), 3) := by decide +kernel
theorem d_ZoneNodes_notifySecondaries_29 : decode b_ZoneNodes_notifySecondaries 29 = .ok (.return_, 1) := by decide +kernel
theorem d_Records_addIfAllowed_0 : decode b_Records_addIfAllowed 0 = .ok (.iload_n 2, 1) := by decide +kernel
theorem d_Records_addIfAllowed_1 : decode b_Records_addIfAllowed 1 = .ok (.iconst 2, 1) := by decide +kernel
theorem d_Records_addIfAllowed_2 : decode b_Records_addIfAllowed 2 = .ok (.if_icmp .eq 22, 3) := by decide +kernel
theorem d_Records_addIfAllowed_5 : decode b_Records_addIfAllowed 5 = .ok (.aload_n 0, 1) := by decide +kernel
theorem d_Records_addIfAllowed_6 : decode b_Records_addIfAllowed 6 = .ok (.iload_n 1, 1) := by decide +kernel
theorem d_Records_addIfAllowed_7 : decode b_Records_addIfAllowed 7 = .ok (.iconst 2, 1) := by decide +kernel
theorem d_Records_addIfAllowed_8 : decode b_Records_addIfAllowed 8 = .ok (.invokevirtual 15, 3) := by decide +kernel
theorem d_Records_addIfAllowed_11 : decode b_Records_addIfAllowed 11 = .ok (.ifCond .ne 34, 3) := by decide +kernel
theorem d_Records_addIfAllowed_14 : decode b_Records_addIfAllowed 14 = .ok (.aload_n 0, 1) := by decide +kernel
theorem d_Records_addIfAllowed_15 : decode b_Records_addIfAllowed 15 = .ok (.iload_n 1, 1) := by decide +kernel
theorem d_Records_addIfAllowed_16 : decode b_Records_addIfAllowed 16 = .ok (.iload_n 2, 1) := by decide +kernel
theorem d_Records_addIfAllowed_17 : decode b_Records_addIfAllowed 17 = .ok (.iload_n 3, 1) := by decide +kernel
theorem d_Records_addIfAllowed_18 : decode b_Records_addIfAllowed 18 = .ok (.invokevirtual 59, 3) := by decide +kernel
theorem d_Records_addIfAllowed_21 : decode b_Records_addIfAllowed 21 = .ok (.goto 24, 3) := by decide +kernel
theorem d_Records_addIfAllowed_24 : decode b_Records_addIfAllowed 24 = .ok (.iload_n 1, 1) := by decide +kernel
theorem d_Records_addIfAllowed_25 : decode b_Records_addIfAllowed 25 = .ok (.ifCond .eq 20, 3) := by decide +kernel
theorem d_Records_addIfAllowed_28 : decode b_Records_addIfAllowed 28 = .ok (.aload_n 0, 1) := by decide +kernel
theorem d_Records_addIfAllowed_29 : decode b_Records_addIfAllowed 29 = .ok (.iload_n 1, 1) := by decide +kernel
theorem d_Records_addIfAllowed_30 : decode b_Records_addIfAllowed 30 = .ok (.invokevirtual 19, 3) := by decide +kernel
theorem d_Records_addIfAllowed_33 : decode b_Records_addIfAllowed 33 = .ok (.ifCond .ne 12, 3) := by decide +kernel
theorem d_Records_addIfAllowed_36 : decode b_Records_addIfAllowed 36 = .ok (.aload_n 0, 1) := by decide +kernel
theorem d_Records_addIfAllowed_37 : decode b_Records_addIfAllowed 37 = .ok (.iload_n 1, 1) := by decide +kernel
theorem d_Records_addIfAllowed_38 : decode b_Records_addIfAllowed 38 = .ok (.iconst 2, 1) := by decide +kernel
theorem d_Records_addIfAllowed_39 : decode b_Records_addIfAllowed 39 = .ok (.iconst 1, 1) := by decide +kernel
theorem d_Records_addIfAllowed_40 : decode b_Records_addIfAllowed 40 = .ok (.iload_n 3, 1) := by decide +kernel
theorem d_Records_addIfAllowed_41 : decode b_Records_addIfAllowed 41 = .ok (.ishl, 1) := by decide +kernel
theorem d_Records_addIfAllowed_42 : decode b_Records_addIfAllowed 42 = .ok (.invokevirtual 33, 3) := by decide +kernel
theorem d_Records_addIfAllowed_45 : decode b_Records_addIfAllowed 45 = .ok (.return_, 1) := by decide +kernel
theorem d_Records_clearIfAllowed_0 : decode b_Records_clearIfAllowed 0 = .ok (.iload_n 1, 1) := by decide +kernel
theorem d_Records_clearIfAllowed_1 : decode b_Records_clearIfAllowed 1 = .ok (.ifCond .ne 8, 3) := by decide +kernel
theorem d_Records_clearIfAllowed_4 : decode b_Records_clearIfAllowed 4 = .ok (.iload_n 2, 1) := by decide +kernel
theorem d_Records_clearIfAllowed_5 : decode b_Records_clearIfAllowed 5 = .ok (.iconst 3, 1) := by decide +kernel
theorem d_Records_clearIfAllowed_6 : decode b_Records_clearIfAllowed 6 = .ok (.if_icmp .eq 10, 3) := by decide +kernel
theorem d_Records_clearIfAllowed_9 : decode b_Records_clearIfAllowed 9 = .ok (.aload_n 0, 1) := by decide +kernel
theorem d_Records_clearIfAllowed_10 : decode b_Records_clearIfAllowed 10 = .ok (.iload_n 1, 1) := by decide +kernel
theorem d_Records_clearIfAllowed_11 : decode b_Records_clearIfAllowed 11 = .ok (.iload_n 2, 1) := by decide +kernel
theorem d_Records_clearIfAllowed_12 : decode b_Records_clearIfAllowed 12 = .ok (.iconst 0, 1) := by decide +kernel
theorem d_Records_clearIfAllowed_13 : decode b_Records_clearIfAllowed 13 = .ok (.invokevirtual 33, 3) := by decide +kernel
theorem d_Records_clearIfAllowed_16 : decode b_Records_clearIfAllowed 16 = .ok (.return_, 1) := by decide +kernel
theorem d_Records_removeIfAllowed_0 : decode b_Records_removeIfAllowed 0 = .ok (.aload_n 0, 1) := by decide +kernel
theorem d_Records_removeIfAllowed_1 : decode b_Records_removeIfAllowed 1 = .ok (.iload_n 1, 1) := by decide +kernel
theorem d_Records_removeIfAllowed_2 : decode b_Records_removeIfAllowed 2 = .ok (.iload_n 2, 1) := by decide +kernel
theorem d_Records_removeIfAllowed_3 : decode b_Records_removeIfAllowed 3 = .ok (.invokevirtual 15, 3) := by decide +kernel
theorem d_Records_removeIfAllowed_6 : decode b_Records_removeIfAllowed 6 = .ok (.iconst 1, 1) := by decide +kernel
theorem d_Records_removeIfAllowed_7 : decode b_Records_removeIfAllowed 7 = .ok (.iload_n 3, 1) := by decide +kernel
theorem d_Records_removeIfAllowed_8 : decode b_Records_removeIfAllowed 8 = .ok (.ishl, 1) := by decide +kernel
theorem d_Records_removeIfAllowed_9 : decode b_Records_removeIfAllowed 9 = .ok (.if_icmp .ne 7, 3) := by decide +kernel
theorem d_Records_removeIfAllowed_12 : decode b_Records_removeIfAllowed 12 = .ok (.iconst 1, 1) := by decide +kernel
theorem d_Records_removeIfAllowed_13 : decode b_Records_removeIfAllowed 13 = .ok (.goto 4, 3) := by decide +kernel
theorem d_Records_removeIfAllowed_16 : decode b_Records_removeIfAllowed 16 = .ok (.iconst 0, 1) := by decide +kernel
theorem d_Records_removeIfAllowed_17 : decode b_Records_removeIfAllowed 17 = .ok (.istore 4, 2) := by decide +kernel
theorem d_Records_removeIfAllowed_19 : decode b_Records_removeIfAllowed 19 = .ok (.iload_n 1, 1) := by decide +kernel
theorem d_Records_removeIfAllowed_20 : decode b_Records_removeIfAllowed 20 = .ok (.ifCond .ne 13, 3) := by decide +kernel
theorem d_Records_removeIfAllowed_23 : decode b_Records_removeIfAllowed 23 = .ok (.iload_n 2, 1) := by decide +kernel
theorem d_Records_removeIfAllowed_24 : decode b_Records_removeIfAllowed 24 = .ok (.iconst 3, 1) := by decide +kernel
theorem d_Records_removeIfAllowed_25 : decode b_Records_removeIfAllowed 25 = .ok (.if_icmp .ne 8, 3) := by decide +kernel
theorem d_Records_removeIfAllowed_28 : decode b_Records_removeIfAllowed 28 = .ok (.iload 4, 2) := by decide +kernel
theorem d_Records_removeIfAllowed_30 : decode b_Records_removeIfAllowed 30 = .ok (.ifCond .ne 10, 3) := by decide +kernel
theorem d_Records_removeIfAllowed_33 : decode b_Records_removeIfAllowed 33 = .ok (.aload_n 0, 1) := by decide +kernel
theorem d_Records_removeIfAllowed_34 : decode b_Records_removeIfAllowed 34 = .ok (.iload_n 1, 1) := by decide +kernel
theorem d_Records_removeIfAllowed_35 : decode b_Records_removeIfAllowed 35 = .ok (.iload_n 2, 1) := by decide +kernel
theorem d_Records_removeIfAllowed_36 : decode b_Records_removeIfAllowed 36 = .ok (.iload_n 3, 1) := by decide +kernel
theorem d_Records_removeIfAllowed_37 : decode b_Records_removeIfAllowed 37 = .ok (.invokevirtual 62, 3) := by decide +kernel
theorem d_Records_removeIfAllowed_40 : decode b_Records_removeIfAllowed 40 = .ok (.return_, 1) := by decide +kernel
theorem d_Records_makeChange_0 : decode b_Records_makeChange 0 = .ok (.iload_n 1, 1) := by decide +kernel
theorem d_Records_makeChange_1 : decode b_Records_makeChange 1 = .ok (.invokestatic 37, 3) := by decide +kernel
theorem d_Records_makeChange_4 : decode b_Records_makeChange 4 = .ok (.istore_n 2, 1) := by decide +kernel
theorem d_Records_makeChange_5 : decode b_Records_makeChange 5 = .ok (.iload_n 1, 1) := by decide +kernel
theorem d_Records_makeChange_6 : decode b_Records_makeChange 6 = .ok (.invokestatic 40, 3) := by decide +kernel
theorem d_Records_makeChange_9 : decode b_Records_makeChange 9 = .ok (.istore_n 3, 1) := by decide +kernel
theorem d_Records_makeChange_10 : decode b_Records_makeChange 10 = .ok (.iload_n 1, 1) := by decide +kernel
theorem d_Records_makeChange_11 : decode b_Records_makeChange 11 = .ok (.invokestatic 43, 3) := by decide +kernel
theorem d_Records_makeChange_14 : decode b_Records_makeChange 14 = .ok (.istore 4, 2) := by decide +kernel
theorem d_Records_makeChange_16 : decode b_Records_makeChange 16 = .ok (.iload_n 1, 1) := by decide +kernel
theorem d_Records_makeChange_17 : decode b_Records_makeChange 17 = .ok (.invokestatic 46, 3) := by decide +kernel
theorem d_Records_makeChange_20 : decode b_Records_makeChange 20 = .ok (.tableswitch 73 0 2 #[28, 39, 48], 28) := by decide +kernel
theorem d_Records_makeChange_48 : decode b_Records_makeChange 48 = .ok (.aload_n 0, 1) := by decide +kernel
theorem d_Records_makeChange_49 : decode b_Records_makeChange 49 = .ok (.iload_n 2, 1) := by decide +kernel
theorem d_Records_makeChange_50 : decode b_Records_makeChange 50 = .ok (.iload_n 3, 1) := by decide +kernel
theorem d_Records_makeChange_51 : decode b_Records_makeChange 51 = .ok (.iload 4, 2) := by decide +kernel
theorem d_Records_makeChange_53 : decode b_Records_makeChange 53 = .ok (.invokevirtual 49, 3) := by decide +kernel
theorem d_Records_makeChange_56 : decode b_Records_makeChange 56 = .ok (.goto 45, 3) := by decide +kernel
theorem d_Records_makeChange_59 : decode b_Records_makeChange 59 = .ok (.aload_n 0, 1) := by decide +kernel
theorem d_Records_makeChange_60 : decode b_Records_makeChange 60 = .ok (.iload_n 2, 1) := by decide +kernel
theorem d_Records_makeChange_61 : decode b_Records_makeChange 61 = .ok (.iload_n 3, 1) := by decide +kernel
theorem d_Records_makeChange_62 : decode b_Records_makeChange 62 = .ok (.invokevirtual 52, 3) := by decide +kernel
theorem d_Records_makeChange_65 : decode b_Records_makeChange 65 = .ok (.goto 36, 3) := by decide +kernel
theorem d_Records_makeChange_68 : decode b_Records_makeChange 68 = .ok (.iconst 1, 1) := by decide +kernel
theorem d_Records_makeChange_69 : decode b_Records_makeChange 69 = .ok (.istore 5, 2) := by decide +kernel
theorem d_Records_makeChange_71 : decode b_Records_makeChange 71 = .ok (.iload 5, 2) := by decide +kernel
theorem d_Records_makeChange_73 : decode b_Records_makeChange 73 = .ok (.iconst 4, 1) := by decide +kernel
theorem d_Records_makeChange_74 : decode b_Records_makeChange 74 = .ok (.if_icmp .gt 16, 3) := by decide +kernel
theorem d_Records_makeChange_77 : decode b_Records_makeChange 77 = .ok (.aload_n 0, 1) := by decide +kernel
theorem d_Records_makeChange_78 : decode b_Records_makeChange 78 = .ok (.iload_n 2, 1) := by decide +kernel
theorem d_Records_makeChange_79 : decode b_Records_makeChange 79 = .ok (.iload 5, 2) := by decide +kernel
theorem d_Records_makeChange_81 : decode b_Records_makeChange 81 = .ok (.invokevirtual 52, 3) := by decide +kernel
theorem d_Records_makeChange_84 : decode b_Records_makeChange 84 = .ok (.iinc 5 1, 3) := by decide +kernel
theorem d_Records_makeChange_87 : decode b_Records_makeChange 87 = .ok (.goto (-16), 3) := by decide +kernel
theorem d_Records_makeChange_90 : decode b_Records_makeChange 90 = .ok (.goto 11, 3) := by decide +kernel
theorem d_Records_makeChange_93 : decode b_Records_makeChange 93 = .ok (.aload_n 0, 1) := by decide +kernel
theorem d_Records_makeChange_94 : decode b_Records_makeChange 94 = .ok (.iload_n 2, 1) := by decide +kernel
theorem d_Records_makeChange_95 : decode b_Records_makeChange 95 = .ok (.iload_n 3, 1) := by decide +kernel
theorem d_Records_makeChange_96 : decode b_Records_makeChange 96 = .ok (.iload 4, 2) := by decide +kernel
theorem d_Records_makeChange_98 : decode b_Records_makeChange 98 = .ok (.invokevirtual 56, 3) := by decide +kernel
theorem d_Records_makeChange_101 : decode b_Records_makeChange 101 = .ok (.return_, 1) := by decide +kernel
theorem d_Draft_changeRecords_0 : decode b_Draft_changeRecords 0 = .ok (.iconst 0, 1) := by decide +kernel
theorem d_Draft_changeRecords_1 : decode b_Draft_changeRecords 1 = .ok (.istore_n 2, 1) := by decide +kernel
theorem d_Draft_changeRecords_2 : decode b_Draft_changeRecords 2 = .ok (.iload_n 2, 1) := by decide +kernel
theorem d_Draft_changeRecords_3 : decode b_Draft_changeRecords 3 = .ok (.aload_n 0, 1) := by decide +kernel
theorem d_Draft_changeRecords_4 : decode b_Draft_changeRecords 4 = .ok (.getfield 22, 3) := by decide +kernel
theorem d_Draft_changeRecords_7 : decode b_Draft_changeRecords 7 = .ok (.if_icmp .ge 19, 3) := by decide +kernel
theorem d_Draft_changeRecords_10 : decode b_Draft_changeRecords 10 = .ok (.aload_n 1, 1) := by decide +kernel
theorem d_Draft_changeRecords_11 : decode b_Draft_changeRecords 11 = .ok (.aload_n 0, 1) := by decide +kernel
theorem d_Draft_changeRecords_12 : decode b_Draft_changeRecords 12 = .ok (.getfield 15, 3) := by decide +kernel
theorem d_Draft_changeRecords_15 : decode b_Draft_changeRecords 15 = .ok (.iload_n 2, 1) := by decide +kernel
theorem d_Draft_changeRecords_16 : decode b_Draft_changeRecords 16 = .ok (.iaload, 1) := by decide +kernel
theorem d_Draft_changeRecords_17 : decode b_Draft_changeRecords 17 = .ok (.invokevirtual 60, 3) := by decide +kernel
theorem d_Draft_changeRecords_20 : decode b_Draft_changeRecords 20 = .ok (.iinc 2 1, 3) := by decide +kernel
theorem d_Draft_changeRecords_23 : decode b_Draft_changeRecords 23 = .ok (.goto (-21), 3) := by decide +kernel
theorem d_Draft_changeRecords_26 : decode b_Draft_changeRecords 26 = .ok (.return_, 1) := by decide +kernel
theorem d_Records_becomeDifference_0 : decode b_Records_becomeDifference 0 = .ok (.iconst 0, 1) := by decide +kernel
theorem d_Records_becomeDifference_1 : decode b_Records_becomeDifference 1 = .ok (.istore_n 3, 1) := by decide +kernel
theorem d_Records_becomeDifference_2 : decode b_Records_becomeDifference 2 = .ok (.iload_n 3, 1) := by decide +kernel
theorem d_Records_becomeDifference_3 : decode b_Records_becomeDifference 3 = .ok (.aload_n 0, 1) := by decide +kernel
theorem d_Records_becomeDifference_4 : decode b_Records_becomeDifference 4 = .ok (.getfield 9, 3) := by decide +kernel
theorem d_Records_becomeDifference_7 : decode b_Records_becomeDifference 7 = .ok (.arraylength, 1) := by decide +kernel
theorem d_Records_becomeDifference_8 : decode b_Records_becomeDifference 8 = .ok (.if_icmp .ge 30, 3) := by decide +kernel
theorem d_Records_becomeDifference_11 : decode b_Records_becomeDifference 11 = .ok (.aload_n 0, 1) := by decide +kernel
theorem d_Records_becomeDifference_12 : decode b_Records_becomeDifference 12 = .ok (.getfield 9, 3) := by decide +kernel
theorem d_Records_becomeDifference_15 : decode b_Records_becomeDifference 15 = .ok (.iload_n 3, 1) := by decide +kernel
theorem d_Records_becomeDifference_16 : decode b_Records_becomeDifference 16 = .ok (.aload_n 1, 1) := by decide +kernel
theorem d_Records_becomeDifference_17 : decode b_Records_becomeDifference 17 = .ok (.getfield 9, 3) := by decide +kernel
theorem d_Records_becomeDifference_20 : decode b_Records_becomeDifference 20 = .ok (.iload_n 3, 1) := by decide +kernel
theorem d_Records_becomeDifference_21 : decode b_Records_becomeDifference 21 = .ok (.iaload, 1) := by decide +kernel
theorem d_Records_becomeDifference_22 : decode b_Records_becomeDifference 22 = .ok (.aload_n 2, 1) := by decide +kernel
theorem d_Records_becomeDifference_23 : decode b_Records_becomeDifference 23 = .ok (.getfield 9, 3) := by decide +kernel
theorem d_Records_becomeDifference_26 : decode b_Records_becomeDifference 26 = .ok (.iload_n 3, 1) := by decide +kernel
theorem d_Records_becomeDifference_27 : decode b_Records_becomeDifference 27 = .ok (.iaload, 1) := by decide +kernel
theorem d_Records_becomeDifference_28 : decode b_Records_becomeDifference 28 = .ok (.iconst (-1), 1) := by decide +kernel
theorem d_Records_becomeDifference_29 : decode b_Records_becomeDifference 29 = .ok (.ixor, 1) := by decide +kernel
theorem d_Records_becomeDifference_30 : decode b_Records_becomeDifference 30 = .ok (.iand, 1) := by decide +kernel
theorem d_Records_becomeDifference_31 : decode b_Records_becomeDifference 31 = .ok (.iastore, 1) := by decide +kernel
theorem d_Records_becomeDifference_32 : decode b_Records_becomeDifference 32 = .ok (.iinc 3 1, 3) := by decide +kernel
theorem d_Records_becomeDifference_35 : decode b_Records_becomeDifference 35 = .ok (.goto (-33), 3) := by decide +kernel
theorem d_Records_becomeDifference_38 : decode b_Records_becomeDifference 38 = .ok (.return_, 1) := by decide +kernel
theorem d_Journal_append_0 : decode b_Journal_append 0 = .ok (.aload_n 0, 1) := by decide +kernel
theorem d_Journal_append_1 : decode b_Journal_append 1 = .ok (.getfield 18, 3) := by decide +kernel
theorem d_Journal_append_4 : decode b_Journal_append 4 = .ok (.aload_n 0, 1) := by decide +kernel
theorem d_Journal_append_5 : decode b_Journal_append 5 = .ok (.getfield 11, 3) := by decide +kernel
theorem d_Journal_append_8 : decode b_Journal_append 8 = .ok (.arraylength, 1) := by decide +kernel
theorem d_Journal_append_9 : decode b_Journal_append 9 = .ok (.if_icmp .lt 4, 3) := by decide +kernel
theorem d_Journal_append_12 : decode b_Journal_append 12 = .ok (.return_, 1) := by decide +kernel
theorem d_Journal_append_13 : decode b_Journal_append 13 = .ok (.aload_n 0, 1) := by decide +kernel
theorem d_Journal_append_14 : decode b_Journal_append 14 = .ok (.getfield 11, 3) := by decide +kernel
theorem d_Journal_append_17 : decode b_Journal_append 17 = .ok (.aload_n 0, 1) := by decide +kernel
theorem d_Journal_append_18 : decode b_Journal_append 18 = .ok (.getfield 18, 3) := by decide +kernel
theorem d_Journal_append_21 : decode b_Journal_append 21 = .ok (.aaload, 1) := by decide +kernel
theorem d_Journal_append_22 : decode b_Journal_append 22 = .ok (.astore 4, 2) := by decide +kernel
theorem d_Journal_append_24 : decode b_Journal_append 24 = .ok (.aload 4, 2) := by decide +kernel
theorem d_Journal_append_26 : decode b_Journal_append 26 = .ok (.iload_n 1, 1) := by decide +kernel
theorem d_Journal_append_27 : decode b_Journal_append 27 = .ok (.putfield 22, 3) := by decide +kernel
theorem d_Journal_append_30 : decode b_Journal_append 30 = .ok (.aload 4, 2) := by decide +kernel
theorem d_Journal_append_32 : decode b_Journal_append 32 = .ok (.iconst 0, 1) := by decide +kernel
theorem d_Journal_append_33 : decode b_Journal_append 33 = .ok (.putfield 25, 3) := by decide +kernel
theorem d_Journal_append_36 : decode b_Journal_append 36 = .ok (.aload 4, 2) := by decide +kernel
theorem d_Journal_append_38 : decode b_Journal_append 38 = .ok (.getfield 29, 3) := by decide +kernel
theorem d_Journal_append_41 : decode b_Journal_append 41 = .ok (.aload_n 2, 1) := by decide +kernel
theorem d_Journal_append_42 : decode b_Journal_append 42 = .ok (.aload_n 3, 1) := by decide +kernel
theorem d_Journal_append_43 : decode b_Journal_append 43 = .ok (.invokevirtual 33, 3) := by decide +kernel
theorem d_Journal_append_46 : decode b_Journal_append 46 = .ok (.aload 4, 2) := by decide +kernel
theorem d_Journal_append_48 : decode b_Journal_append 48 = .ok (.getfield 39, 3) := by decide +kernel
theorem d_Journal_append_51 : decode b_Journal_append 51 = .ok (.aload_n 3, 1) := by decide +kernel
theorem d_Journal_append_52 : decode b_Journal_append 52 = .ok (.aload_n 2, 1) := by decide +kernel
theorem d_Journal_append_53 : decode b_Journal_append 53 = .ok (.invokevirtual 33, 3) := by decide +kernel
theorem d_Journal_append_56 : decode b_Journal_append 56 = .ok (.aload_n 0, 1) := by decide +kernel
theorem d_Journal_append_57 : decode b_Journal_append 57 = .ok (.dup, 1) := by decide +kernel
theorem d_Journal_append_58 : decode b_Journal_append 58 = .ok (.getfield 18, 3) := by decide +kernel
theorem d_Journal_append_61 : decode b_Journal_append 61 = .ok (.iconst 1, 1) := by decide +kernel
theorem d_Journal_append_62 : decode b_Journal_append 62 = .ok (.iadd, 1) := by decide +kernel
theorem d_Journal_append_63 : decode b_Journal_append 63 = .ok (.putfield 18, 3) := by decide +kernel
theorem d_Journal_append_66 : decode b_Journal_append 66 = .ok (.return_, 1) := by decide +kernel
theorem d_Journal_markLatest_0 : decode b_Journal_markLatest 0 = .ok (.aload_n 0, 1) := by decide +kernel
theorem d_Journal_markLatest_1 : decode b_Journal_markLatest 1 = .ok (.getfield 18, 3) := by decide +kernel
theorem d_Journal_markLatest_4 : decode b_Journal_markLatest 4 = .ok (.ifCond .le 18, 3) := by decide +kernel
theorem d_Journal_markLatest_7 : decode b_Journal_markLatest 7 = .ok (.aload_n 0, 1) := by decide +kernel
theorem d_Journal_markLatest_8 : decode b_Journal_markLatest 8 = .ok (.getfield 11, 3) := by decide +kernel
theorem d_Journal_markLatest_11 : decode b_Journal_markLatest 11 = .ok (.aload_n 0, 1) := by decide +kernel
theorem d_Journal_markLatest_12 : decode b_Journal_markLatest 12 = .ok (.getfield 18, 3) := by decide +kernel
theorem d_Journal_markLatest_15 : decode b_Journal_markLatest 15 = .ok (.iconst 1, 1) := by decide +kernel
theorem d_Journal_markLatest_16 : decode b_Journal_markLatest 16 = .ok (.isub, 1) := by decide +kernel
theorem d_Journal_markLatest_17 : decode b_Journal_markLatest 17 = .ok (.aaload, 1) := by decide +kernel
theorem d_Journal_markLatest_18 : decode b_Journal_markLatest 18 = .ok (.iconst 1, 1) := by decide +kernel
theorem d_Journal_markLatest_19 : decode b_Journal_markLatest 19 = .ok (.putfield 25, 3) := by decide +kernel
theorem d_Journal_markLatest_22 : decode b_Journal_markLatest 22 = .ok (.return_, 1) := by decide +kernel
theorem d_Journal_keepLatest_0 : decode b_Journal_keepLatest 0 = .ok (.aload_n 0, 1) := by decide +kernel
theorem d_Journal_keepLatest_1 : decode b_Journal_keepLatest 1 = .ok (.getfield 18, 3) := by decide +kernel
theorem d_Journal_keepLatest_4 : decode b_Journal_keepLatest 4 = .ok (.iconst 4, 1) := by decide +kernel
theorem d_Journal_keepLatest_5 : decode b_Journal_keepLatest 5 = .ok (.if_icmp .gt 4, 3) := by decide +kernel
theorem d_Journal_keepLatest_8 : decode b_Journal_keepLatest 8 = .ok (.return_, 1) := by decide +kernel
theorem d_Journal_keepLatest_9 : decode b_Journal_keepLatest 9 = .ok (.aload_n 0, 1) := by decide +kernel
theorem d_Journal_keepLatest_10 : decode b_Journal_keepLatest 10 = .ok (.getfield 11, 3) := by decide +kernel
theorem d_Journal_keepLatest_13 : decode b_Journal_keepLatest 13 = .ok (.iconst 0, 1) := by decide +kernel
theorem d_Journal_keepLatest_14 : decode b_Journal_keepLatest 14 = .ok (.aaload, 1) := by decide +kernel
theorem d_Journal_keepLatest_15 : decode b_Journal_keepLatest 15 = .ok (.astore_n 1, 1) := by decide +kernel
theorem d_Journal_keepLatest_16 : decode b_Journal_keepLatest 16 = .ok (.iconst 1, 1) := by decide +kernel
theorem d_Journal_keepLatest_17 : decode b_Journal_keepLatest 17 = .ok (.istore_n 2, 1) := by decide +kernel
theorem d_Journal_keepLatest_18 : decode b_Journal_keepLatest 18 = .ok (.iload_n 2, 1) := by decide +kernel
theorem d_Journal_keepLatest_19 : decode b_Journal_keepLatest 19 = .ok (.aload_n 0, 1) := by decide +kernel
theorem d_Journal_keepLatest_20 : decode b_Journal_keepLatest 20 = .ok (.getfield 11, 3) := by decide +kernel
theorem d_Journal_keepLatest_23 : decode b_Journal_keepLatest 23 = .ok (.arraylength, 1) := by decide +kernel
theorem d_Journal_keepLatest_24 : decode b_Journal_keepLatest 24 = .ok (.if_icmp .ge 23, 3) := by decide +kernel
theorem d_Journal_keepLatest_27 : decode b_Journal_keepLatest 27 = .ok (.aload_n 0, 1) := by decide +kernel
theorem d_Journal_keepLatest_28 : decode b_Journal_keepLatest 28 = .ok (.getfield 11, 3) := by decide +kernel
theorem d_Journal_keepLatest_31 : decode b_Journal_keepLatest 31 = .ok (.iload_n 2, 1) := by decide +kernel
theorem d_Journal_keepLatest_32 : decode b_Journal_keepLatest 32 = .ok (.iconst 1, 1) := by decide +kernel
theorem d_Journal_keepLatest_33 : decode b_Journal_keepLatest 33 = .ok (.isub, 1) := by decide +kernel
theorem d_Journal_keepLatest_34 : decode b_Journal_keepLatest 34 = .ok (.aload_n 0, 1) := by decide +kernel
theorem d_Journal_keepLatest_35 : decode b_Journal_keepLatest 35 = .ok (.getfield 11, 3) := by decide +kernel
theorem d_Journal_keepLatest_38 : decode b_Journal_keepLatest 38 = .ok (.iload_n 2, 1) := by decide +kernel
theorem d_Journal_keepLatest_39 : decode b_Journal_keepLatest 39 = .ok (.aaload, 1) := by decide +kernel
theorem d_Journal_keepLatest_40 : decode b_Journal_keepLatest 40 = .ok (.aastore, 1) := by decide +kernel
theorem d_Journal_keepLatest_41 : decode b_Journal_keepLatest 41 = .ok (.iinc 2 1, 3) := by decide +kernel
theorem d_Journal_keepLatest_44 : decode b_Journal_keepLatest 44 = .ok (.goto (-26), 3) := by decide +kernel
theorem d_Journal_keepLatest_47 : decode b_Journal_keepLatest 47 = .ok (.aload_n 0, 1) := by decide +kernel
theorem d_Journal_keepLatest_48 : decode b_Journal_keepLatest 48 = .ok (.getfield 11, 3) := by decide +kernel
theorem d_Journal_keepLatest_51 : decode b_Journal_keepLatest 51 = .ok (.aload_n 0, 1) := by decide +kernel
theorem d_Journal_keepLatest_52 : decode b_Journal_keepLatest 52 = .ok (.getfield 11, 3) := by decide +kernel
