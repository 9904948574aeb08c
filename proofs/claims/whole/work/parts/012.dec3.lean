theorem d_Journal_keepLatest_55 : decode b_Journal_keepLatest 55 = .ok (.arraylength, 1) := by decide +kernel
theorem d_Journal_keepLatest_56 : decode b_Journal_keepLatest 56 = .ok (.iconst 1, 1) := by decide +kernel
theorem d_Journal_keepLatest_57 : decode b_Journal_keepLatest 57 = .ok (.isub, 1) := by decide +kernel
theorem d_Journal_keepLatest_58 : decode b_Journal_keepLatest 58 = .ok (.aload_n 1, 1) := by decide +kernel
theorem d_Journal_keepLatest_59 : decode b_Journal_keepLatest 59 = .ok (.aastore, 1) := by decide +kernel
theorem d_Journal_keepLatest_60 : decode b_Journal_keepLatest 60 = .ok (.aload_n 0, 1) := by decide +kernel
theorem d_Journal_keepLatest_61 : decode b_Journal_keepLatest 61 = .ok (.iconst 4, 1) := by decide +kernel
theorem d_Journal_keepLatest_62 : decode b_Journal_keepLatest 62 = .ok (.putfield 18, 3) := by decide +kernel
theorem d_Journal_keepLatest_65 : decode b_Journal_keepLatest 65 = .ok (.return_, 1) := by decide +kernel
theorem d_Journal_latest_0 : decode b_Journal_latest 0 = .ok (.aload_n 0, 1) := by decide +kernel
theorem d_Journal_latest_1 : decode b_Journal_latest 1 = .ok (.getfield 18, 3) := by decide +kernel
theorem d_Journal_latest_4 : decode b_Journal_latest 4 = .ok (.ifCond .le 17, 3) := by decide +kernel
theorem d_Journal_latest_7 : decode b_Journal_latest 7 = .ok (.aload_n 0, 1) := by decide +kernel
theorem d_Journal_latest_8 : decode b_Journal_latest 8 = .ok (.getfield 11, 3) := by decide +kernel
theorem d_Journal_latest_11 : decode b_Journal_latest 11 = .ok (.aload_n 0, 1) := by decide +kernel
theorem d_Journal_latest_12 : decode b_Journal_latest 12 = .ok (.getfield 18, 3) := by decide +kernel
theorem d_Journal_latest_15 : decode b_Journal_latest 15 = .ok (.iconst 1, 1) := by decide +kernel
theorem d_Journal_latest_16 : decode b_Journal_latest 16 = .ok (.isub, 1) := by decide +kernel
theorem d_Journal_latest_17 : decode b_Journal_latest 17 = .ok (.aaload, 1) := by decide +kernel
theorem d_Journal_latest_18 : decode b_Journal_latest 18 = .ok (.goto 4, 3) := by decide +kernel
theorem d_Journal_latest_21 : decode b_Journal_latest 21 = .ok (.aconst_null, 1) := by decide +kernel
theorem d_Journal_latest_22 : decode b_Journal_latest 22 = .ok (.areturn, 1) := by decide +kernel
theorem d_Records_exchange_0 : decode b_Records_exchange 0 = .ok (.iconst 0, 1) := by decide +kernel
theorem d_Records_exchange_1 : decode b_Records_exchange 1 = .ok (.istore_n 3, 1) := by decide +kernel
theorem d_Records_exchange_2 : decode b_Records_exchange 2 = .ok (.iload_n 3, 1) := by decide +kernel
theorem d_Records_exchange_3 : decode b_Records_exchange 3 = .ok (.aload_n 0, 1) := by decide +kernel
theorem d_Records_exchange_4 : decode b_Records_exchange 4 = .ok (.getfield 9, 3) := by decide +kernel
theorem d_Records_exchange_7 : decode b_Records_exchange 7 = .ok (.arraylength, 1) := by decide +kernel
theorem d_Records_exchange_8 : decode b_Records_exchange 8 = .ok (.if_icmp .ge 37, 3) := by decide +kernel
theorem d_Records_exchange_11 : decode b_Records_exchange 11 = .ok (.aload_n 0, 1) := by decide +kernel
theorem d_Records_exchange_12 : decode b_Records_exchange 12 = .ok (.getfield 9, 3) := by decide +kernel
theorem d_Records_exchange_15 : decode b_Records_exchange 15 = .ok (.iload_n 3, 1) := by decide +kernel
theorem d_Records_exchange_16 : decode b_Records_exchange 16 = .ok (.aload_n 0, 1) := by decide +kernel
theorem d_Records_exchange_17 : decode b_Records_exchange 17 = .ok (.getfield 9, 3) := by decide +kernel
theorem d_Records_exchange_20 : decode b_Records_exchange 20 = .ok (.iload_n 3, 1) := by decide +kernel
theorem d_Records_exchange_21 : decode b_Records_exchange 21 = .ok (.iaload, 1) := by decide +kernel
theorem d_Records_exchange_22 : decode b_Records_exchange 22 = .ok (.aload_n 1, 1) := by decide +kernel
theorem d_Records_exchange_23 : decode b_Records_exchange 23 = .ok (.getfield 9, 3) := by decide +kernel
theorem d_Records_exchange_26 : decode b_Records_exchange 26 = .ok (.iload_n 3, 1) := by decide +kernel
theorem d_Records_exchange_27 : decode b_Records_exchange 27 = .ok (.iaload, 1) := by decide +kernel
theorem d_Records_exchange_28 : decode b_Records_exchange 28 = .ok (.iconst (-1), 1) := by decide +kernel
theorem d_Records_exchange_29 : decode b_Records_exchange 29 = .ok (.ixor, 1) := by decide +kernel
theorem d_Records_exchange_30 : decode b_Records_exchange 30 = .ok (.iand, 1) := by decide +kernel
theorem d_Records_exchange_31 : decode b_Records_exchange 31 = .ok (.aload_n 2, 1) := by decide +kernel
theorem d_Records_exchange_32 : decode b_Records_exchange 32 = .ok (.getfield 9, 3) := by decide +kernel
theorem d_Records_exchange_35 : decode b_Records_exchange 35 = .ok (.iload_n 3, 1) := by decide +kernel
theorem d_Records_exchange_36 : decode b_Records_exchange 36 = .ok (.iaload, 1) := by decide +kernel
theorem d_Records_exchange_37 : decode b_Records_exchange 37 = .ok (.ior, 1) := by decide +kernel
theorem d_Records_exchange_38 : decode b_Records_exchange 38 = .ok (.iastore, 1) := by decide +kernel
theorem d_Records_exchange_39 : decode b_Records_exchange 39 = .ok (.iinc 3 1, 3) := by decide +kernel
theorem d_Records_exchange_42 : decode b_Records_exchange 42 = .ok (.goto (-40), 3) := by decide +kernel
theorem d_Records_exchange_45 : decode b_Records_exchange 45 = .ok (.return_, 1) := by decide +kernel
theorem d_Primary_becomeLatest_0 : decode b_Primary_becomeLatest 0 = .ok (.aload_n 0, 1) := by decide +kernel
theorem d_Primary_becomeLatest_1 : decode b_Primary_becomeLatest 1 = .ok (.getfield 24, 3) := by decide +kernel
theorem d_Primary_becomeLatest_4 : decode b_Primary_becomeLatest 4 = .ok (.invokevirtual 61, 3) := by decide +kernel
theorem d_Primary_becomeLatest_7 : decode b_Primary_becomeLatest 7 = .ok (.astore_n 1, 1) := by decide +kernel
theorem d_Primary_becomeLatest_8 : decode b_Primary_becomeLatest 8 = .ok (.aload_n 1, 1) := by decide +kernel
theorem d_Primary_becomeLatest_9 : decode b_Primary_becomeLatest 9 = .ok (.ifnonnull 4, 3) := by decide +kernel
theorem d_Primary_becomeLatest_12 : decode b_Primary_becomeLatest 12 = .ok (.return_, 1) := by decide +kernel
theorem d_Primary_becomeLatest_13 : decode b_Primary_becomeLatest 13 = .ok (.aload_n 0, 1) := by decide +kernel
theorem d_Primary_becomeLatest_14 : decode b_Primary_becomeLatest 14 = .ok (.getfield 12, 3) := by decide +kernel
theorem d_Primary_becomeLatest_17 : decode b_Primary_becomeLatest 17 = .ok (.aload_n 1, 1) := by decide +kernel
theorem d_Primary_becomeLatest_18 : decode b_Primary_becomeLatest 18 = .ok (.getfield 65, 3) := by decide +kernel
theorem d_Primary_becomeLatest_21 : decode b_Primary_becomeLatest 21 = .ok (.aload_n 1, 1) := by decide +kernel
theorem d_Primary_becomeLatest_22 : decode b_Primary_becomeLatest 22 = .ok (.getfield 70, 3) := by decide +kernel
theorem d_Primary_becomeLatest_25 : decode b_Primary_becomeLatest 25 = .ok (.invokevirtual 73, 3) := by decide +kernel
theorem d_Primary_becomeLatest_28 : decode b_Primary_becomeLatest 28 = .ok (.aload_n 0, 1) := by decide +kernel
theorem d_Primary_becomeLatest_29 : decode b_Primary_becomeLatest 29 = .ok (.aload_n 1, 1) := by decide +kernel
theorem d_Primary_becomeLatest_30 : decode b_Primary_becomeLatest 30 = .ok (.getfield 77, 3) := by decide +kernel
theorem d_Primary_becomeLatest_33 : decode b_Primary_becomeLatest 33 = .ok (.iconst 1, 1) := by decide +kernel
theorem d_Primary_becomeLatest_34 : decode b_Primary_becomeLatest 34 = .ok (.iadd, 1) := by decide +kernel
theorem d_Primary_becomeLatest_35 : decode b_Primary_becomeLatest 35 = .ok (.putfield 36, 3) := by decide +kernel
theorem d_Primary_becomeLatest_38 : decode b_Primary_becomeLatest 38 = .ok (.aload_n 0, 1) := by decide +kernel
theorem d_Primary_becomeLatest_39 : decode b_Primary_becomeLatest 39 = .ok (.getfield 24, 3) := by decide +kernel
theorem d_Primary_becomeLatest_42 : decode b_Primary_becomeLatest 42 = .ok (.invokevirtual 80, 3) := by decide +kernel
theorem d_Primary_becomeLatest_45 : decode b_Primary_becomeLatest 45 = .ok (.return_, 1) := by decide +kernel
theorem d_Primary_takeStep_0 : decode b_Primary_takeStep 0 = .ok (.iload_n 1, 1) := by decide +kernel
theorem d_Primary_takeStep_1 : decode b_Primary_takeStep 1 = .ok (.lookupswitch 59 #[(1, 27), (2, 49)], 27) := by decide +kernel
theorem d_Primary_takeStep_28 : decode b_Primary_takeStep 28 = .ok (.aload_n 0, 1) := by decide +kernel
theorem d_Primary_takeStep_29 : decode b_Primary_takeStep 29 = .ok (.getfield 24, 3) := by decide +kernel
theorem d_Primary_takeStep_32 : decode b_Primary_takeStep 32 = .ok (.aload_n 0, 1) := by decide +kernel
theorem d_Primary_takeStep_33 : decode b_Primary_takeStep 33 = .ok (.getfield 36, 3) := by decide +kernel
theorem d_Primary_takeStep_36 : decode b_Primary_takeStep 36 = .ok (.aload_n 0, 1) := by decide +kernel
theorem d_Primary_takeStep_37 : decode b_Primary_takeStep 37 = .ok (.getfield 12, 3) := by decide +kernel
theorem d_Primary_takeStep_40 : decode b_Primary_takeStep 40 = .ok (.aload_n 0, 1) := by decide +kernel
theorem d_Primary_takeStep_41 : decode b_Primary_takeStep 41 = .ok (.getfield 18, 3) := by decide +kernel
theorem d_Primary_takeStep_44 : decode b_Primary_takeStep 44 = .ok (.invokevirtual 51, 3) := by decide +kernel
theorem d_Primary_takeStep_47 : decode b_Primary_takeStep 47 = .ok (.goto 17, 3) := by decide +kernel
theorem d_Primary_takeStep_50 : decode b_Primary_takeStep 50 = .ok (.aload_n 0, 1) := by decide +kernel
theorem d_Primary_takeStep_51 : decode b_Primary_takeStep 51 = .ok (.getfield 24, 3) := by decide +kernel
theorem d_Primary_takeStep_54 : decode b_Primary_takeStep 54 = .ok (.invokevirtual 55, 3) := by decide +kernel
theorem d_Primary_takeStep_57 : decode b_Primary_takeStep 57 = .ok (.goto 7, 3) := by decide +kernel
theorem d_Primary_takeStep_60 : decode b_Primary_takeStep 60 = .ok (.aload_n 0, 1) := by decide +kernel
theorem d_Primary_takeStep_61 : decode b_Primary_takeStep 61 = .ok (.invokevirtual 58, 3) := by decide +kernel
theorem d_Primary_takeStep_64 : decode b_Primary_takeStep 64 = .ok (.return_, 1) := by decide +kernel
theorem d_Primary_writeNext_0 : decode b_Primary_writeNext 0 = .ok (.iconst 1, 1) := by decide +kernel
theorem d_Primary_writeNext_1 : decode b_Primary_writeNext 1 = .ok (.istore_n 1, 1) := by decide +kernel
theorem d_Primary_writeNext_2 : decode b_Primary_writeNext 2 = .ok (.iload_n 1, 1) := by decide +kernel
theorem d_Primary_writeNext_3 : decode b_Primary_writeNext 3 = .ok (.iconst 3, 1) := by decide +kernel
theorem d_Primary_writeNext_4 : decode b_Primary_writeNext 4 = .ok (.if_icmp .gt 24, 3) := by decide +kernel
theorem d_Primary_writeNext_7 : decode b_Primary_writeNext 7 = .ok (.iload_n 1, 1) := by decide +kernel
theorem d_Primary_writeNext_8 : decode b_Primary_writeNext 8 = .ok (.aload_n 0, 1) := by decide +kernel
theorem d_Primary_writeNext_9 : decode b_Primary_writeNext 9 = .ok (.getfield 44, 3) := by decide +kernel
theorem d_Primary_writeNext_12 : decode b_Primary_writeNext 12 = .ok (.if_icmp .ne 5, 3) := by decide +kernel
theorem d_Primary_writeNext_15 : decode b_Primary_writeNext 15 = .ok (.iconst 0, 1) := by decide +kernel
theorem d_Primary_writeNext_16 : decode b_Primary_writeNext 16 = .ok (.ireturn, 1) := by decide +kernel
theorem d_Primary_writeNext_17 : decode b_Primary_writeNext 17 = .ok (.aload_n 0, 1) := by decide +kernel
theorem d_Primary_writeNext_18 : decode b_Primary_writeNext 18 = .ok (.iload_n 1, 1) := by decide +kernel
theorem d_Primary_writeNext_19 : decode b_Primary_writeNext 19 = .ok (.invokevirtual 47, 3) := by decide +kernel
theorem d_Primary_writeNext_22 : decode b_Primary_writeNext 22 = .ok (.iinc 1 1, 3) := by decide +kernel
theorem d_Primary_writeNext_25 : decode b_Primary_writeNext 25 = .ok (.goto (-23), 3) := by decide +kernel
theorem d_Primary_writeNext_28 : decode b_Primary_writeNext 28 = .ok (.iconst 1, 1) := by decide +kernel
theorem d_Primary_writeNext_29 : decode b_Primary_writeNext 29 = .ok (.ireturn, 1) := by decide +kernel
theorem d_Records_sameAs_0 : decode b_Records_sameAs 0 = .ok (.iconst 0, 1) := by decide +kernel
theorem d_Records_sameAs_1 : decode b_Records_sameAs 1 = .ok (.istore_n 2, 1) := by decide +kernel
theorem d_Records_sameAs_2 : decode b_Records_sameAs 2 = .ok (.iload_n 2, 1) := by decide +kernel
theorem d_Records_sameAs_3 : decode b_Records_sameAs 3 = .ok (.aload_n 0, 1) := by decide +kernel
theorem d_Records_sameAs_4 : decode b_Records_sameAs 4 = .ok (.getfield 9, 3) := by decide +kernel
theorem d_Records_sameAs_7 : decode b_Records_sameAs 7 = .ok (.arraylength, 1) := by decide +kernel
theorem d_Records_sameAs_8 : decode b_Records_sameAs 8 = .ok (.if_icmp .ge 26, 3) := by decide +kernel
theorem d_Records_sameAs_11 : decode b_Records_sameAs 11 = .ok (.aload_n 0, 1) := by decide +kernel
theorem d_Records_sameAs_12 : decode b_Records_sameAs 12 = .ok (.getfield 9, 3) := by decide +kernel
theorem d_Records_sameAs_15 : decode b_Records_sameAs 15 = .ok (.iload_n 2, 1) := by decide +kernel
theorem d_Records_sameAs_16 : decode b_Records_sameAs 16 = .ok (.iaload, 1) := by decide +kernel
theorem d_Records_sameAs_17 : decode b_Records_sameAs 17 = .ok (.aload_n 1, 1) := by decide +kernel
theorem d_Records_sameAs_18 : decode b_Records_sameAs 18 = .ok (.getfield 9, 3) := by decide +kernel
theorem d_Records_sameAs_21 : decode b_Records_sameAs 21 = .ok (.iload_n 2, 1) := by decide +kernel
theorem d_Records_sameAs_22 : decode b_Records_sameAs 22 = .ok (.iaload, 1) := by decide +kernel
theorem d_Records_sameAs_23 : decode b_Records_sameAs 23 = .ok (.if_icmp .eq 5, 3) := by decide +kernel
theorem d_Records_sameAs_26 : decode b_Records_sameAs 26 = .ok (.iconst 0, 1) := by decide +kernel
theorem d_Records_sameAs_27 : decode b_Records_sameAs 27 = .ok (.ireturn, 1) := by decide +kernel
theorem d_Records_sameAs_28 : decode b_Records_sameAs 28 = .ok (.iinc 2 1, 3) := by decide +kernel
theorem d_Records_sameAs_31 : decode b_Records_sameAs 31 = .ok (.goto (-29), 3) := by decide +kernel
theorem d_Records_sameAs_34 : decode b_Records_sameAs 34 = .ok (.iconst 1, 1) := by decide +kernel
theorem d_Records_sameAs_35 : decode b_Records_sameAs 35 = .ok (.ireturn, 1) := by decide +kernel
theorem d_Records_total_0 : decode b_Records_total 0 = .ok (.iconst 0, 1) := by decide +kernel
theorem d_Records_total_1 : decode b_Records_total 1 = .ok (.istore_n 1, 1) := by decide +kernel
theorem d_Records_total_2 : decode b_Records_total 2 = .ok (.iconst 0, 1) := by decide +kernel
theorem d_Records_total_3 : decode b_Records_total 3 = .ok (.istore_n 2, 1) := by decide +kernel
theorem d_Records_total_4 : decode b_Records_total 4 = .ok (.iload_n 2, 1) := by decide +kernel
theorem d_Records_total_5 : decode b_Records_total 5 = .ok (.aload_n 0, 1) := by decide +kernel
theorem d_Records_total_6 : decode b_Records_total 6 = .ok (.getfield 9, 3) := by decide +kernel
theorem d_Records_total_9 : decode b_Records_total 9 = .ok (.arraylength, 1) := by decide +kernel
theorem d_Records_total_10 : decode b_Records_total 10 = .ok (.if_icmp .ge 21, 3) := by decide +kernel
theorem d_Records_total_13 : decode b_Records_total 13 = .ok (.iload_n 1, 1) := by decide +kernel
theorem d_Records_total_14 : decode b_Records_total 14 = .ok (.aload_n 0, 1) := by decide +kernel
theorem d_Records_total_15 : decode b_Records_total 15 = .ok (.getfield 9, 3) := by decide +kernel
theorem d_Records_total_18 : decode b_Records_total 18 = .ok (.iload_n 2, 1) := by decide +kernel
theorem d_Records_total_19 : decode b_Records_total 19 = .ok (.iaload, 1) := by decide +kernel
theorem d_Records_total_20 : decode b_Records_total 20 = .ok (.invokestatic 27, 3) := by decide +kernel
theorem d_Records_total_23 : decode b_Records_total 23 = .ok (.iadd, 1) := by decide +kernel
theorem d_Records_total_24 : decode b_Records_total 24 = .ok (.istore_n 1, 1) := by decide +kernel
theorem d_Records_total_25 : decode b_Records_total 25 = .ok (.iinc 2 1, 3) := by decide +kernel
theorem d_Records_total_28 : decode b_Records_total 28 = .ok (.goto (-24), 3) := by decide +kernel
theorem d_Records_total_31 : decode b_Records_total 31 = .ok (.iload_n 1, 1) := by decide +kernel
theorem d_Records_total_32 : decode b_Records_total 32 = .ok (.ireturn, 1) := by decide +kernel
theorem d_ZoneNodes_makeChanges_0 : decode b_ZoneNodes_makeChanges 0 = .ok (.aload_n 0, 1) := by decide +kernel
theorem d_ZoneNodes_makeChanges_1 : decode b_ZoneNodes_makeChanges 1 = .ok (.getfield 46, 3) := by decide +kernel
theorem d_ZoneNodes_makeChanges_4 : decode b_ZoneNodes_makeChanges 4 = .ok (.getfield 213, 3) := by decide +kernel
theorem d_ZoneNodes_makeChanges_7 : decode b_ZoneNodes_makeChanges 7 = .ok (.astore_n 1, 1) := by decide +kernel
theorem d_ZoneNodes_makeChanges_8 : decode b_ZoneNodes_makeChanges 8 = .ok (.aload_n 1, 1) := by decide +kernel
theorem d_ZoneNodes_makeChanges_9 : decode b_ZoneNodes_makeChanges 9 = .ok (.aload_n 0, 1) := by decide +kernel
theorem d_ZoneNodes_makeChanges_10 : decode b_ZoneNodes_makeChanges 10 = .ok (.getfield 46, 3) := by decide +kernel
theorem d_ZoneNodes_makeChanges_13 : decode b_ZoneNodes_makeChanges 13 = .ok (.getfield 197, 3) := by decide +kernel
theorem d_ZoneNodes_makeChanges_16 : decode b_ZoneNodes_makeChanges 16 = .ok (.invokevirtual 216, 3) := by decide +kernel
theorem d_ZoneNodes_makeChanges_19 : decode b_ZoneNodes_makeChanges 19 = .ok (.aload_n 0, 1) := by decide +kernel
theorem d_ZoneNodes_makeChanges_20 : decode b_ZoneNodes_makeChanges 20 = .ok (.getfield 20, 3) := by decide +kernel
theorem d_ZoneNodes_makeChanges_23 : decode b_ZoneNodes_makeChanges 23 = .ok (.aload_n 1, 1) := by decide +kernel
theorem d_ZoneNodes_makeChanges_24 : decode b_ZoneNodes_makeChanges 24 = .ok (.invokevirtual 220, 3) := by decide +kernel
theorem d_ZoneNodes_makeChanges_27 : decode b_ZoneNodes_makeChanges 27 = .ok (.aload_n 1, 1) := by decide +kernel
theorem d_ZoneNodes_makeChanges_28 : decode b_ZoneNodes_makeChanges 28 = .ok (.invokevirtual 172, 3) := by decide +kernel
theorem d_ZoneNodes_makeChanges_31 : decode b_ZoneNodes_makeChanges 31 = .ok (.bipush 24, 2) := by decide +kernel
theorem d_ZoneNodes_makeChanges_33 : decode b_ZoneNodes_makeChanges 33 = .ok (.if_icmp .le 5, 3) := by decide +kernel
theorem d_ZoneNodes_makeChanges_36 : decode b_ZoneNodes_makeChanges 36 = .ok (.iconst 2, 1) := by decide +kernel
theorem d_ZoneNodes_makeChanges_37 : decode b_ZoneNodes_makeChanges 37 = .ok (.ireturn, 1) := by decide +kernel
theorem d_ZoneNodes_makeChanges_38 : decode b_ZoneNodes_makeChanges 38 = .ok (.aload_n 1, 1) := by decide +kernel
theorem d_ZoneNodes_makeChanges_39 : decode b_ZoneNodes_makeChanges 39 = .ok (.aload_n 0, 1) := by decide +kernel
theorem d_ZoneNodes_makeChanges_40 : decode b_ZoneNodes_makeChanges 40 = .ok (.getfield 46, 3) := by decide +kernel
theorem d_ZoneNodes_makeChanges_43 : decode b_ZoneNodes_makeChanges 43 = .ok (.getfield 197, 3) := by decide +kernel
theorem d_ZoneNodes_makeChanges_46 : decode b_ZoneNodes_makeChanges 46 = .ok (.invokevirtual 223, 3) := by decide +kernel
theorem d_ZoneNodes_makeChanges_49 : decode b_ZoneNodes_makeChanges 49 = .ok (.ifCond .eq 5, 3) := by decide +kernel
theorem d_ZoneNodes_makeChanges_52 : decode b_ZoneNodes_makeChanges 52 = .ok (.iconst 0, 1) := by decide +kernel
theorem d_ZoneNodes_makeChanges_53 : decode b_ZoneNodes_makeChanges 53 = .ok (.ireturn, 1) := by decide +kernel
theorem d_ZoneNodes_makeChanges_54 : decode b_ZoneNodes_makeChanges 54 = .ok (.aload_n 0, 1) := by decide +kernel
theorem d_ZoneNodes_makeChanges_55 : decode b_ZoneNodes_makeChanges 55 = .ok (.getfield 46, 3) := by decide +kernel
theorem d_ZoneNodes_makeChanges_58 : decode b_ZoneNodes_makeChanges 58 = .ok (.invokevirtual 227, 3) := by decide +kernel
theorem d_ZoneNodes_makeChanges_61 : decode b_ZoneNodes_makeChanges 61 = .ok (.ifCond .ne 9, 3) := by decide +kernel
theorem d_ZoneNodes_makeChanges_64 : decode b_ZoneNodes_makeChanges 64 = .ok (.aload_n 0, 1) := by decide +kernel
theorem d_ZoneNodes_makeChanges_65 : decode b_ZoneNodes_makeChanges 65 = .ok (.invokevirtual 139, 3) := by decide +kernel
theorem d_ZoneNodes_makeChanges_68 : decode b_ZoneNodes_makeChanges 68 = .ok (.iconst (-1), 1) := by decide +kernel
theorem d_ZoneNodes_makeChanges_69 : decode b_ZoneNodes_makeChanges 69 = .ok (.ireturn, 1) := by decide +kernel
theorem d_ZoneNodes_makeChanges_70 : decode b_ZoneNodes_makeChanges 70 = .ok (.aload_n 0, 1) := by decide +kernel
theorem d_ZoneNodes_makeChanges_71 : decode b_ZoneNodes_makeChanges 71 = .ok (.invokevirtual 149, 3) := by decide +kernel
theorem d_ZoneNodes_makeChanges_74 : decode b_ZoneNodes_makeChanges 74 = .ok (.iconst 0, 1) := by decide +kernel
theorem d_ZoneNodes_makeChanges_75 : decode b_ZoneNodes_makeChanges 75 = .ok (.ireturn, 1) := by decide +kernel
theorem d_ZoneNodes_message_0 : decode b_ZoneNodes_message 0 = .ok (.aload_n 0, 1) := by decide +kernel
theorem d_ZoneNodes_message_1 : decode b_ZoneNodes_message 1 = .ok (.getfield 27, 3) := by decide +kernel
theorem d_ZoneNodes_message_4 : decode b_ZoneNodes_message 4 = .ok (.iload_n 1, 1) := by decide +kernel
theorem d_ZoneNodes_message_5 : decode b_ZoneNodes_message 5 = .ok (.invokevirtual 100, 3) := by decide +kernel
theorem d_ZoneNodes_message_8 : decode b_ZoneNodes_message 8 = .ok (.astore_n 2, 1) := by decide +kernel
theorem d_ZoneNodes_message_9 : decode b_ZoneNodes_message 9 = .ok (.aload_n 2, 1) := by decide +kernel
theorem d_ZoneNodes_message_10 : decode b_ZoneNodes_message 10 = .ok (.ifnonnull 5, 3) := by decide +kernel
theorem d_ZoneNodes_message_13 : decode b_ZoneNodes_message 13 = .ok (.iconst (-1), 1) := by decide +kernel
theorem d_ZoneNodes_message_14 : decode b_ZoneNodes_message 14 = .ok (.ireturn, 1) := by decide +kernel
theorem d_ZoneNodes_message_15 : decode b_ZoneNodes_message 15 = .ok (.ldc 157, 2) := by decide +kernel
theorem d_ZoneNodes_message_17 : decode b_ZoneNodes_message 17 = .ok (.aload_n 2, 1) := by decide +kernel
theorem d_ZoneNodes_message_18 : decode b_ZoneNodes_message 18 = .ok (.getfield 110, 3) := by decide +kernel
theorem d_ZoneNodes_message_21 : decode b_ZoneNodes_message 21 = .ok (.imul, 1) := by decide +kernel
theorem d_ZoneNodes_message_22 : decode b_ZoneNodes_message 22 = .ok (.sipush 10000, 3) := by decide +kernel
theorem d_ZoneNodes_message_25 : decode b_ZoneNodes_message 25 = .ok (.aload_n 2, 1) := by decide +kernel
theorem d_ZoneNodes_message_26 : decode b_ZoneNodes_message 26 = .ok (.getfield 119, 3) := by decide +kernel
theorem d_ZoneNodes_message_29 : decode b_ZoneNodes_message 29 = .ok (.imul, 1) := by decide +kernel
theorem d_ZoneNodes_message_30 : decode b_ZoneNodes_message 30 = .ok (.iadd, 1) := by decide +kernel
theorem d_ZoneNodes_message_31 : decode b_ZoneNodes_message 31 = .ok (.istore_n 3, 1) := by decide +kernel
theorem d_ZoneNodes_message_32 : decode b_ZoneNodes_message 32 = .ok (.aload_n 2, 1) := by decide +kernel
theorem d_ZoneNodes_message_33 : decode b_ZoneNodes_message 33 = .ok (.getfield 110, 3) := by decide +kernel
theorem d_ZoneNodes_message_36 : decode b_ZoneNodes_message 36 = .ok (.iconst 5, 1) := by decide +kernel
theorem d_ZoneNodes_message_37 : decode b_ZoneNodes_message 37 = .ok (.if_icmp .ne 20, 3) := by decide +kernel
theorem d_ZoneNodes_message_40 : decode b_ZoneNodes_message 40 = .ok (.iload_n 3, 1) := by decide +kernel
theorem d_ZoneNodes_message_41 : decode b_ZoneNodes_message 41 = .ok (.bipush 100, 2) := by decide +kernel
theorem d_ZoneNodes_message_43 : decode b_ZoneNodes_message 43 = .ok (.aload_n 2, 1) := by decide +kernel
theorem d_ZoneNodes_message_44 : decode b_ZoneNodes_message 44 = .ok (.getfield 158, 3) := by decide +kernel
theorem d_ZoneNodes_message_47 : decode b_ZoneNodes_message 47 = .ok (.imul, 1) := by decide +kernel
theorem d_ZoneNodes_message_48 : decode b_ZoneNodes_message 48 = .ok (.iadd, 1) := by decide +kernel
theorem d_ZoneNodes_message_49 : decode b_ZoneNodes_message 49 = .ok (.aload_n 2, 1) := by decide +kernel
theorem d_ZoneNodes_message_50 : decode b_ZoneNodes_message 50 = .ok (.getfield 161, 3) := by decide +kernel
theorem d_ZoneNodes_message_53 : decode b_ZoneNodes_message 53 = .ok (.iadd, 1) := by decide +kernel
theorem d_ZoneNodes_message_54 : decode b_ZoneNodes_message 54 = .ok (.goto 4, 3) := by decide +kernel
theorem d_ZoneNodes_message_57 : decode b_ZoneNodes_message 57 = .ok (.iload_n 3, 1) := by decide +kernel
theorem d_ZoneNodes_message_58 : decode b_ZoneNodes_message 58 = .ok (.ireturn, 1) := by decide +kernel
theorem d_ZoneNodes_messages_0 : decode b_ZoneNodes_messages 0 = .ok (.aload_n 0, 1) := by decide +kernel
theorem d_ZoneNodes_messages_1 : decode b_ZoneNodes_messages 1 = .ok (.getfield 27, 3) := by decide +kernel
theorem d_ZoneNodes_messages_4 : decode b_ZoneNodes_messages 4 = .ok (.getfield 154, 3) := by decide +kernel
theorem d_ZoneNodes_messages_7 : decode b_ZoneNodes_messages 7 = .ok (.ireturn, 1) := by decide +kernel
theorem d_Draft_addNeed_0 : decode b_Draft_addNeed 0 = .ok (.aload_n 0, 1) := by decide +kernel
theorem d_Draft_addNeed_1 : decode b_Draft_addNeed 1 = .ok (.getfield 18, 3) := by decide +kernel
theorem d_Draft_addNeed_4 : decode b_Draft_addNeed 4 = .ok (.iconst 4, 1) := by decide +kernel
theorem d_Draft_addNeed_5 : decode b_Draft_addNeed 5 = .ok (.if_icmp .lt 5, 3) := by decide +kernel
theorem d_Draft_addNeed_8 : decode b_Draft_addNeed 8 = .ok (.iconst 0, 1) := by decide +kernel
theorem d_Draft_addNeed_9 : decode b_Draft_addNeed 9 = .ok (.ireturn, 1) := by decide +kernel
theorem d_Draft_addNeed_10 : decode b_Draft_addNeed 10 = .ok (.aload_n 0, 1) := by decide +kernel
theorem d_Draft_addNeed_11 : decode b_Draft_addNeed 11 = .ok (.getfield 9, 3) := by decide +kernel
theorem d_Draft_addNeed_14 : decode b_Draft_addNeed 14 = .ok (.aload_n 0, 1) := by decide +kernel
theorem d_Draft_addNeed_15 : decode b_Draft_addNeed 15 = .ok (.getfield 18, 3) := by decide +kernel
theorem d_Draft_addNeed_18 : decode b_Draft_addNeed 18 = .ok (.iload_n 1, 1) := by decide +kernel
theorem d_Draft_addNeed_19 : decode b_Draft_addNeed 19 = .ok (.iastore, 1) := by decide +kernel
theorem d_Draft_addNeed_20 : decode b_Draft_addNeed 20 = .ok (.aload_n 0, 1) := by decide +kernel
theorem d_Draft_addNeed_21 : decode b_Draft_addNeed 21 = .ok (.dup, 1) := by decide +kernel
theorem d_Draft_addNeed_22 : decode b_Draft_addNeed 22 = .ok (.getfield 18, 3) := by decide +kernel
theorem d_Draft_addNeed_25 : decode b_Draft_addNeed 25 = .ok (.iconst 1, 1) := by decide +kernel
theorem d_Draft_addNeed_26 : decode b_Draft_addNeed 26 = .ok (.iadd, 1) := by decide +kernel
theorem d_Draft_addNeed_27 : decode b_Draft_addNeed 27 = .ok (.putfield 18, 3) := by decide +kernel
theorem d_Draft_addNeed_30 : decode b_Draft_addNeed 30 = .ok (.iconst 1, 1) := by decide +kernel
theorem d_Draft_addNeed_31 : decode b_Draft_addNeed 31 = .ok (.ireturn, 1) := by decide +kernel
theorem d_ZoneNodes_need_0 : decode b_ZoneNodes_need 0 = .ok (.iload_n 1, 1) := by decide +kernel
theorem d_ZoneNodes_need_1 : decode b_ZoneNodes_need 1 = .ok (.iconst 0, 1) := by decide +kernel
theorem d_ZoneNodes_need_2 : decode b_ZoneNodes_need 2 = .ok (.iconst 4, 1) := by decide +kernel
theorem d_ZoneNodes_need_3 : decode b_ZoneNodes_need 3 = .ok (.invokestatic 37, 3) := by decide +kernel
theorem d_ZoneNodes_need_6 : decode b_ZoneNodes_need 6 = .ok (.ifCond .eq 35, 3) := by decide +kernel
theorem d_ZoneNodes_need_9 : decode b_ZoneNodes_need 9 = .ok (.iload_n 2, 1) := by decide +kernel
theorem d_ZoneNodes_need_10 : decode b_ZoneNodes_need 10 = .ok (.iload_n 3, 1) := by decide +kernel
theorem d_ZoneNodes_need_11 : decode b_ZoneNodes_need 11 = .ok (.iload 4, 2) := by decide +kernel
theorem d_ZoneNodes_need_13 : decode b_ZoneNodes_need 13 = .ok (.invokestatic 53, 3) := by decide +kernel
theorem d_ZoneNodes_need_16 : decode b_ZoneNodes_need 16 = .ok (.ifCond .eq 25, 3) := by decide +kernel
theorem d_ZoneNodes_need_19 : decode b_ZoneNodes_need 19 = .ok (.aload_n 0, 1) := by decide +kernel
theorem d_ZoneNodes_need_20 : decode b_ZoneNodes_need 20 = .ok (.getfield 20, 3) := by decide +kernel
theorem d_ZoneNodes_need_23 : decode b_ZoneNodes_need 23 = .ok (.iload_n 1, 1) := by decide +kernel
theorem d_ZoneNodes_need_24 : decode b_ZoneNodes_need 24 = .ok (.iload_n 2, 1) := by decide +kernel
theorem d_ZoneNodes_need_25 : decode b_ZoneNodes_need 25 = .ok (.iload_n 3, 1) := by decide +kernel
theorem d_ZoneNodes_need_26 : decode b_ZoneNodes_need 26 = .ok (.iload 4, 2) := by decide +kernel
theorem d_ZoneNodes_need_28 : decode b_ZoneNodes_need 28 = .ok (.invokestatic 56, 3) := by decide +kernel
theorem d_ZoneNodes_need_31 : decode b_ZoneNodes_need 31 = .ok (.invokevirtual 60, 3) := by decide +kernel
theorem d_ZoneNodes_need_34 : decode b_ZoneNodes_need 34 = .ok (.ifCond .eq 7, 3) := by decide +kernel
theorem d_ZoneNodes_need_37 : decode b_ZoneNodes_need 37 = .ok (.iconst 1, 1) := by decide +kernel
theorem d_ZoneNodes_need_38 : decode b_ZoneNodes_need 38 = .ok (.goto 4, 3) := by decide +kernel
theorem d_ZoneNodes_need_41 : decode b_ZoneNodes_need 41 = .ok (.iconst 0, 1) := by decide +kernel
theorem d_ZoneNodes_need_42 : decode b_ZoneNodes_need 42 = .ok (.ireturn, 1) := by decide +kernel
theorem d_Secondary_isExpired_0 : decode b_Secondary_isExpired 0 = .ok (.iload_n 1, 1) := by decide +kernel
theorem d_Secondary_isExpired_1 : decode b_Secondary_isExpired 1 = .ok (.aload_n 0, 1) := by decide +kernel
theorem d_Secondary_isExpired_2 : decode b_Secondary_isExpired 2 = .ok (.getfield 45, 3) := by decide +kernel
theorem d_Secondary_isExpired_5 : decode b_Secondary_isExpired 5 = .ok (.if_icmp .lt 7, 3) := by decide +kernel
theorem d_Secondary_isExpired_8 : decode b_Secondary_isExpired 8 = .ok (.iconst 1, 1) := by decide +kernel
theorem d_Secondary_isExpired_9 : decode b_Secondary_isExpired 9 = .ok (.goto 4, 3) := by decide +kernel
theorem d_Secondary_isExpired_12 : decode b_Secondary_isExpired 12 = .ok (.iconst 0, 1) := by decide +kernel
theorem d_Secondary_isExpired_13 : decode b_Secondary_isExpired 13 = .ok (.ireturn, 1) := by decide +kernel
theorem d_ZoneNodes_query_0 : decode b_ZoneNodes_query 0 = .ok (.aload_n 0, 1) := by decide +kernel
theorem d_ZoneNodes_query_1 : decode b_ZoneNodes_query 1 = .ok (.iload_n 1, 1) := by decide +kernel
theorem d_ZoneNodes_query_2 : decode b_ZoneNodes_query 2 = .ok (.invokevirtual 164, 3) := by decide +kernel
theorem d_ZoneNodes_query_5 : decode b_ZoneNodes_query 5 = .ok (.astore 4, 2) := by decide +kernel
theorem d_ZoneNodes_query_7 : decode b_ZoneNodes_query 7 = .ok (.aload 4, 2) := by decide +kernel
theorem d_ZoneNodes_query_9 : decode b_ZoneNodes_query 9 = .ok (.ifnull 20, 3) := by decide +kernel
theorem d_ZoneNodes_query_12 : decode b_ZoneNodes_query 12 = .ok (.iload_n 2, 1) := by decide +kernel
theorem d_ZoneNodes_query_13 : decode b_ZoneNodes_query 13 = .ok (.iload_n 3, 1) := by decide +kernel
theorem d_ZoneNodes_query_14 : decode b_ZoneNodes_query 14 = .ok (.iconst 0, 1) := by decide +kernel
theorem d_ZoneNodes_query_15 : decode b_ZoneNodes_query 15 = .ok (.invokestatic 53, 3) := by decide +kernel
theorem d_ZoneNodes_query_18 : decode b_ZoneNodes_query 18 = .ok (.ifCond .eq 11, 3) := by decide +kernel
theorem d_ZoneNodes_query_21 : decode b_ZoneNodes_query 21 = .ok (.aload_n 0, 1) := by decide +kernel
theorem d_ZoneNodes_query_22 : decode b_ZoneNodes_query 22 = .ok (.iload_n 1, 1) := by decide +kernel
theorem d_ZoneNodes_query_23 : decode b_ZoneNodes_query 23 = .ok (.invokevirtual 136, 3) := by decide +kernel
theorem d_ZoneNodes_query_26 : decode b_ZoneNodes_query 26 = .ok (.ifCond .ne 5, 3) := by decide +kernel
theorem d_ZoneNodes_query_29 : decode b_ZoneNodes_query 29 = .ok (.iconst (-1), 1) := by decide +kernel
theorem d_ZoneNodes_query_30 : decode b_ZoneNodes_query 30 = .ok (.ireturn, 1) := by decide +kernel
theorem d_ZoneNodes_query_31 : decode b_ZoneNodes_query 31 = .ok (.iload_n 1, 1) := by decide +kernel
theorem d_ZoneNodes_query_32 : decode b_ZoneNodes_query 32 = .ok (.ifCond .eq 23, 3) := by decide +kernel
theorem d_ZoneNodes_query_35 : decode b_ZoneNodes_query 35 = .ok (.aload_n 0, 1) := by decide +kernel
theorem d_ZoneNodes_query_36 : decode b_ZoneNodes_query 36 = .ok (.getfield 33, 3) := by decide +kernel
theorem d_ZoneNodes_query_39 : decode b_ZoneNodes_query 39 = .ok (.iload_n 1, 1) := by decide +kernel
theorem d_ZoneNodes_query_40 : decode b_ZoneNodes_query 40 = .ok (.iconst 1, 1) := by decide +kernel
theorem d_ZoneNodes_query_41 : decode b_ZoneNodes_query 41 = .ok (.isub, 1) := by decide +kernel
theorem d_ZoneNodes_query_42 : decode b_ZoneNodes_query 42 = .ok (.aaload, 1) := by decide +kernel
theorem d_ZoneNodes_query_43 : decode b_ZoneNodes_query 43 = .ok (.aload_n 0, 1) := by decide +kernel
theorem d_ZoneNodes_query_44 : decode b_ZoneNodes_query 44 = .ok (.getfield 93, 3) := by decide +kernel
theorem d_ZoneNodes_query_47 : decode b_ZoneNodes_query 47 = .ok (.invokevirtual 180, 3) := by decide +kernel
theorem d_ZoneNodes_query_50 : decode b_ZoneNodes_query 50 = .ok (.ifCond .eq 5, 3) := by decide +kernel
theorem d_ZoneNodes_query_53 : decode b_ZoneNodes_query 53 = .ok (.iconst (-1), 1) := by decide +kernel
theorem d_ZoneNodes_query_54 : decode b_ZoneNodes_query 54 = .ok (.ireturn, 1) := by decide +kernel
theorem d_ZoneNodes_query_55 : decode b_ZoneNodes_query 55 = .ok (.aload 4, 2) := by decide +kernel
theorem d_ZoneNodes_query_57 : decode b_ZoneNodes_query 57 = .ok (.iload_n 2, 1) := by decide +kernel
theorem d_ZoneNodes_query_58 : decode b_ZoneNodes_query 58 = .ok (.iload_n 3, 1) := by decide +kernel
theorem d_ZoneNodes_query_59 : decode b_ZoneNodes_query 59 = .ok (.invokestatic 183, 3) := by decide +kernel
theorem d_ZoneNodes_query_62 : decode b_ZoneNodes_query 62 = .ok (.ireturn, 1) := by decide +kernel
theorem d_Draft_mixed_0 : decode b_Draft_mixed 0 = .ok (.iload_n 0, 1) := by decide +kernel
theorem d_Draft_mixed_1 : decode b_Draft_mixed 1 = .ok (.iload_n 1, 1) := by decide +kernel
theorem d_Draft_mixed_2 : decode b_Draft_mixed 2 = .ok (.ixor, 1) := by decide +kernel
theorem d_Draft_mixed_3 : decode b_Draft_mixed 3 = .ok (.ldc 29, 2) := by decide +kernel
theorem d_Draft_mixed_5 : decode b_Draft_mixed 5 = .ok (.imul, 1) := by decide +kernel
theorem d_Draft_mixed_6 : decode b_Draft_mixed 6 = .ok (.istore_n 2, 1) := by decide +kernel
theorem d_Draft_mixed_7 : decode b_Draft_mixed 7 = .ok (.iload_n 2, 1) := by decide +kernel
theorem d_Draft_mixed_8 : decode b_Draft_mixed 8 = .ok (.iload_n 2, 1) := by decide +kernel
theorem d_Draft_mixed_9 : decode b_Draft_mixed 9 = .ok (.bipush 15, 2) := by decide +kernel
theorem d_Draft_mixed_11 : decode b_Draft_mixed 11 = .ok (.iushr, 1) := by decide +kernel
theorem d_Draft_mixed_12 : decode b_Draft_mixed 12 = .ok (.ixor, 1) := by decide +kernel
theorem d_Draft_mixed_13 : decode b_Draft_mixed 13 = .ok (.ireturn, 1) := by decide +kernel
theorem d_Draft_sealWith_0 : decode b_Draft_sealWith 0 = .ok (.iload_n 1, 1) := by decide +kernel
theorem d_Draft_sealWith_1 : decode b_Draft_sealWith 1 = .ok (.aload_n 0, 1) := by decide +kernel
theorem d_Draft_sealWith_2 : decode b_Draft_sealWith 2 = .ok (.getfield 18, 3) := by decide +kernel
theorem d_Draft_sealWith_5 : decode b_Draft_sealWith 5 = .ok (.invokestatic 25, 3) := by decide +kernel
theorem d_Draft_sealWith_8 : decode b_Draft_sealWith 8 = .ok (.istore_n 3, 1) := by decide +kernel
theorem d_Draft_sealWith_9 : decode b_Draft_sealWith 9 = .ok (.iconst 0, 1) := by decide +kernel
theorem d_Draft_sealWith_10 : decode b_Draft_sealWith 10 = .ok (.istore 4, 2) := by decide +kernel
theorem d_Draft_sealWith_12 : decode b_Draft_sealWith 12 = .ok (.iload 4, 2) := by decide +kernel
theorem d_Draft_sealWith_14 : decode b_Draft_sealWith 14 = .ok (.aload_n 0, 1) := by decide +kernel
theorem d_Draft_sealWith_15 : decode b_Draft_sealWith 15 = .ok (.getfield 18, 3) := by decide +kernel
theorem d_Draft_sealWith_18 : decode b_Draft_sealWith 18 = .ok (.if_icmp .ge 21, 3) := by decide +kernel
theorem d_Draft_sealWith_21 : decode b_Draft_sealWith 21 = .ok (.iload_n 3, 1) := by decide +kernel
theorem d_Draft_sealWith_22 : decode b_Draft_sealWith 22 = .ok (.aload_n 0, 1) := by decide +kernel
theorem d_Draft_sealWith_23 : decode b_Draft_sealWith 23 = .ok (.getfield 9, 3) := by decide +kernel
theorem d_Draft_sealWith_26 : decode b_Draft_sealWith 26 = .ok (.iload 4, 2) := by decide +kernel
theorem d_Draft_sealWith_28 : decode b_Draft_sealWith 28 = .ok (.iaload, 1) := by decide +kernel
theorem d_Draft_sealWith_29 : decode b_Draft_sealWith 29 = .ok (.invokestatic 25, 3) := by decide +kernel
theorem d_Draft_sealWith_32 : decode b_Draft_sealWith 32 = .ok (.istore_n 3, 1) := by decide +kernel
theorem d_Draft_sealWith_33 : decode b_Draft_sealWith 33 = .ok (.iinc 4 1, 3) := by decide +kernel
theorem d_Draft_sealWith_36 : decode b_Draft_sealWith 36 = .ok (.goto (-24), 3) := by decide +kernel
theorem d_Draft_sealWith_39 : decode b_Draft_sealWith 39 = .ok (.iload_n 3, 1) := by decide +kernel
theorem d_Draft_sealWith_40 : decode b_Draft_sealWith 40 = .ok (.aload_n 0, 1) := by decide +kernel
theorem d_Draft_sealWith_41 : decode b_Draft_sealWith 41 = .ok (.getfield 22, 3) := by decide +kernel
theorem d_Draft_sealWith_44 : decode b_Draft_sealWith 44 = .ok (.invokestatic 25, 3) := by decide +kernel
theorem d_Draft_sealWith_47 : decode b_Draft_sealWith 47 = .ok (.istore_n 3, 1) := by decide +kernel
theorem d_Draft_sealWith_48 : decode b_Draft_sealWith 48 = .ok (.iconst 0, 1) := by decide +kernel
theorem d_Draft_sealWith_49 : decode b_Draft_sealWith 49 = .ok (.istore 4, 2) := by decide +kernel
theorem d_Draft_sealWith_51 : decode b_Draft_sealWith 51 = .ok (.iload 4, 2) := by decide +kernel
theorem d_Draft_sealWith_53 : decode b_Draft_sealWith 53 = .ok (.aload_n 0, 1) := by decide +kernel
theorem d_Draft_sealWith_54 : decode b_Draft_sealWith 54 = .ok (.getfield 22, 3) := by decide +kernel
theorem d_Draft_sealWith_57 : decode b_Draft_sealWith 57 = .ok (.if_icmp .ge 21, 3) := by decide +kernel
theorem d_Draft_sealWith_60 : decode b_Draft_sealWith 60 = .ok (.iload_n 3, 1) := by decide +kernel
theorem d_Draft_sealWith_61 : decode b_Draft_sealWith 61 = .ok (.aload_n 0, 1) := by decide +kernel
theorem d_Draft_sealWith_62 : decode b_Draft_sealWith 62 = .ok (.getfield 15, 3) := by decide +kernel
theorem d_Draft_sealWith_65 : decode b_Draft_sealWith 65 = .ok (.iload 4, 2) := by decide +kernel
theorem d_Draft_sealWith_67 : decode b_Draft_sealWith 67 = .ok (.iaload, 1) := by decide +kernel
theorem d_Draft_sealWith_68 : decode b_Draft_sealWith 68 = .ok (.invokestatic 25, 3) := by decide +kernel
theorem d_Draft_sealWith_71 : decode b_Draft_sealWith 71 = .ok (.istore_n 3, 1) := by decide +kernel
theorem d_Draft_sealWith_72 : decode b_Draft_sealWith 72 = .ok (.iinc 4 1, 3) := by decide +kernel
theorem d_Draft_sealWith_75 : decode b_Draft_sealWith 75 = .ok (.goto (-24), 3) := by decide +kernel
theorem d_Draft_sealWith_78 : decode b_Draft_sealWith 78 = .ok (.iload_n 3, 1) := by decide +kernel
theorem d_Draft_sealWith_79 : decode b_Draft_sealWith 79 = .ok (.iload_n 2, 1) := by decide +kernel
theorem d_Draft_sealWith_80 : decode b_Draft_sealWith 80 = .ok (.invokestatic 25, 3) := by decide +kernel
theorem d_Draft_sealWith_83 : decode b_Draft_sealWith 83 = .ok (.ireturn, 1) := by decide +kernel
theorem d_Draft_answerTo_0 : decode b_Draft_answerTo 0 = .ok (.iload_n 0, 1) := by decide +kernel
theorem d_Draft_answerTo_1 : decode b_Draft_answerTo 1 = .ok (.invokestatic 42, 3) := by decide +kernel
theorem d_Draft_answerTo_4 : decode b_Draft_answerTo 4 = .ok (.istore_n 2, 1) := by decide +kernel
theorem d_Draft_answerTo_5 : decode b_Draft_answerTo 5 = .ok (.aload_n 1, 1) := by decide +kernel
theorem d_Draft_answerTo_6 : decode b_Draft_answerTo 6 = .ok (.iload_n 2, 1) := by decide +kernel
theorem d_Draft_answerTo_7 : decode b_Draft_answerTo 7 = .ok (.iload_n 0, 1) := by decide +kernel
theorem d_Draft_answerTo_8 : decode b_Draft_answerTo 8 = .ok (.invokestatic 45, 3) := by decide +kernel
theorem d_Draft_answerTo_11 : decode b_Draft_answerTo 11 = .ok (.invokevirtual 48, 3) := by decide +kernel
theorem d_Draft_answerTo_14 : decode b_Draft_answerTo 14 = .ok (.istore_n 3, 1) := by decide +kernel
theorem d_Draft_answerTo_15 : decode b_Draft_answerTo 15 = .ok (.iload_n 0, 1) := by decide +kernel
theorem d_Draft_answerTo_16 : decode b_Draft_answerTo 16 = .ok (.invokestatic 34, 3) := by decide +kernel
theorem d_Draft_answerTo_19 : decode b_Draft_answerTo 19 = .ok (.tableswitch 84 0 4 #[33, 47, 62, 84, 73], 33) := by decide +kernel
theorem d_Draft_answerTo_52 : decode b_Draft_answerTo 52 = .ok (.aload_n 1, 1) := by decide +kernel
theorem d_Draft_answerTo_53 : decode b_Draft_answerTo 53 = .ok (.iload_n 2, 1) := by decide +kernel
theorem d_Draft_answerTo_54 : decode b_Draft_answerTo 54 = .ok (.invokevirtual 53, 3) := by decide +kernel
theorem d_Draft_answerTo_57 : decode b_Draft_answerTo 57 = .ok (.ifCond .eq 7, 3) := by decide +kernel
theorem d_Draft_answerTo_60 : decode b_Draft_answerTo 60 = .ok (.iconst 0, 1) := by decide +kernel
theorem d_Draft_answerTo_61 : decode b_Draft_answerTo 61 = .ok (.goto 4, 3) := by decide +kernel
theorem d_Draft_answerTo_64 : decode b_Draft_answerTo 64 = .ok (.iconst 3, 1) := by decide +kernel
theorem d_Draft_answerTo_65 : decode b_Draft_answerTo 65 = .ok (.ireturn, 1) := by decide +kernel
theorem d_Draft_answerTo_66 : decode b_Draft_answerTo 66 = .ok (.aload_n 1, 1) := by decide +kernel
theorem d_Draft_answerTo_67 : decode b_Draft_answerTo 67 = .ok (.iload_n 2, 1) := by decide +kernel
theorem d_Draft_answerTo_68 : decode b_Draft_answerTo 68 = .ok (.invokevirtual 53, 3) := by decide +kernel
theorem d_Draft_answerTo_71 : decode b_Draft_answerTo 71 = .ok (.ifCond .eq 8, 3) := by decide +kernel
theorem d_Draft_answerTo_74 : decode b_Draft_answerTo 74 = .ok (.bipush 6, 2) := by decide +kernel
theorem d_Draft_answerTo_76 : decode b_Draft_answerTo 76 = .ok (.goto 4, 3) := by decide +kernel
theorem d_Draft_answerTo_79 : decode b_Draft_answerTo 79 = .ok (.iconst 0, 1) := by decide +kernel
theorem d_Draft_answerTo_80 : decode b_Draft_answerTo 80 = .ok (.ireturn, 1) := by decide +kernel
theorem d_Draft_answerTo_81 : decode b_Draft_answerTo 81 = .ok (.iload_n 3, 1) := by decide +kernel
theorem d_Draft_answerTo_82 : decode b_Draft_answerTo 82 = .ok (.ifCond .eq 7, 3) := by decide +kernel
theorem d_Draft_answerTo_85 : decode b_Draft_answerTo 85 = .ok (.iconst 0, 1) := by decide +kernel
theorem d_Draft_answerTo_86 : decode b_Draft_answerTo 86 = .ok (.goto 5, 3) := by decide +kernel
theorem d_Draft_answerTo_89 : decode b_Draft_answerTo 89 = .ok (.bipush 8, 2) := by decide +kernel
theorem d_Draft_answerTo_91 : decode b_Draft_answerTo 91 = .ok (.ireturn, 1) := by decide +kernel
theorem d_Draft_answerTo_92 : decode b_Draft_answerTo 92 = .ok (.iload_n 3, 1) := by decide +kernel
theorem d_Draft_answerTo_93 : decode b_Draft_answerTo 93 = .ok (.ifCond .ne 7, 3) := by decide +kernel
theorem d_Draft_answerTo_96 : decode b_Draft_answerTo 96 = .ok (.iconst 0, 1) := by decide +kernel
theorem d_Draft_answerTo_97 : decode b_Draft_answerTo 97 = .ok (.goto 5, 3) := by decide +kernel
theorem d_Draft_answerTo_100 : decode b_Draft_answerTo 100 = .ok (.bipush 7, 2) := by decide +kernel
theorem d_Draft_answerTo_102 : decode b_Draft_answerTo 102 = .ok (.ireturn, 1) := by decide +kernel
theorem d_Draft_answerTo_103 : decode b_Draft_answerTo 103 = .ok (.iconst 0, 1) := by decide +kernel
theorem d_Draft_answerTo_104 : decode b_Draft_answerTo 104 = .ok (.ireturn, 1) := by decide +kernel
theorem d_Draft_isExact_0 : decode b_Draft_isExact 0 = .ok (.iconst 0, 1) := by decide +kernel
theorem d_Draft_isExact_1 : decode b_Draft_isExact 1 = .ok (.istore_n 3, 1) := by decide +kernel
theorem d_Draft_isExact_2 : decode b_Draft_isExact 2 = .ok (.iconst 0, 1) := by decide +kernel
theorem d_Draft_isExact_3 : decode b_Draft_isExact 3 = .ok (.istore 4, 2) := by decide +kernel
theorem d_Draft_isExact_5 : decode b_Draft_isExact 5 = .ok (.iload 4, 2) := by decide +kernel
theorem d_Draft_isExact_7 : decode b_Draft_isExact 7 = .ok (.aload_n 0, 1) := by decide +kernel
theorem d_Draft_isExact_8 : decode b_Draft_isExact 8 = .ok (.getfield 18, 3) := by decide +kernel
theorem d_Draft_isExact_11 : decode b_Draft_isExact 11 = .ok (.if_icmp .ge 41, 3) := by decide +kernel
theorem d_Draft_isExact_14 : decode b_Draft_isExact 14 = .ok (.aload_n 0, 1) := by decide +kernel
theorem d_Draft_isExact_15 : decode b_Draft_isExact 15 = .ok (.getfield 9, 3) := by decide +kernel
theorem d_Draft_isExact_18 : decode b_Draft_isExact 18 = .ok (.iload 4, 2) := by decide +kernel
theorem d_Draft_isExact_20 : decode b_Draft_isExact 20 = .ok (.iaload, 1) := by decide +kernel
theorem d_Draft_isExact_21 : decode b_Draft_isExact 21 = .ok (.bipush 10, 2) := by decide +kernel
theorem d_Draft_isExact_23 : decode b_Draft_isExact 23 = .ok (.idiv, 1) := by decide +kernel
theorem d_Draft_isExact_24 : decode b_Draft_isExact 24 = .ok (.iload_n 1, 1) := by decide +kernel
theorem d_Draft_isExact_25 : decode b_Draft_isExact 25 = .ok (.bipush 10, 2) := by decide +kernel
theorem d_Draft_isExact_27 : decode b_Draft_isExact 27 = .ok (.idiv, 1) := by decide +kernel
theorem d_Draft_isExact_28 : decode b_Draft_isExact 28 = .ok (.if_icmp .ne 18, 3) := by decide +kernel
theorem d_Draft_isExact_31 : decode b_Draft_isExact 31 = .ok (.iload_n 3, 1) := by decide +kernel
theorem d_Draft_isExact_32 : decode b_Draft_isExact 32 = .ok (.iconst 1, 1) := by decide +kernel
theorem d_Draft_isExact_33 : decode b_Draft_isExact 33 = .ok (.aload_n 0, 1) := by decide +kernel
theorem d_Draft_isExact_34 : decode b_Draft_isExact 34 = .ok (.getfield 9, 3) := by decide +kernel
theorem d_Draft_isExact_37 : decode b_Draft_isExact 37 = .ok (.iload 4, 2) := by decide +kernel
theorem d_Draft_isExact_39 : decode b_Draft_isExact 39 = .ok (.iaload, 1) := by decide +kernel
theorem d_Draft_isExact_40 : decode b_Draft_isExact 40 = .ok (.invokestatic 57, 3) := by decide +kernel
theorem d_Draft_isExact_43 : decode b_Draft_isExact 43 = .ok (.ishl, 1) := by decide +kernel
theorem d_Draft_isExact_44 : decode b_Draft_isExact 44 = .ok (.ior, 1) := by decide +kernel
theorem d_Draft_isExact_45 : decode b_Draft_isExact 45 = .ok (.istore_n 3, 1) := by decide +kernel
theorem d_Draft_isExact_46 : decode b_Draft_isExact 46 = .ok (.iinc 4 1, 3) := by decide +kernel
theorem d_Draft_isExact_49 : decode b_Draft_isExact 49 = .ok (.goto (-44), 3) := by decide +kernel
theorem d_Draft_isExact_52 : decode b_Draft_isExact 52 = .ok (.iload_n 3, 1) := by decide +kernel
theorem d_Draft_isExact_53 : decode b_Draft_isExact 53 = .ok (.aload_n 2, 1) := by decide +kernel
theorem d_Draft_isExact_54 : decode b_Draft_isExact 54 = .ok (.iload_n 1, 1) := by decide +kernel
theorem d_Draft_isExact_55 : decode b_Draft_isExact 55 = .ok (.invokestatic 42, 3) := by decide +kernel
theorem d_Draft_isExact_58 : decode b_Draft_isExact 58 = .ok (.iload_n 1, 1) := by decide +kernel
theorem d_Draft_isExact_59 : decode b_Draft_isExact 59 = .ok (.invokestatic 45, 3) := by decide +kernel
theorem d_Draft_isExact_62 : decode b_Draft_isExact 62 = .ok (.invokevirtual 48, 3) := by decide +kernel
theorem d_Draft_isExact_65 : decode b_Draft_isExact 65 = .ok (.if_icmp .ne 7, 3) := by decide +kernel
theorem d_Draft_isExact_68 : decode b_Draft_isExact 68 = .ok (.iconst 1, 1) := by decide +kernel
theorem d_Draft_isExact_69 : decode b_Draft_isExact 69 = .ok (.goto 4, 3) := by decide +kernel
theorem d_Draft_isExact_72 : decode b_Draft_isExact 72 = .ok (.iconst 0, 1) := by decide +kernel
theorem d_Draft_isExact_73 : decode b_Draft_isExact 73 = .ok (.ireturn, 1) := by decide +kernel
theorem d_Draft_unmetNeed_0 : decode b_Draft_unmetNeed 0 = .ok (.iconst 0, 1) := by decide +kernel
theorem d_Draft_unmetNeed_1 : decode b_Draft_unmetNeed 1 = .ok (.istore_n 2, 1) := by decide +kernel
theorem d_Draft_unmetNeed_2 : decode b_Draft_unmetNeed 2 = .ok (.iload_n 2, 1) := by decide +kernel
theorem d_Draft_unmetNeed_3 : decode b_Draft_unmetNeed 3 = .ok (.aload_n 0, 1) := by decide +kernel
theorem d_Draft_unmetNeed_4 : decode b_Draft_unmetNeed 4 = .ok (.getfield 18, 3) := by decide +kernel
theorem d_Draft_unmetNeed_7 : decode b_Draft_unmetNeed 7 = .ok (.if_icmp .ge 26, 3) := by decide +kernel
theorem d_Draft_unmetNeed_10 : decode b_Draft_unmetNeed 10 = .ok (.aload_n 0, 1) := by decide +kernel
theorem d_Draft_unmetNeed_11 : decode b_Draft_unmetNeed 11 = .ok (.getfield 9, 3) := by decide +kernel
theorem d_Draft_unmetNeed_14 : decode b_Draft_unmetNeed 14 = .ok (.iload_n 2, 1) := by decide +kernel
theorem d_Draft_unmetNeed_15 : decode b_Draft_unmetNeed 15 = .ok (.iaload, 1) := by decide +kernel
theorem d_Draft_unmetNeed_16 : decode b_Draft_unmetNeed 16 = .ok (.aload_n 1, 1) := by decide +kernel
theorem d_Draft_unmetNeed_17 : decode b_Draft_unmetNeed 17 = .ok (.invokestatic 30, 3) := by decide +kernel
theorem d_Draft_unmetNeed_20 : decode b_Draft_unmetNeed 20 = .ok (.istore_n 3, 1) := by decide +kernel
theorem d_Draft_unmetNeed_21 : decode b_Draft_unmetNeed 21 = .ok (.iload_n 3, 1) := by decide +kernel
theorem d_Draft_unmetNeed_22 : decode b_Draft_unmetNeed 22 = .ok (.ifCond .eq 5, 3) := by decide +kernel
theorem d_Draft_unmetNeed_25 : decode b_Draft_unmetNeed 25 = .ok (.iload_n 3, 1) := by decide +kernel
theorem d_Draft_unmetNeed_26 : decode b_Draft_unmetNeed 26 = .ok (.ireturn, 1) := by decide +kernel
theorem d_Draft_unmetNeed_27 : decode b_Draft_unmetNeed 27 = .ok (.iinc 2 1, 3) := by decide +kernel
theorem d_Draft_unmetNeed_30 : decode b_Draft_unmetNeed 30 = .ok (.goto (-28), 3) := by decide +kernel
theorem d_Draft_unmetNeed_33 : decode b_Draft_unmetNeed 33 = .ok (.iconst 0, 1) := by decide +kernel
theorem d_Draft_unmetNeed_34 : decode b_Draft_unmetNeed 34 = .ok (.istore_n 2, 1) := by decide +kernel
theorem d_Draft_unmetNeed_35 : decode b_Draft_unmetNeed 35 = .ok (.iload_n 2, 1) := by decide +kernel
theorem d_Draft_unmetNeed_36 : decode b_Draft_unmetNeed 36 = .ok (.aload_n 0, 1) := by decide +kernel
theorem d_Draft_unmetNeed_37 : decode b_Draft_unmetNeed 37 = .ok (.getfield 18, 3) := by decide +kernel
theorem d_Draft_unmetNeed_40 : decode b_Draft_unmetNeed 40 = .ok (.if_icmp .ge 39, 3) := by decide +kernel
theorem d_Draft_unmetNeed_43 : decode b_Draft_unmetNeed 43 = .ok (.aload_n 0, 1) := by decide +kernel
theorem d_Draft_unmetNeed_44 : decode b_Draft_unmetNeed 44 = .ok (.getfield 9, 3) := by decide +kernel
theorem d_Draft_unmetNeed_47 : decode b_Draft_unmetNeed 47 = .ok (.iload_n 2, 1) := by decide +kernel
theorem d_Draft_unmetNeed_48 : decode b_Draft_unmetNeed 48 = .ok (.iaload, 1) := by decide +kernel
theorem d_Draft_unmetNeed_49 : decode b_Draft_unmetNeed 49 = .ok (.invokestatic 34, 3) := by decide +kernel
theorem d_Draft_unmetNeed_52 : decode b_Draft_unmetNeed 52 = .ok (.iconst 3, 1) := by decide +kernel
theorem d_Draft_unmetNeed_53 : decode b_Draft_unmetNeed 53 = .ok (.if_icmp .ne 20, 3) := by decide +kernel
theorem d_Draft_unmetNeed_56 : decode b_Draft_unmetNeed 56 = .ok (.aload_n 0, 1) := by decide +kernel
theorem d_Draft_unmetNeed_57 : decode b_Draft_unmetNeed 57 = .ok (.aload_n 0, 1) := by decide +kernel
theorem d_Draft_unmetNeed_58 : decode b_Draft_unmetNeed 58 = .ok (.getfield 9, 3) := by decide +kernel
theorem d_Draft_unmetNeed_61 : decode b_Draft_unmetNeed 61 = .ok (.iload_n 2, 1) := by decide +kernel
theorem d_Draft_unmetNeed_62 : decode b_Draft_unmetNeed 62 = .ok (.iaload, 1) := by decide +kernel
theorem d_Draft_unmetNeed_63 : decode b_Draft_unmetNeed 63 = .ok (.aload_n 1, 1) := by decide +kernel
theorem d_Draft_unmetNeed_64 : decode b_Draft_unmetNeed 64 = .ok (.invokevirtual 38, 3) := by decide +kernel
theorem d_Draft_unmetNeed_67 : decode b_Draft_unmetNeed 67 = .ok (.ifCond .ne 6, 3) := by decide +kernel
theorem d_Draft_unmetNeed_70 : decode b_Draft_unmetNeed 70 = .ok (.bipush 8, 2) := by decide +kernel
theorem d_Draft_unmetNeed_72 : decode b_Draft_unmetNeed 72 = .ok (.ireturn, 1) := by decide +kernel
theorem d_Draft_unmetNeed_73 : decode b_Draft_unmetNeed 73 = .ok (.iinc 2 1, 3) := by decide +kernel
theorem d_Draft_unmetNeed_76 : decode b_Draft_unmetNeed 76 = .ok (.goto (-41), 3) := by decide +kernel
theorem d_Draft_unmetNeed_79 : decode b_Draft_unmetNeed 79 = .ok (.iconst 0, 1) := by decide +kernel
theorem d_Draft_unmetNeed_80 : decode b_Draft_unmetNeed 80 = .ok (.ireturn, 1) := by decide +kernel
theorem d_ZoneNodes_refusal_0 : decode b_ZoneNodes_refusal 0 = .ok (.aload_n 0, 1) := by decide +kernel
theorem d_ZoneNodes_refusal_1 : decode b_ZoneNodes_refusal 1 = .ok (.iload_n 1, 1) := by decide +kernel
theorem d_ZoneNodes_refusal_2 : decode b_ZoneNodes_refusal 2 = .ok (.invokevirtual 67, 3) := by decide +kernel
theorem d_ZoneNodes_refusal_5 : decode b_ZoneNodes_refusal 5 = .ok (.ifCond .ne 6, 3) := by decide +kernel
theorem d_ZoneNodes_refusal_8 : decode b_ZoneNodes_refusal 8 = .ok (.bipush 17, 2) := by decide +kernel
theorem d_ZoneNodes_refusal_10 : decode b_ZoneNodes_refusal 10 = .ok (.ireturn, 1) := by decide +kernel
theorem d_ZoneNodes_refusal_11 : decode b_ZoneNodes_refusal 11 = .ok (.aload_n 0, 1) := by decide +kernel
theorem d_ZoneNodes_refusal_12 : decode b_ZoneNodes_refusal 12 = .ok (.getfield 20, 3) := by decide +kernel
theorem d_ZoneNodes_refusal_15 : decode b_ZoneNodes_refusal 15 = .ok (.aload_n 0, 1) := by decide +kernel
theorem d_ZoneNodes_refusal_16 : decode b_ZoneNodes_refusal 16 = .ok (.getfield 9, 3) := by decide +kernel
theorem d_ZoneNodes_refusal_19 : decode b_ZoneNodes_refusal 19 = .ok (.iload_n 1, 1) := by decide +kernel
theorem d_ZoneNodes_refusal_20 : decode b_ZoneNodes_refusal 20 = .ok (.iaload, 1) := by decide +kernel
theorem d_ZoneNodes_refusal_21 : decode b_ZoneNodes_refusal 21 = .ok (.iload_n 2, 1) := by decide +kernel
theorem d_ZoneNodes_refusal_22 : decode b_ZoneNodes_refusal 22 = .ok (.invokevirtual 70, 3) := by decide +kernel
theorem d_ZoneNodes_refusal_25 : decode b_ZoneNodes_refusal 25 = .ok (.iload_n 3, 1) := by decide +kernel
theorem d_ZoneNodes_refusal_26 : decode b_ZoneNodes_refusal 26 = .ok (.if_icmp .eq 6, 3) := by decide +kernel
theorem d_ZoneNodes_refusal_29 : decode b_ZoneNodes_refusal 29 = .ok (.bipush 16, 2) := by decide +kernel
theorem d_ZoneNodes_refusal_31 : decode b_ZoneNodes_refusal 31 = .ok (.ireturn, 1) := by decide +kernel
theorem d_ZoneNodes_refusal_32 : decode b_ZoneNodes_refusal 32 = .ok (.iload_n 2, 1) := by decide +kernel
theorem d_ZoneNodes_refusal_33 : decode b_ZoneNodes_refusal 33 = .ok (.i2l, 1) := by decide +kernel
theorem d_ZoneNodes_refusal_34 : decode b_ZoneNodes_refusal 34 = .ok (.aload_n 0, 1) := by decide +kernel
theorem d_ZoneNodes_refusal_35 : decode b_ZoneNodes_refusal 35 = .ok (.getfield 93, 3) := by decide +kernel
theorem d_ZoneNodes_refusal_38 : decode b_ZoneNodes_refusal 38 = .ok (.i2l, 1) := by decide +kernel
theorem d_ZoneNodes_refusal_39 : decode b_ZoneNodes_refusal 39 = .ok (.lsub, 1) := by decide +kernel
theorem d_ZoneNodes_refusal_40 : decode b_ZoneNodes_refusal 40 = .ok (.lstore 4, 2) := by decide +kernel
theorem d_ZoneNodes_refusal_42 : decode b_ZoneNodes_refusal 42 = .ok (.lload 4, 2) := by decide +kernel
theorem d_ZoneNodes_refusal_44 : decode b_ZoneNodes_refusal 44 = .ok (.ldc2_w 205, 3) := by decide +kernel
theorem d_ZoneNodes_refusal_47 : decode b_ZoneNodes_refusal 47 = .ok (.lcmp, 1) := by decide +kernel
theorem d_ZoneNodes_refusal_48 : decode b_ZoneNodes_refusal 48 = .ok (.ifCond .gt 12, 3) := by decide +kernel
theorem d_ZoneNodes_refusal_51 : decode b_ZoneNodes_refusal 51 = .ok (.lload 4, 2) := by decide +kernel
theorem d_ZoneNodes_refusal_53 : decode b_ZoneNodes_refusal 53 = .ok (.ldc2_w 207, 3) := by decide +kernel
theorem d_ZoneNodes_refusal_56 : decode b_ZoneNodes_refusal 56 = .ok (.lcmp, 1) := by decide +kernel
theorem d_ZoneNodes_refusal_57 : decode b_ZoneNodes_refusal 57 = .ok (.ifCond .ge 6, 3) := by decide +kernel
theorem d_ZoneNodes_refusal_60 : decode b_ZoneNodes_refusal 60 = .ok (.bipush 18, 2) := by decide +kernel
theorem d_ZoneNodes_refusal_62 : decode b_ZoneNodes_refusal 62 = .ok (.ireturn, 1) := by decide +kernel
theorem d_ZoneNodes_refusal_63 : decode b_ZoneNodes_refusal 63 = .ok (.aload_n 0, 1) := by decide +kernel
theorem d_ZoneNodes_refusal_64 : decode b_ZoneNodes_refusal 64 = .ok (.getfield 20, 3) := by decide +kernel
theorem d_ZoneNodes_refusal_67 : decode b_ZoneNodes_refusal 67 = .ok (.aload_n 0, 1) := by decide +kernel
theorem d_ZoneNodes_refusal_68 : decode b_ZoneNodes_refusal 68 = .ok (.getfield 46, 3) := by decide +kernel
theorem d_ZoneNodes_refusal_71 : decode b_ZoneNodes_refusal 71 = .ok (.getfield 197, 3) := by decide +kernel
theorem d_ZoneNodes_refusal_74 : decode b_ZoneNodes_refusal 74 = .ok (.invokevirtual 209, 3) := by decide +kernel
theorem d_ZoneNodes_refusal_77 : decode b_ZoneNodes_refusal 77 = .ok (.ireturn, 1) := by decide +kernel
theorem d_Journal_dropLatest_0 : decode b_Journal_dropLatest 0 = .ok (.aload_n 0, 1) := by decide +kernel
theorem d_Journal_dropLatest_1 : decode b_Journal_dropLatest 1 = .ok (.getfield 18, 3) := by decide +kernel
theorem d_Journal_dropLatest_4 : decode b_Journal_dropLatest 4 = .ok (.ifCond .le 13, 3) := by decide +kernel
theorem d_Journal_dropLatest_7 : decode b_Journal_dropLatest 7 = .ok (.aload_n 0, 1) := by decide +kernel
theorem d_Journal_dropLatest_8 : decode b_Journal_dropLatest 8 = .ok (.dup, 1) := by decide +kernel
theorem d_Journal_dropLatest_9 : decode b_Journal_dropLatest 9 = .ok (.getfield 18, 3) := by decide +kernel
theorem d_Journal_dropLatest_12 : decode b_Journal_dropLatest 12 = .ok (.iconst 1, 1) := by decide +kernel
theorem d_Journal_dropLatest_13 : decode b_Journal_dropLatest 13 = .ok (.isub, 1) := by decide +kernel
theorem d_Journal_dropLatest_14 : decode b_Journal_dropLatest 14 = .ok (.putfield 18, 3) := by decide +kernel
theorem d_Journal_dropLatest_17 : decode b_Journal_dropLatest 17 = .ok (.return_, 1) := by decide +kernel
theorem d_Primary_comeUp_0 : decode b_Primary_comeUp 0 = .ok (.aload_n 0, 1) := by decide +kernel
theorem d_Primary_comeUp_1 : decode b_Primary_comeUp 1 = .ok (.iconst 1, 1) := by decide +kernel
theorem d_Primary_comeUp_2 : decode b_Primary_comeUp 2 = .ok (.putfield 32, 3) := by decide +kernel
theorem d_Primary_comeUp_5 : decode b_Primary_comeUp 5 = .ok (.aload_n 0, 1) := by decide +kernel
theorem d_Primary_comeUp_6 : decode b_Primary_comeUp 6 = .ok (.getfield 24, 3) := by decide +kernel
theorem d_Primary_comeUp_9 : decode b_Primary_comeUp 9 = .ok (.invokevirtual 61, 3) := by decide +kernel
theorem d_Primary_comeUp_12 : decode b_Primary_comeUp 12 = .ok (.astore_n 1, 1) := by decide +kernel
theorem d_Primary_comeUp_13 : decode b_Primary_comeUp 13 = .ok (.aload_n 1, 1) := by decide +kernel
theorem d_Primary_comeUp_14 : decode b_Primary_comeUp 14 = .ok (.ifnull 14, 3) := by decide +kernel
theorem d_Primary_comeUp_17 : decode b_Primary_comeUp 17 = .ok (.aload_n 1, 1) := by decide +kernel
theorem d_Primary_comeUp_18 : decode b_Primary_comeUp 18 = .ok (.getfield 77, 3) := by decide +kernel
theorem d_Primary_comeUp_21 : decode b_Primary_comeUp 21 = .ok (.aload_n 0, 1) := by decide +kernel
theorem d_Primary_comeUp_22 : decode b_Primary_comeUp 22 = .ok (.getfield 36, 3) := by decide +kernel
theorem d_Primary_comeUp_25 : decode b_Primary_comeUp 25 = .ok (.if_icmp .eq 4, 3) := by decide +kernel
theorem d_Primary_comeUp_28 : decode b_Primary_comeUp 28 = .ok (.return_, 1) := by decide +kernel
theorem d_Primary_comeUp_29 : decode b_Primary_comeUp 29 = .ok (.aload_n 1, 1) := by decide +kernel
theorem d_Primary_comeUp_30 : decode b_Primary_comeUp 30 = .ok (.getfield 83, 3) := by decide +kernel
theorem d_Primary_comeUp_33 : decode b_Primary_comeUp 33 = .ok (.ifCond .eq 10, 3) := by decide +kernel
theorem d_Primary_comeUp_36 : decode b_Primary_comeUp 36 = .ok (.aload_n 0, 1) := by decide +kernel
theorem d_Primary_comeUp_37 : decode b_Primary_comeUp 37 = .ok (.invokevirtual 58, 3) := by decide +kernel
theorem d_Primary_comeUp_40 : decode b_Primary_comeUp 40 = .ok (.goto 10, 3) := by decide +kernel
theorem d_Primary_comeUp_43 : decode b_Primary_comeUp 43 = .ok (.aload_n 0, 1) := by decide +kernel
theorem d_Primary_comeUp_44 : decode b_Primary_comeUp 44 = .ok (.getfield 24, 3) := by decide +kernel
theorem d_Primary_comeUp_47 : decode b_Primary_comeUp 47 = .ok (.invokevirtual 86, 3) := by decide +kernel
theorem d_Primary_comeUp_50 : decode b_Primary_comeUp 50 = .ok (.return_, 1) := by decide +kernel
theorem d_ZoneNodes_restart_0 : decode b_ZoneNodes_restart 0 = .ok (.iload_n 1, 1) := by decide +kernel
theorem d_ZoneNodes_restart_1 : decode b_ZoneNodes_restart 1 = .ok (.invokestatic 133, 3) := by decide +kernel
theorem d_ZoneNodes_restart_4 : decode b_ZoneNodes_restart 4 = .ok (.ifCond .eq 11, 3) := by decide +kernel
theorem d_ZoneNodes_restart_7 : decode b_ZoneNodes_restart 7 = .ok (.aload_n 0, 1) := by decide +kernel
theorem d_ZoneNodes_restart_8 : decode b_ZoneNodes_restart 8 = .ok (.iload_n 1, 1) := by decide +kernel
theorem d_ZoneNodes_restart_9 : decode b_ZoneNodes_restart 9 = .ok (.invokevirtual 136, 3) := by decide +kernel
theorem d_ZoneNodes_restart_12 : decode b_ZoneNodes_restart 12 = .ok (.ifCond .eq 5, 3) := by decide +kernel
theorem d_ZoneNodes_restart_15 : decode b_ZoneNodes_restart 15 = .ok (.iconst 0, 1) := by decide +kernel
theorem d_ZoneNodes_restart_16 : decode b_ZoneNodes_restart 16 = .ok (.ireturn, 1) := by decide +kernel
theorem d_ZoneNodes_restart_17 : decode b_ZoneNodes_restart 17 = .ok (.iload_n 1, 1) := by decide +kernel
theorem d_ZoneNodes_restart_18 : decode b_ZoneNodes_restart 18 = .ok (.ifCond .ne 17, 3) := by decide +kernel
theorem d_ZoneNodes_restart_21 : decode b_ZoneNodes_restart 21 = .ok (.aload_n 0, 1) := by decide +kernel
theorem d_ZoneNodes_restart_22 : decode b_ZoneNodes_restart 22 = .ok (.getfield 46, 3) := by decide +kernel
theorem d_ZoneNodes_restart_25 : decode b_ZoneNodes_restart 25 = .ok (.invokevirtual 146, 3) := by decide +kernel
theorem d_ZoneNodes_restart_28 : decode b_ZoneNodes_restart 28 = .ok (.aload_n 0, 1) := by decide +kernel
theorem d_ZoneNodes_restart_29 : decode b_ZoneNodes_restart 29 = .ok (.invokevirtual 149, 3) := by decide +kernel
