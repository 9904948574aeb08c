theorem d_ZoneNodes_within_0 : decode b_ZoneNodes_within 0 = .ok (.iload_n 0, 1) := by decide +kernel
theorem d_ZoneNodes_within_1 : decode b_ZoneNodes_within 1 = .ok (.iload_n 1, 1) := by decide +kernel
theorem d_ZoneNodes_within_2 : decode b_ZoneNodes_within 2 = .ok (.if_icmp .lt 12, 3) := by decide +kernel
theorem d_ZoneNodes_within_5 : decode b_ZoneNodes_within 5 = .ok (.iload_n 0, 1) := by decide +kernel
theorem d_ZoneNodes_within_6 : decode b_ZoneNodes_within 6 = .ok (.iload_n 2, 1) := by decide +kernel
theorem d_ZoneNodes_within_7 : decode b_ZoneNodes_within 7 = .ok (.if_icmp .gt 7, 3) := by decide +kernel
theorem d_ZoneNodes_within_10 : decode b_ZoneNodes_within 10 = .ok (.iconst 1, 1) := by decide +kernel
theorem d_ZoneNodes_within_11 : decode b_ZoneNodes_within 11 = .ok (.goto 4, 3) := by decide +kernel
theorem d_ZoneNodes_within_14 : decode b_ZoneNodes_within 14 = .ok (.iconst 0, 1) := by decide +kernel
theorem d_ZoneNodes_within_15 : decode b_ZoneNodes_within 15 = .ok (.ireturn, 1) := by decide +kernel
theorem d_Draft_init_0 : decode b_Draft_init 0 = .ok (.aload_n 0, 1) := by decide +kernel
theorem d_Draft_init_1 : decode b_Draft_init 1 = .ok (.invokespecial 3, 3) := by decide +kernel
theorem d_Draft_init_4 : decode b_Draft_init 4 = .ok (.aload_n 0, 1) := by decide +kernel
theorem d_Draft_init_5 : decode b_Draft_init 5 = .ok (.iconst 4, 1) := by decide +kernel
theorem d_Draft_init_6 : decode b_Draft_init 6 = .ok (.newarray .int, 2) := by decide +kernel
theorem d_Draft_init_8 : decode b_Draft_init 8 = .ok (.putfield 9, 3) := by decide +kernel
theorem d_Draft_init_11 : decode b_Draft_init 11 = .ok (.aload_n 0, 1) := by decide +kernel
theorem d_Draft_init_12 : decode b_Draft_init 12 = .ok (.iconst 4, 1) := by decide +kernel
theorem d_Draft_init_13 : decode b_Draft_init 13 = .ok (.newarray .int, 2) := by decide +kernel
theorem d_Draft_init_15 : decode b_Draft_init 15 = .ok (.putfield 15, 3) := by decide +kernel
theorem d_Draft_init_18 : decode b_Draft_init 18 = .ok (.return_, 1) := by decide +kernel
theorem d_Records_init_0 : decode b_Records_init 0 = .ok (.aload_n 0, 1) := by decide +kernel
theorem d_Records_init_1 : decode b_Records_init 1 = .ok (.invokespecial 3, 3) := by decide +kernel
theorem d_Records_init_4 : decode b_Records_init 4 = .ok (.aload_n 0, 1) := by decide +kernel
theorem d_Records_init_5 : decode b_Records_init 5 = .ok (.bipush 32, 2) := by decide +kernel
theorem d_Records_init_7 : decode b_Records_init 7 = .ok (.newarray .int, 2) := by decide +kernel
theorem d_Records_init_9 : decode b_Records_init 9 = .ok (.putfield 9, 3) := by decide +kernel
theorem d_Records_init_12 : decode b_Records_init 12 = .ok (.return_, 1) := by decide +kernel
theorem d_Entry_init_0 : decode b_Entry_init 0 = .ok (.aload_n 0, 1) := by decide +kernel
theorem d_Entry_init_1 : decode b_Entry_init 1 = .ok (.invokespecial 1, 3) := by decide +kernel
theorem d_Entry_init_4 : decode b_Entry_init 4 = .ok (.aload_n 0, 1) := by decide +kernel
theorem d_Entry_init_5 : decode b_Entry_init 5 = .ok (.new 7, 3) := by decide +kernel
theorem d_Entry_init_8 : decode b_Entry_init 8 = .ok (.dup, 1) := by decide +kernel
theorem d_Entry_init_9 : decode b_Entry_init 9 = .ok (.invokespecial 9, 3) := by decide +kernel
theorem d_Entry_init_12 : decode b_Entry_init 12 = .ok (.putfield 10, 3) := by decide +kernel
theorem d_Entry_init_15 : decode b_Entry_init 15 = .ok (.aload_n 0, 1) := by decide +kernel
theorem d_Entry_init_16 : decode b_Entry_init 16 = .ok (.new 7, 3) := by decide +kernel
theorem d_Entry_init_19 : decode b_Entry_init 19 = .ok (.dup, 1) := by decide +kernel
theorem d_Entry_init_20 : decode b_Entry_init 20 = .ok (.invokespecial 9, 3) := by decide +kernel
theorem d_Entry_init_23 : decode b_Entry_init 23 = .ok (.putfield 16, 3) := by decide +kernel
theorem d_Entry_init_26 : decode b_Entry_init 26 = .ok (.return_, 1) := by decide +kernel
theorem d_Journal_init_0 : decode b_Journal_init 0 = .ok (.aload_n 0, 1) := by decide +kernel
theorem d_Journal_init_1 : decode b_Journal_init 1 = .ok (.invokespecial 3, 3) := by decide +kernel
theorem d_Journal_init_4 : decode b_Journal_init 4 = .ok (.aload_n 0, 1) := by decide +kernel
theorem d_Journal_init_5 : decode b_Journal_init 5 = .ok (.iconst 5, 1) := by decide +kernel
theorem d_Journal_init_6 : decode b_Journal_init 6 = .ok (.anewarray 9, 3) := by decide +kernel
theorem d_Journal_init_9 : decode b_Journal_init 9 = .ok (.putfield 11, 3) := by decide +kernel
theorem d_Journal_init_12 : decode b_Journal_init 12 = .ok (.iconst 0, 1) := by decide +kernel
theorem d_Journal_init_13 : decode b_Journal_init 13 = .ok (.istore_n 1, 1) := by decide +kernel
theorem d_Journal_init_14 : decode b_Journal_init 14 = .ok (.iload_n 1, 1) := by decide +kernel
theorem d_Journal_init_15 : decode b_Journal_init 15 = .ok (.aload_n 0, 1) := by decide +kernel
theorem d_Journal_init_16 : decode b_Journal_init 16 = .ok (.getfield 11, 3) := by decide +kernel
theorem d_Journal_init_19 : decode b_Journal_init 19 = .ok (.arraylength, 1) := by decide +kernel
theorem d_Journal_init_20 : decode b_Journal_init 20 = .ok (.if_icmp .ge 22, 3) := by decide +kernel
theorem d_Journal_init_23 : decode b_Journal_init 23 = .ok (.aload_n 0, 1) := by decide +kernel
theorem d_Journal_init_24 : decode b_Journal_init 24 = .ok (.getfield 11, 3) := by decide +kernel
theorem d_Journal_init_27 : decode b_Journal_init 27 = .ok (.iload_n 1, 1) := by decide +kernel
theorem d_Journal_init_28 : decode b_Journal_init 28 = .ok (.new 9, 3) := by decide +kernel
theorem d_Journal_init_31 : decode b_Journal_init 31 = .ok (.dup, 1) := by decide +kernel
theorem d_Journal_init_32 : decode b_Journal_init 32 = .ok (.invokespecial 17, 3) := by decide +kernel
theorem d_Journal_init_35 : decode b_Journal_init 35 = .ok (.aastore, 1) := by decide +kernel
theorem d_Journal_init_36 : decode b_Journal_init 36 = .ok (.iinc 1 1, 3) := by decide +kernel
theorem d_Journal_init_39 : decode b_Journal_init 39 = .ok (.goto (-25), 3) := by decide +kernel
theorem d_Journal_init_42 : decode b_Journal_init 42 = .ok (.return_, 1) := by decide +kernel
theorem d_Records_setValues_0 : decode b_Records_setValues 0 = .ok (.aload_n 0, 1) := by decide +kernel
theorem d_Records_setValues_1 : decode b_Records_setValues 1 = .ok (.getfield 9, 3) := by decide +kernel
theorem d_Records_setValues_4 : decode b_Records_setValues 4 = .ok (.iconst 4, 1) := by decide +kernel
theorem d_Records_setValues_5 : decode b_Records_setValues 5 = .ok (.iload_n 1, 1) := by decide +kernel
theorem d_Records_setValues_6 : decode b_Records_setValues 6 = .ok (.imul, 1) := by decide +kernel
theorem d_Records_setValues_7 : decode b_Records_setValues 7 = .ok (.iload_n 2, 1) := by decide +kernel
theorem d_Records_setValues_8 : decode b_Records_setValues 8 = .ok (.iadd, 1) := by decide +kernel
theorem d_Records_setValues_9 : decode b_Records_setValues 9 = .ok (.iconst 1, 1) := by decide +kernel
theorem d_Records_setValues_10 : decode b_Records_setValues 10 = .ok (.isub, 1) := by decide +kernel
theorem d_Records_setValues_11 : decode b_Records_setValues 11 = .ok (.iload_n 3, 1) := by decide +kernel
theorem d_Records_setValues_12 : decode b_Records_setValues 12 = .ok (.iastore, 1) := by decide +kernel
theorem d_Records_setValues_13 : decode b_Records_setValues 13 = .ok (.return_, 1) := by decide +kernel
theorem d_Records_valuesOf_0 : decode b_Records_valuesOf 0 = .ok (.aload_n 0, 1) := by decide +kernel
theorem d_Records_valuesOf_1 : decode b_Records_valuesOf 1 = .ok (.getfield 9, 3) := by decide +kernel
theorem d_Records_valuesOf_4 : decode b_Records_valuesOf 4 = .ok (.iconst 4, 1) := by decide +kernel
theorem d_Records_valuesOf_5 : decode b_Records_valuesOf 5 = .ok (.iload_n 1, 1) := by decide +kernel
theorem d_Records_valuesOf_6 : decode b_Records_valuesOf 6 = .ok (.imul, 1) := by decide +kernel
theorem d_Records_valuesOf_7 : decode b_Records_valuesOf 7 = .ok (.iload_n 2, 1) := by decide +kernel
theorem d_Records_valuesOf_8 : decode b_Records_valuesOf 8 = .ok (.iadd, 1) := by decide +kernel
theorem d_Records_valuesOf_9 : decode b_Records_valuesOf 9 = .ok (.iconst 1, 1) := by decide +kernel
theorem d_Records_valuesOf_10 : decode b_Records_valuesOf 10 = .ok (.isub, 1) := by decide +kernel
theorem d_Records_valuesOf_11 : decode b_Records_valuesOf 11 = .ok (.iaload, 1) := by decide +kernel
theorem d_Records_valuesOf_12 : decode b_Records_valuesOf 12 = .ok (.ireturn, 1) := by decide +kernel
theorem d_Records_put_0 : decode b_Records_put 0 = .ok (.aload_n 0, 1) := by decide +kernel
theorem d_Records_put_1 : decode b_Records_put 1 = .ok (.iload_n 1, 1) := by decide +kernel
theorem d_Records_put_2 : decode b_Records_put 2 = .ok (.iload_n 2, 1) := by decide +kernel
theorem d_Records_put_3 : decode b_Records_put 3 = .ok (.aload_n 0, 1) := by decide +kernel
theorem d_Records_put_4 : decode b_Records_put 4 = .ok (.iload_n 1, 1) := by decide +kernel
theorem d_Records_put_5 : decode b_Records_put 5 = .ok (.iload_n 2, 1) := by decide +kernel
theorem d_Records_put_6 : decode b_Records_put 6 = .ok (.invokevirtual 15, 3) := by decide +kernel
theorem d_Records_put_9 : decode b_Records_put 9 = .ok (.iconst 1, 1) := by decide +kernel
theorem d_Records_put_10 : decode b_Records_put 10 = .ok (.iload_n 3, 1) := by decide +kernel
theorem d_Records_put_11 : decode b_Records_put 11 = .ok (.ishl, 1) := by decide +kernel
theorem d_Records_put_12 : decode b_Records_put 12 = .ok (.ior, 1) := by decide +kernel
theorem d_Records_put_13 : decode b_Records_put 13 = .ok (.invokevirtual 33, 3) := by decide +kernel
theorem d_Records_put_16 : decode b_Records_put 16 = .ok (.return_, 1) := by decide +kernel
theorem d_Primary_init_0 : decode b_Primary_init 0 = .ok (.aload_n 0, 1) := by decide +kernel
theorem d_Primary_init_1 : decode b_Primary_init 1 = .ok (.invokespecial 3, 3) := by decide +kernel
theorem d_Primary_init_4 : decode b_Primary_init 4 = .ok (.aload_n 0, 1) := by decide +kernel
theorem d_Primary_init_5 : decode b_Primary_init 5 = .ok (.new 9, 3) := by decide +kernel
theorem d_Primary_init_8 : decode b_Primary_init 8 = .ok (.dup, 1) := by decide +kernel
theorem d_Primary_init_9 : decode b_Primary_init 9 = .ok (.invokespecial 11, 3) := by decide +kernel
theorem d_Primary_init_12 : decode b_Primary_init 12 = .ok (.putfield 12, 3) := by decide +kernel
theorem d_Primary_init_15 : decode b_Primary_init 15 = .ok (.aload_n 0, 1) := by decide +kernel
theorem d_Primary_init_16 : decode b_Primary_init 16 = .ok (.new 9, 3) := by decide +kernel
theorem d_Primary_init_19 : decode b_Primary_init 19 = .ok (.dup, 1) := by decide +kernel
theorem d_Primary_init_20 : decode b_Primary_init 20 = .ok (.invokespecial 11, 3) := by decide +kernel
theorem d_Primary_init_23 : decode b_Primary_init 23 = .ok (.putfield 18, 3) := by decide +kernel
theorem d_Primary_init_26 : decode b_Primary_init 26 = .ok (.aload_n 0, 1) := by decide +kernel
theorem d_Primary_init_27 : decode b_Primary_init 27 = .ok (.new 21, 3) := by decide +kernel
theorem d_Primary_init_30 : decode b_Primary_init 30 = .ok (.dup, 1) := by decide +kernel
theorem d_Primary_init_31 : decode b_Primary_init 31 = .ok (.invokespecial 23, 3) := by decide +kernel
theorem d_Primary_init_34 : decode b_Primary_init 34 = .ok (.putfield 24, 3) := by decide +kernel
theorem d_Primary_init_37 : decode b_Primary_init 37 = .ok (.aload_n 0, 1) := by decide +kernel
theorem d_Primary_init_38 : decode b_Primary_init 38 = .ok (.bipush 112, 2) := by decide +kernel
theorem d_Primary_init_40 : decode b_Primary_init 40 = .ok (.newarray .int, 2) := by decide +kernel
theorem d_Primary_init_42 : decode b_Primary_init 42 = .ok (.putfield 28, 3) := by decide +kernel
theorem d_Primary_init_45 : decode b_Primary_init 45 = .ok (.aload_n 0, 1) := by decide +kernel
theorem d_Primary_init_46 : decode b_Primary_init 46 = .ok (.iconst 1, 1) := by decide +kernel
theorem d_Primary_init_47 : decode b_Primary_init 47 = .ok (.putfield 32, 3) := by decide +kernel
theorem d_Primary_init_50 : decode b_Primary_init 50 = .ok (.aload_n 0, 1) := by decide +kernel
theorem d_Primary_init_51 : decode b_Primary_init 51 = .ok (.iload_n 1, 1) := by decide +kernel
theorem d_Primary_init_52 : decode b_Primary_init 52 = .ok (.putfield 36, 3) := by decide +kernel
theorem d_Primary_init_55 : decode b_Primary_init 55 = .ok (.aload_n 0, 1) := by decide +kernel
theorem d_Primary_init_56 : decode b_Primary_init 56 = .ok (.getfield 12, 3) := by decide +kernel
theorem d_Primary_init_59 : decode b_Primary_init 59 = .ok (.iconst 0, 1) := by decide +kernel
theorem d_Primary_init_60 : decode b_Primary_init 60 = .ok (.iconst 3, 1) := by decide +kernel
theorem d_Primary_init_61 : decode b_Primary_init 61 = .ok (.iconst 1, 1) := by decide +kernel
theorem d_Primary_init_62 : decode b_Primary_init 62 = .ok (.invokevirtual 40, 3) := by decide +kernel
theorem d_Primary_init_65 : decode b_Primary_init 65 = .ok (.return_, 1) := by decide +kernel
theorem d_Secondary_rest_0 : decode b_Secondary_rest 0 = .ok (.aload_n 0, 1) := by decide +kernel
theorem d_Secondary_rest_1 : decode b_Secondary_rest 1 = .ok (.iconst 0, 1) := by decide +kernel
theorem d_Secondary_rest_2 : decode b_Secondary_rest 2 = .ok (.putfield 48, 3) := by decide +kernel
theorem d_Secondary_rest_5 : decode b_Secondary_rest 5 = .ok (.aload_n 0, 1) := by decide +kernel
theorem d_Secondary_rest_6 : decode b_Secondary_rest 6 = .ok (.iload_n 1, 1) := by decide +kernel
theorem d_Secondary_rest_7 : decode b_Secondary_rest 7 = .ok (.putfield 54, 3) := by decide +kernel
theorem d_Secondary_rest_10 : decode b_Secondary_rest 10 = .ok (.return_, 1) := by decide +kernel
theorem d_Secondary_comeUp_0 : decode b_Secondary_comeUp 0 = .ok (.aload_n 0, 1) := by decide +kernel
theorem d_Secondary_comeUp_1 : decode b_Secondary_comeUp 1 = .ok (.iconst 1, 1) := by decide +kernel
theorem d_Secondary_comeUp_2 : decode b_Secondary_comeUp 2 = .ok (.putfield 38, 3) := by decide +kernel
theorem d_Secondary_comeUp_5 : decode b_Secondary_comeUp 5 = .ok (.aload_n 0, 1) := by decide +kernel
theorem d_Secondary_comeUp_6 : decode b_Secondary_comeUp 6 = .ok (.iload_n 1, 1) := by decide +kernel
theorem d_Secondary_comeUp_7 : decode b_Secondary_comeUp 7 = .ok (.iconst 1, 1) := by decide +kernel
theorem d_Secondary_comeUp_8 : decode b_Secondary_comeUp 8 = .ok (.iadd, 1) := by decide +kernel
theorem d_Secondary_comeUp_9 : decode b_Secondary_comeUp 9 = .ok (.invokevirtual 42, 3) := by decide +kernel
theorem d_Secondary_comeUp_12 : decode b_Secondary_comeUp 12 = .ok (.aload_n 0, 1) := by decide +kernel
theorem d_Secondary_comeUp_13 : decode b_Secondary_comeUp 13 = .ok (.iload_n 1, 1) := by decide +kernel
theorem d_Secondary_comeUp_14 : decode b_Secondary_comeUp 14 = .ok (.aload_n 0, 1) := by decide +kernel
theorem d_Secondary_comeUp_15 : decode b_Secondary_comeUp 15 = .ok (.getfield 31, 3) := by decide +kernel
theorem d_Secondary_comeUp_18 : decode b_Secondary_comeUp 18 = .ok (.iadd, 1) := by decide +kernel
theorem d_Secondary_comeUp_19 : decode b_Secondary_comeUp 19 = .ok (.putfield 45, 3) := by decide +kernel
theorem d_Secondary_comeUp_22 : decode b_Secondary_comeUp 22 = .ok (.return_, 1) := by decide +kernel
theorem d_Secondary_init_0 : decode b_Secondary_init 0 = .ok (.aload_n 0, 1) := by decide +kernel
theorem d_Secondary_init_1 : decode b_Secondary_init 1 = .ok (.invokespecial 3, 3) := by decide +kernel
theorem d_Secondary_init_4 : decode b_Secondary_init 4 = .ok (.aload_n 0, 1) := by decide +kernel
theorem d_Secondary_init_5 : decode b_Secondary_init 5 = .ok (.new 9, 3) := by decide +kernel
theorem d_Secondary_init_8 : decode b_Secondary_init 8 = .ok (.dup, 1) := by decide +kernel
theorem d_Secondary_init_9 : decode b_Secondary_init 9 = .ok (.invokespecial 11, 3) := by decide +kernel
theorem d_Secondary_init_12 : decode b_Secondary_init 12 = .ok (.putfield 12, 3) := by decide +kernel
theorem d_Secondary_init_15 : decode b_Secondary_init 15 = .ok (.aload_n 0, 1) := by decide +kernel
theorem d_Secondary_init_16 : decode b_Secondary_init 16 = .ok (.new 9, 3) := by decide +kernel
theorem d_Secondary_init_19 : decode b_Secondary_init 19 = .ok (.dup, 1) := by decide +kernel
theorem d_Secondary_init_20 : decode b_Secondary_init 20 = .ok (.invokespecial 11, 3) := by decide +kernel
theorem d_Secondary_init_23 : decode b_Secondary_init 23 = .ok (.putfield 18, 3) := by decide +kernel
theorem d_Secondary_init_26 : decode b_Secondary_init 26 = .ok (.aload_n 0, 1) := by decide +kernel
theorem d_Secondary_init_27 : decode b_Secondary_init 27 = .ok (.iload_n 1, 1) := by decide +kernel
theorem d_Secondary_init_28 : decode b_Secondary_init 28 = .ok (.putfield 21, 3) := by decide +kernel
theorem d_Secondary_init_31 : decode b_Secondary_init 31 = .ok (.aload_n 0, 1) := by decide +kernel
theorem d_Secondary_init_32 : decode b_Secondary_init 32 = .ok (.iload_n 2, 1) := by decide +kernel
theorem d_Secondary_init_33 : decode b_Secondary_init 33 = .ok (.putfield 25, 3) := by decide +kernel
theorem d_Secondary_init_36 : decode b_Secondary_init 36 = .ok (.aload_n 0, 1) := by decide +kernel
theorem d_Secondary_init_37 : decode b_Secondary_init 37 = .ok (.iload_n 3, 1) := by decide +kernel
theorem d_Secondary_init_38 : decode b_Secondary_init 38 = .ok (.putfield 28, 3) := by decide +kernel
theorem d_Secondary_init_41 : decode b_Secondary_init 41 = .ok (.aload_n 0, 1) := by decide +kernel
theorem d_Secondary_init_42 : decode b_Secondary_init 42 = .ok (.iload 4, 2) := by decide +kernel
theorem d_Secondary_init_44 : decode b_Secondary_init 44 = .ok (.putfield 31, 3) := by decide +kernel
theorem d_Secondary_init_47 : decode b_Secondary_init 47 = .ok (.aload_n 0, 1) := by decide +kernel
theorem d_Secondary_init_48 : decode b_Secondary_init 48 = .ok (.iconst 0, 1) := by decide +kernel
theorem d_Secondary_init_49 : decode b_Secondary_init 49 = .ok (.invokevirtual 34, 3) := by decide +kernel
theorem d_Secondary_init_52 : decode b_Secondary_init 52 = .ok (.return_, 1) := by decide +kernel
theorem d_Message_init_0 : decode b_Message_init 0 = .ok (.aload_n 0, 1) := by decide +kernel
theorem d_Message_init_1 : decode b_Message_init 1 = .ok (.invokespecial 3, 3) := by decide +kernel
theorem d_Message_init_4 : decode b_Message_init 4 = .ok (.aload_n 0, 1) := by decide +kernel
theorem d_Message_init_5 : decode b_Message_init 5 = .ok (.iconst 4, 1) := by decide +kernel
theorem d_Message_init_6 : decode b_Message_init 6 = .ok (.newarray .int, 2) := by decide +kernel
theorem d_Message_init_8 : decode b_Message_init 8 = .ok (.putfield 9, 3) := by decide +kernel
theorem d_Message_init_11 : decode b_Message_init 11 = .ok (.return_, 1) := by decide +kernel
theorem d_Wire_init_0 : decode b_Wire_init 0 = .ok (.aload_n 0, 1) := by decide +kernel
theorem d_Wire_init_1 : decode b_Wire_init 1 = .ok (.invokespecial 3, 3) := by decide +kernel
theorem d_Wire_init_4 : decode b_Wire_init 4 = .ok (.aload_n 0, 1) := by decide +kernel
theorem d_Wire_init_5 : decode b_Wire_init 5 = .ok (.bipush 80, 2) := by decide +kernel
theorem d_Wire_init_7 : decode b_Wire_init 7 = .ok (.anewarray 9, 3) := by decide +kernel
theorem d_Wire_init_10 : decode b_Wire_init 10 = .ok (.putfield 11, 3) := by decide +kernel
theorem d_Wire_init_13 : decode b_Wire_init 13 = .ok (.iconst 0, 1) := by decide +kernel
theorem d_Wire_init_14 : decode b_Wire_init 14 = .ok (.istore_n 1, 1) := by decide +kernel
theorem d_Wire_init_15 : decode b_Wire_init 15 = .ok (.iload_n 1, 1) := by decide +kernel
theorem d_Wire_init_16 : decode b_Wire_init 16 = .ok (.aload_n 0, 1) := by decide +kernel
theorem d_Wire_init_17 : decode b_Wire_init 17 = .ok (.getfield 11, 3) := by decide +kernel
theorem d_Wire_init_20 : decode b_Wire_init 20 = .ok (.arraylength, 1) := by decide +kernel
theorem d_Wire_init_21 : decode b_Wire_init 21 = .ok (.if_icmp .ge 22, 3) := by decide +kernel
theorem d_Wire_init_24 : decode b_Wire_init 24 = .ok (.aload_n 0, 1) := by decide +kernel
theorem d_Wire_init_25 : decode b_Wire_init 25 = .ok (.getfield 11, 3) := by decide +kernel
theorem d_Wire_init_28 : decode b_Wire_init 28 = .ok (.iload_n 1, 1) := by decide +kernel
theorem d_Wire_init_29 : decode b_Wire_init 29 = .ok (.new 9, 3) := by decide +kernel
theorem d_Wire_init_32 : decode b_Wire_init 32 = .ok (.dup, 1) := by decide +kernel
theorem d_Wire_init_33 : decode b_Wire_init 33 = .ok (.invokespecial 17, 3) := by decide +kernel
theorem d_Wire_init_36 : decode b_Wire_init 36 = .ok (.aastore, 1) := by decide +kernel
theorem d_Wire_init_37 : decode b_Wire_init 37 = .ok (.iinc 1 1, 3) := by decide +kernel
theorem d_Wire_init_40 : decode b_Wire_init 40 = .ok (.goto (-25), 3) := by decide +kernel
theorem d_Wire_init_43 : decode b_Wire_init 43 = .ok (.return_, 1) := by decide +kernel
theorem d_ZoneNodes_init_0 : decode b_ZoneNodes_init 0 = .ok (.aload_n 0, 1) := by decide +kernel
theorem d_ZoneNodes_init_1 : decode b_ZoneNodes_init 1 = .ok (.invokespecial 3, 3) := by decide +kernel
theorem d_ZoneNodes_init_4 : decode b_ZoneNodes_init 4 = .ok (.aload_n 0, 1) := by decide +kernel
theorem d_ZoneNodes_init_5 : decode b_ZoneNodes_init 5 = .ok (.iconst 3, 1) := by decide +kernel
theorem d_ZoneNodes_init_6 : decode b_ZoneNodes_init 6 = .ok (.newarray .int, 2) := by decide +kernel
theorem d_ZoneNodes_init_8 : decode b_ZoneNodes_init 8 = .ok (.putfield 9, 3) := by decide +kernel
theorem d_ZoneNodes_init_11 : decode b_ZoneNodes_init 11 = .ok (.aload_n 0, 1) := by decide +kernel
theorem d_ZoneNodes_init_12 : decode b_ZoneNodes_init 12 = .ok (.iconst 3, 1) := by decide +kernel
theorem d_ZoneNodes_init_13 : decode b_ZoneNodes_init 13 = .ok (.newarray .boolean, 2) := by decide +kernel
theorem d_ZoneNodes_init_15 : decode b_ZoneNodes_init 15 = .ok (.putfield 13, 3) := by decide +kernel
theorem d_ZoneNodes_init_18 : decode b_ZoneNodes_init 18 = .ok (.aload_n 0, 1) := by decide +kernel
theorem d_ZoneNodes_init_19 : decode b_ZoneNodes_init 19 = .ok (.new 17, 3) := by decide +kernel
theorem d_ZoneNodes_init_22 : decode b_ZoneNodes_init 22 = .ok (.dup, 1) := by decide +kernel
theorem d_ZoneNodes_init_23 : decode b_ZoneNodes_init 23 = .ok (.invokespecial 19, 3) := by decide +kernel
theorem d_ZoneNodes_init_26 : decode b_ZoneNodes_init 26 = .ok (.putfield 20, 3) := by decide +kernel
theorem d_ZoneNodes_init_29 : decode b_ZoneNodes_init 29 = .ok (.aload_n 0, 1) := by decide +kernel
theorem d_ZoneNodes_init_30 : decode b_ZoneNodes_init 30 = .ok (.new 24, 3) := by decide +kernel
theorem d_ZoneNodes_init_33 : decode b_ZoneNodes_init 33 = .ok (.dup, 1) := by decide +kernel
theorem d_ZoneNodes_init_34 : decode b_ZoneNodes_init 34 = .ok (.invokespecial 26, 3) := by decide +kernel
theorem d_ZoneNodes_init_37 : decode b_ZoneNodes_init 37 = .ok (.putfield 27, 3) := by decide +kernel
theorem d_ZoneNodes_init_40 : decode b_ZoneNodes_init 40 = .ok (.aload_n 0, 1) := by decide +kernel
theorem d_ZoneNodes_init_41 : decode b_ZoneNodes_init 41 = .ok (.iconst 2, 1) := by decide +kernel
theorem d_ZoneNodes_init_42 : decode b_ZoneNodes_init 42 = .ok (.anewarray 31, 3) := by decide +kernel
theorem d_ZoneNodes_init_45 : decode b_ZoneNodes_init 45 = .ok (.putfield 33, 3) := by decide +kernel
theorem d_ZoneNodes_init_48 : decode b_ZoneNodes_init 48 = .ok (.iload_n 2, 1) := by decide +kernel
theorem d_ZoneNodes_init_49 : decode b_ZoneNodes_init 49 = .ok (.iconst 4, 1) := by decide +kernel
theorem d_ZoneNodes_init_50 : decode b_ZoneNodes_init 50 = .ok (.bipush 50, 2) := by decide +kernel
theorem d_ZoneNodes_init_52 : decode b_ZoneNodes_init 52 = .ok (.invokestatic 37, 3) := by decide +kernel
theorem d_ZoneNodes_init_55 : decode b_ZoneNodes_init 55 = .ok (.ifCond .eq 7, 3) := by decide +kernel
theorem d_ZoneNodes_init_58 : decode b_ZoneNodes_init 58 = .ok (.iload_n 2, 1) := by decide +kernel
theorem d_ZoneNodes_init_59 : decode b_ZoneNodes_init 59 = .ok (.goto 5, 3) := by decide +kernel
theorem d_ZoneNodes_init_62 : decode b_ZoneNodes_init 62 = .ok (.bipush 10, 2) := by decide +kernel
theorem d_ZoneNodes_init_64 : decode b_ZoneNodes_init 64 = .ok (.istore 5, 2) := by decide +kernel
theorem d_ZoneNodes_init_66 : decode b_ZoneNodes_init 66 = .ok (.iload_n 3, 1) := by decide +kernel
theorem d_ZoneNodes_init_67 : decode b_ZoneNodes_init 67 = .ok (.iconst 2, 1) := by decide +kernel
theorem d_ZoneNodes_init_68 : decode b_ZoneNodes_init 68 = .ok (.bipush 20, 2) := by decide +kernel
theorem d_ZoneNodes_init_70 : decode b_ZoneNodes_init 70 = .ok (.invokestatic 37, 3) := by decide +kernel
theorem d_ZoneNodes_init_73 : decode b_ZoneNodes_init 73 = .ok (.ifCond .eq 7, 3) := by decide +kernel
theorem d_ZoneNodes_init_76 : decode b_ZoneNodes_init 76 = .ok (.iload_n 3, 1) := by decide +kernel
theorem d_ZoneNodes_init_77 : decode b_ZoneNodes_init 77 = .ok (.goto 4, 3) := by decide +kernel
theorem d_ZoneNodes_init_80 : decode b_ZoneNodes_init 80 = .ok (.iconst 4, 1) := by decide +kernel
theorem d_ZoneNodes_init_81 : decode b_ZoneNodes_init 81 = .ok (.istore 6, 2) := by decide +kernel
theorem d_ZoneNodes_init_83 : decode b_ZoneNodes_init 83 = .ok (.iload 4, 2) := by decide +kernel
theorem d_ZoneNodes_init_85 : decode b_ZoneNodes_init 85 = .ok (.bipush 10, 2) := by decide +kernel
theorem d_ZoneNodes_init_87 : decode b_ZoneNodes_init 87 = .ok (.sipush 200, 3) := by decide +kernel
theorem d_ZoneNodes_init_90 : decode b_ZoneNodes_init 90 = .ok (.invokestatic 37, 3) := by decide +kernel
theorem d_ZoneNodes_init_93 : decode b_ZoneNodes_init 93 = .ok (.ifCond .eq 8, 3) := by decide +kernel
theorem d_ZoneNodes_init_96 : decode b_ZoneNodes_init 96 = .ok (.iload 4, 2) := by decide +kernel
theorem d_ZoneNodes_init_98 : decode b_ZoneNodes_init 98 = .ok (.goto 5, 3) := by decide +kernel
theorem d_ZoneNodes_init_101 : decode b_ZoneNodes_init 101 = .ok (.bipush 60, 2) := by decide +kernel
theorem d_ZoneNodes_init_103 : decode b_ZoneNodes_init 103 = .ok (.istore 7, 2) := by decide +kernel
theorem d_ZoneNodes_init_105 : decode b_ZoneNodes_init 105 = .ok (.aload_n 0, 1) := by decide +kernel
theorem d_ZoneNodes_init_106 : decode b_ZoneNodes_init 106 = .ok (.new 41, 3) := by decide +kernel
theorem d_ZoneNodes_init_109 : decode b_ZoneNodes_init 109 = .ok (.dup, 1) := by decide +kernel
theorem d_ZoneNodes_init_110 : decode b_ZoneNodes_init 110 = .ok (.iload_n 1, 1) := by decide +kernel
theorem d_ZoneNodes_init_111 : decode b_ZoneNodes_init 111 = .ok (.invokespecial 43, 3) := by decide +kernel
theorem d_ZoneNodes_init_114 : decode b_ZoneNodes_init 114 = .ok (.putfield 46, 3) := by decide +kernel
theorem d_ZoneNodes_init_117 : decode b_ZoneNodes_init 117 = .ok (.iconst 0, 1) := by decide +kernel
theorem d_ZoneNodes_init_118 : decode b_ZoneNodes_init 118 = .ok (.istore 8, 2) := by decide +kernel
theorem d_ZoneNodes_init_120 : decode b_ZoneNodes_init 120 = .ok (.iload 8, 2) := by decide +kernel
theorem d_ZoneNodes_init_122 : decode b_ZoneNodes_init 122 = .ok (.iconst 2, 1) := by decide +kernel
theorem d_ZoneNodes_init_123 : decode b_ZoneNodes_init 123 = .ok (.if_icmp .ge 33, 3) := by decide +kernel
theorem d_ZoneNodes_init_126 : decode b_ZoneNodes_init 126 = .ok (.aload_n 0, 1) := by decide +kernel
theorem d_ZoneNodes_init_127 : decode b_ZoneNodes_init 127 = .ok (.getfield 33, 3) := by decide +kernel
theorem d_ZoneNodes_init_130 : decode b_ZoneNodes_init 130 = .ok (.iload 8, 2) := by decide +kernel
theorem d_ZoneNodes_init_132 : decode b_ZoneNodes_init 132 = .ok (.new 31, 3) := by decide +kernel
theorem d_ZoneNodes_init_135 : decode b_ZoneNodes_init 135 = .ok (.dup, 1) := by decide +kernel
theorem d_ZoneNodes_init_136 : decode b_ZoneNodes_init 136 = .ok (.iload 8, 2) := by decide +kernel
theorem d_ZoneNodes_init_138 : decode b_ZoneNodes_init 138 = .ok (.iconst 1, 1) := by decide +kernel
theorem d_ZoneNodes_init_139 : decode b_ZoneNodes_init 139 = .ok (.iadd, 1) := by decide +kernel
theorem d_ZoneNodes_init_140 : decode b_ZoneNodes_init 140 = .ok (.iload 5, 2) := by decide +kernel
theorem d_ZoneNodes_init_142 : decode b_ZoneNodes_init 142 = .ok (.iload 6, 2) := by decide +kernel
theorem d_ZoneNodes_init_144 : decode b_ZoneNodes_init 144 = .ok (.iload 7, 2) := by decide +kernel
theorem d_ZoneNodes_init_146 : decode b_ZoneNodes_init 146 = .ok (.invokespecial 50, 3) := by decide +kernel
theorem d_ZoneNodes_init_149 : decode b_ZoneNodes_init 149 = .ok (.aastore, 1) := by decide +kernel
theorem d_ZoneNodes_init_150 : decode b_ZoneNodes_init 150 = .ok (.iinc 8 1, 3) := by decide +kernel
theorem d_ZoneNodes_init_153 : decode b_ZoneNodes_init 153 = .ok (.goto (-33), 3) := by decide +kernel
theorem d_ZoneNodes_init_156 : decode b_ZoneNodes_init 156 = .ok (.return_, 1) := by decide +kernel
theorem d_Wire_at_0 : decode b_Wire_at 0 = .ok (.iload_n 1, 1) := by decide +kernel
theorem d_Wire_at_1 : decode b_Wire_at 1 = .ok (.iconst 0, 1) := by decide +kernel
theorem d_Wire_at_2 : decode b_Wire_at 2 = .ok (.aload_n 0, 1) := by decide +kernel
theorem d_Wire_at_3 : decode b_Wire_at 3 = .ok (.getfield 18, 3) := by decide +kernel
theorem d_Wire_at_6 : decode b_Wire_at 6 = .ok (.iconst 1, 1) := by decide +kernel
theorem d_Wire_at_7 : decode b_Wire_at 7 = .ok (.isub, 1) := by decide +kernel
theorem d_Wire_at_8 : decode b_Wire_at 8 = .ok (.invokestatic 22, 3) := by decide +kernel
theorem d_Wire_at_11 : decode b_Wire_at 11 = .ok (.ifCond .eq 12, 3) := by decide +kernel
theorem d_Wire_at_14 : decode b_Wire_at 14 = .ok (.aload_n 0, 1) := by decide +kernel
theorem d_Wire_at_15 : decode b_Wire_at 15 = .ok (.getfield 11, 3) := by decide +kernel
theorem d_Wire_at_18 : decode b_Wire_at 18 = .ok (.iload_n 1, 1) := by decide +kernel
theorem d_Wire_at_19 : decode b_Wire_at 19 = .ok (.aaload, 1) := by decide +kernel
theorem d_Wire_at_20 : decode b_Wire_at 20 = .ok (.goto 4, 3) := by decide +kernel
theorem d_Wire_at_23 : decode b_Wire_at 23 = .ok (.aconst_null, 1) := by decide +kernel
theorem d_Wire_at_24 : decode b_Wire_at 24 = .ok (.areturn, 1) := by decide +kernel
theorem d_ZoneNodes_alter_0 : decode b_ZoneNodes_alter 0 = .ok (.aload_n 0, 1) := by decide +kernel
theorem d_ZoneNodes_alter_1 : decode b_ZoneNodes_alter 1 = .ok (.getfield 27, 3) := by decide +kernel
theorem d_ZoneNodes_alter_4 : decode b_ZoneNodes_alter 4 = .ok (.iload_n 1, 1) := by decide +kernel
theorem d_ZoneNodes_alter_5 : decode b_ZoneNodes_alter 5 = .ok (.invokevirtual 100, 3) := by decide +kernel
theorem d_ZoneNodes_alter_8 : decode b_ZoneNodes_alter 8 = .ok (.astore_n 2, 1) := by decide +kernel
theorem d_ZoneNodes_alter_9 : decode b_ZoneNodes_alter 9 = .ok (.aload_n 2, 1) := by decide +kernel
theorem d_ZoneNodes_alter_10 : decode b_ZoneNodes_alter 10 = .ok (.ifnull 18, 3) := by decide +kernel
theorem d_ZoneNodes_alter_13 : decode b_ZoneNodes_alter 13 = .ok (.aload_n 2, 1) := by decide +kernel
theorem d_ZoneNodes_alter_14 : decode b_ZoneNodes_alter 14 = .ok (.getfield 110, 3) := by decide +kernel
theorem d_ZoneNodes_alter_17 : decode b_ZoneNodes_alter 17 = .ok (.iconst 5, 1) := by decide +kernel
theorem d_ZoneNodes_alter_18 : decode b_ZoneNodes_alter 18 = .ok (.if_icmp .ne 10, 3) := by decide +kernel
theorem d_ZoneNodes_alter_21 : decode b_ZoneNodes_alter 21 = .ok (.aload_n 2, 1) := by decide +kernel
theorem d_ZoneNodes_alter_22 : decode b_ZoneNodes_alter 22 = .ok (.getfield 130, 3) := by decide +kernel
theorem d_ZoneNodes_alter_25 : decode b_ZoneNodes_alter 25 = .ok (.ifCond .eq 5, 3) := by decide +kernel
theorem d_ZoneNodes_alter_28 : decode b_ZoneNodes_alter 28 = .ok (.iconst 0, 1) := by decide +kernel
theorem d_ZoneNodes_alter_29 : decode b_ZoneNodes_alter 29 = .ok (.ireturn, 1) := by decide +kernel
theorem d_ZoneNodes_alter_30 : decode b_ZoneNodes_alter 30 = .ok (.aload_n 2, 1) := by decide +kernel
theorem d_ZoneNodes_alter_31 : decode b_ZoneNodes_alter 31 = .ok (.iconst 1, 1) := by decide +kernel
theorem d_ZoneNodes_alter_32 : decode b_ZoneNodes_alter 32 = .ok (.putfield 130, 3) := by decide +kernel
theorem d_ZoneNodes_alter_35 : decode b_ZoneNodes_alter 35 = .ok (.iconst 1, 1) := by decide +kernel
theorem d_ZoneNodes_alter_36 : decode b_ZoneNodes_alter 36 = .ok (.ireturn, 1) := by decide +kernel
theorem d_ZoneNodes_arm_0 : decode b_ZoneNodes_arm 0 = .ok (.iload_n 1, 1) := by decide +kernel
theorem d_ZoneNodes_arm_1 : decode b_ZoneNodes_arm 1 = .ok (.iconst 0, 1) := by decide +kernel
theorem d_ZoneNodes_arm_2 : decode b_ZoneNodes_arm 2 = .ok (.iconst 3, 1) := by decide +kernel
theorem d_ZoneNodes_arm_3 : decode b_ZoneNodes_arm 3 = .ok (.invokestatic 37, 3) := by decide +kernel
theorem d_ZoneNodes_arm_6 : decode b_ZoneNodes_arm 6 = .ok (.ifCond .eq 13, 3) := by decide +kernel
theorem d_ZoneNodes_arm_9 : decode b_ZoneNodes_arm 9 = .ok (.aload_n 0, 1) := by decide +kernel
theorem d_ZoneNodes_arm_10 : decode b_ZoneNodes_arm 10 = .ok (.getfield 46, 3) := by decide +kernel
theorem d_ZoneNodes_arm_13 : decode b_ZoneNodes_arm 13 = .ok (.getfield 74, 3) := by decide +kernel
theorem d_ZoneNodes_arm_16 : decode b_ZoneNodes_arm 16 = .ok (.ifCond .ne 5, 3) := by decide +kernel
theorem d_ZoneNodes_arm_19 : decode b_ZoneNodes_arm 19 = .ok (.iconst 0, 1) := by decide +kernel
theorem d_ZoneNodes_arm_20 : decode b_ZoneNodes_arm 20 = .ok (.ireturn, 1) := by decide +kernel
theorem d_ZoneNodes_arm_21 : decode b_ZoneNodes_arm 21 = .ok (.aload_n 0, 1) := by decide +kernel
theorem d_ZoneNodes_arm_22 : decode b_ZoneNodes_arm 22 = .ok (.getfield 46, 3) := by decide +kernel
theorem d_ZoneNodes_arm_25 : decode b_ZoneNodes_arm 25 = .ok (.iload_n 1, 1) := by decide +kernel
theorem d_ZoneNodes_arm_26 : decode b_ZoneNodes_arm 26 = .ok (.putfield 89, 3) := by decide +kernel
theorem d_ZoneNodes_arm_29 : decode b_ZoneNodes_arm 29 = .ok (.iconst 1, 1) := by decide +kernel
theorem d_ZoneNodes_arm_30 : decode b_ZoneNodes_arm 30 = .ok (.ireturn, 1) := by decide +kernel
theorem d_Journal_leadsTo_0 : decode b_Journal_leadsTo 0 = .ok (.aload_n 0, 1) := by decide +kernel
theorem d_Journal_leadsTo_1 : decode b_Journal_leadsTo 1 = .ok (.getfield 11, 3) := by decide +kernel
theorem d_Journal_leadsTo_4 : decode b_Journal_leadsTo 4 = .ok (.iload_n 1, 1) := by decide +kernel
theorem d_Journal_leadsTo_5 : decode b_Journal_leadsTo 5 = .ok (.aaload, 1) := by decide +kernel
theorem d_Journal_leadsTo_6 : decode b_Journal_leadsTo 6 = .ok (.getfield 22, 3) := by decide +kernel
theorem d_Journal_leadsTo_9 : decode b_Journal_leadsTo 9 = .ok (.istore_n 3, 1) := by decide +kernel
theorem d_Journal_leadsTo_10 : decode b_Journal_leadsTo 10 = .ok (.iload_n 1, 1) := by decide +kernel
theorem d_Journal_leadsTo_11 : decode b_Journal_leadsTo 11 = .ok (.istore 4, 2) := by decide +kernel
theorem d_Journal_leadsTo_13 : decode b_Journal_leadsTo 13 = .ok (.iload 4, 2) := by decide +kernel
theorem d_Journal_leadsTo_15 : decode b_Journal_leadsTo 15 = .ok (.aload_n 0, 1) := by decide +kernel
theorem d_Journal_leadsTo_16 : decode b_Journal_leadsTo 16 = .ok (.getfield 18, 3) := by decide +kernel
theorem d_Journal_leadsTo_19 : decode b_Journal_leadsTo 19 = .ok (.if_icmp .ge 28, 3) := by decide +kernel
theorem d_Journal_leadsTo_22 : decode b_Journal_leadsTo 22 = .ok (.aload_n 0, 1) := by decide +kernel
theorem d_Journal_leadsTo_23 : decode b_Journal_leadsTo 23 = .ok (.getfield 11, 3) := by decide +kernel
theorem d_Journal_leadsTo_26 : decode b_Journal_leadsTo 26 = .ok (.iload 4, 2) := by decide +kernel
theorem d_Journal_leadsTo_28 : decode b_Journal_leadsTo 28 = .ok (.aaload, 1) := by decide +kernel
theorem d_Journal_leadsTo_29 : decode b_Journal_leadsTo 29 = .ok (.getfield 22, 3) := by decide +kernel
theorem d_Journal_leadsTo_32 : decode b_Journal_leadsTo 32 = .ok (.iload_n 3, 1) := by decide +kernel
theorem d_Journal_leadsTo_33 : decode b_Journal_leadsTo 33 = .ok (.if_icmp .eq 5, 3) := by decide +kernel
theorem d_Journal_leadsTo_36 : decode b_Journal_leadsTo 36 = .ok (.iconst 0, 1) := by decide +kernel
theorem d_Journal_leadsTo_37 : decode b_Journal_leadsTo 37 = .ok (.ireturn, 1) := by decide +kernel
theorem d_Journal_leadsTo_38 : decode b_Journal_leadsTo 38 = .ok (.iinc 3 1, 3) := by decide +kernel
theorem d_Journal_leadsTo_41 : decode b_Journal_leadsTo 41 = .ok (.iinc 4 1, 3) := by decide +kernel
theorem d_Journal_leadsTo_44 : decode b_Journal_leadsTo 44 = .ok (.goto (-31), 3) := by decide +kernel
theorem d_Journal_leadsTo_47 : decode b_Journal_leadsTo 47 = .ok (.iload_n 3, 1) := by decide +kernel
theorem d_Journal_leadsTo_48 : decode b_Journal_leadsTo 48 = .ok (.iload_n 2, 1) := by decide +kernel
theorem d_Journal_leadsTo_49 : decode b_Journal_leadsTo 49 = .ok (.if_icmp .ne 7, 3) := by decide +kernel
theorem d_Journal_leadsTo_52 : decode b_Journal_leadsTo 52 = .ok (.iconst 1, 1) := by decide +kernel
theorem d_Journal_leadsTo_53 : decode b_Journal_leadsTo 53 = .ok (.goto 4, 3) := by decide +kernel
theorem d_Journal_leadsTo_56 : decode b_Journal_leadsTo 56 = .ok (.iconst 0, 1) := by decide +kernel
theorem d_Journal_leadsTo_57 : decode b_Journal_leadsTo 57 = .ok (.ireturn, 1) := by decide +kernel
theorem d_Journal_startOfWay_0 : decode b_Journal_startOfWay 0 = .ok (.iconst 0, 1) := by decide +kernel
theorem d_Journal_startOfWay_1 : decode b_Journal_startOfWay 1 = .ok (.istore_n 3, 1) := by decide +kernel
theorem d_Journal_startOfWay_2 : decode b_Journal_startOfWay 2 = .ok (.iload_n 3, 1) := by decide +kernel
theorem d_Journal_startOfWay_3 : decode b_Journal_startOfWay 3 = .ok (.aload_n 0, 1) := by decide +kernel
theorem d_Journal_startOfWay_4 : decode b_Journal_startOfWay 4 = .ok (.getfield 18, 3) := by decide +kernel
theorem d_Journal_startOfWay_7 : decode b_Journal_startOfWay 7 = .ok (.if_icmp .ge 40, 3) := by decide +kernel
theorem d_Journal_startOfWay_10 : decode b_Journal_startOfWay 10 = .ok (.aload_n 0, 1) := by decide +kernel
theorem d_Journal_startOfWay_11 : decode b_Journal_startOfWay 11 = .ok (.getfield 11, 3) := by decide +kernel
theorem d_Journal_startOfWay_14 : decode b_Journal_startOfWay 14 = .ok (.iload_n 3, 1) := by decide +kernel
theorem d_Journal_startOfWay_15 : decode b_Journal_startOfWay 15 = .ok (.aaload, 1) := by decide +kernel
theorem d_Journal_startOfWay_16 : decode b_Journal_startOfWay 16 = .ok (.getfield 22, 3) := by decide +kernel
theorem d_Journal_startOfWay_19 : decode b_Journal_startOfWay 19 = .ok (.iload_n 1, 1) := by decide +kernel
theorem d_Journal_startOfWay_20 : decode b_Journal_startOfWay 20 = .ok (.if_icmp .ne 21, 3) := by decide +kernel
theorem d_Journal_startOfWay_23 : decode b_Journal_startOfWay 23 = .ok (.aload_n 0, 1) := by decide +kernel
theorem d_Journal_startOfWay_24 : decode b_Journal_startOfWay 24 = .ok (.iload_n 3, 1) := by decide +kernel
theorem d_Journal_startOfWay_25 : decode b_Journal_startOfWay 25 = .ok (.iload_n 2, 1) := by decide +kernel
theorem d_Journal_startOfWay_26 : decode b_Journal_startOfWay 26 = .ok (.invokevirtual 42, 3) := by decide +kernel
theorem d_Journal_startOfWay_29 : decode b_Journal_startOfWay 29 = .ok (.ifCond .eq 7, 3) := by decide +kernel
theorem d_Journal_startOfWay_32 : decode b_Journal_startOfWay 32 = .ok (.iload_n 3, 1) := by decide +kernel
theorem d_Journal_startOfWay_33 : decode b_Journal_startOfWay 33 = .ok (.goto 7, 3) := by decide +kernel
theorem d_Journal_startOfWay_36 : decode b_Journal_startOfWay 36 = .ok (.aload_n 0, 1) := by decide +kernel
theorem d_Journal_startOfWay_37 : decode b_Journal_startOfWay 37 = .ok (.getfield 18, 3) := by decide +kernel
theorem d_Journal_startOfWay_40 : decode b_Journal_startOfWay 40 = .ok (.ireturn, 1) := by decide +kernel
theorem d_Journal_startOfWay_41 : decode b_Journal_startOfWay 41 = .ok (.iinc 3 1, 3) := by decide +kernel
theorem d_Journal_startOfWay_44 : decode b_Journal_startOfWay 44 = .ok (.goto (-42), 3) := by decide +kernel
theorem d_Journal_startOfWay_47 : decode b_Journal_startOfWay 47 = .ok (.aload_n 0, 1) := by decide +kernel
theorem d_Journal_startOfWay_48 : decode b_Journal_startOfWay 48 = .ok (.getfield 18, 3) := by decide +kernel
theorem d_Journal_startOfWay_51 : decode b_Journal_startOfWay 51 = .ok (.ireturn, 1) := by decide +kernel
theorem d_ZoneNodes_coded_0 : decode b_ZoneNodes_coded 0 = .ok (.sipush 1000, 3) := by decide +kernel
theorem d_ZoneNodes_coded_3 : decode b_ZoneNodes_coded 3 = .ok (.iload_n 0, 1) := by decide +kernel
theorem d_ZoneNodes_coded_4 : decode b_ZoneNodes_coded 4 = .ok (.imul, 1) := by decide +kernel
theorem d_ZoneNodes_coded_5 : decode b_ZoneNodes_coded 5 = .ok (.bipush 100, 2) := by decide +kernel
theorem d_ZoneNodes_coded_7 : decode b_ZoneNodes_coded 7 = .ok (.iload_n 1, 1) := by decide +kernel
theorem d_ZoneNodes_coded_8 : decode b_ZoneNodes_coded 8 = .ok (.imul, 1) := by decide +kernel
theorem d_ZoneNodes_coded_9 : decode b_ZoneNodes_coded 9 = .ok (.iadd, 1) := by decide +kernel
theorem d_ZoneNodes_coded_10 : decode b_ZoneNodes_coded 10 = .ok (.bipush 10, 2) := by decide +kernel
theorem d_ZoneNodes_coded_12 : decode b_ZoneNodes_coded 12 = .ok (.iload_n 2, 1) := by decide +kernel
theorem d_ZoneNodes_coded_13 : decode b_ZoneNodes_coded 13 = .ok (.imul, 1) := by decide +kernel
theorem d_ZoneNodes_coded_14 : decode b_ZoneNodes_coded 14 = .ok (.iadd, 1) := by decide +kernel
theorem d_ZoneNodes_coded_15 : decode b_ZoneNodes_coded 15 = .ok (.iload_n 3, 1) := by decide +kernel
theorem d_ZoneNodes_coded_16 : decode b_ZoneNodes_coded 16 = .ok (.iadd, 1) := by decide +kernel
theorem d_ZoneNodes_coded_17 : decode b_ZoneNodes_coded 17 = .ok (.ireturn, 1) := by decide +kernel
theorem d_Records_listInto_0 : decode b_Records_listInto 0 = .ok (.iload_n 2, 1) := by decide +kernel
theorem d_Records_listInto_1 : decode b_Records_listInto 1 = .ok (.istore 4, 2) := by decide +kernel
theorem d_Records_listInto_3 : decode b_Records_listInto 3 = .ok (.iconst 0, 1) := by decide +kernel
theorem d_Records_listInto_4 : decode b_Records_listInto 4 = .ok (.istore 5, 2) := by decide +kernel
theorem d_Records_listInto_6 : decode b_Records_listInto 6 = .ok (.iload 5, 2) := by decide +kernel
theorem d_Records_listInto_8 : decode b_Records_listInto 8 = .ok (.aload_n 0, 1) := by decide +kernel
theorem d_Records_listInto_9 : decode b_Records_listInto 9 = .ok (.getfield 9, 3) := by decide +kernel
theorem d_Records_listInto_12 : decode b_Records_listInto 12 = .ok (.arraylength, 1) := by decide +kernel
theorem d_Records_listInto_13 : decode b_Records_listInto 13 = .ok (.if_icmp .ge 71, 3) := by decide +kernel
theorem d_Records_listInto_16 : decode b_Records_listInto 16 = .ok (.iconst 0, 1) := by decide +kernel
theorem d_Records_listInto_17 : decode b_Records_listInto 17 = .ok (.istore 6, 2) := by decide +kernel
theorem d_Records_listInto_19 : decode b_Records_listInto 19 = .ok (.iload 6, 2) := by decide +kernel
theorem d_Records_listInto_21 : decode b_Records_listInto 21 = .ok (.bipush 8, 2) := by decide +kernel
theorem d_Records_listInto_23 : decode b_Records_listInto 23 = .ok (.if_icmp .ge 55, 3) := by decide +kernel
theorem d_Records_listInto_26 : decode b_Records_listInto 26 = .ok (.aload_n 0, 1) := by decide +kernel
theorem d_Records_listInto_27 : decode b_Records_listInto 27 = .ok (.getfield 9, 3) := by decide +kernel
theorem d_Records_listInto_30 : decode b_Records_listInto 30 = .ok (.iload 5, 2) := by decide +kernel
theorem d_Records_listInto_32 : decode b_Records_listInto 32 = .ok (.iaload, 1) := by decide +kernel
theorem d_Records_listInto_33 : decode b_Records_listInto 33 = .ok (.iload 6, 2) := by decide +kernel
theorem d_Records_listInto_35 : decode b_Records_listInto 35 = .ok (.ishr, 1) := by decide +kernel
theorem d_Records_listInto_36 : decode b_Records_listInto 36 = .ok (.iconst 1, 1) := by decide +kernel
theorem d_Records_listInto_37 : decode b_Records_listInto 37 = .ok (.iand, 1) := by decide +kernel
theorem d_Records_listInto_38 : decode b_Records_listInto 38 = .ok (.iconst 1, 1) := by decide +kernel
theorem d_Records_listInto_39 : decode b_Records_listInto 39 = .ok (.if_icmp .ne 33, 3) := by decide +kernel
theorem d_Records_listInto_42 : decode b_Records_listInto 42 = .ok (.iload 4, 2) := by decide +kernel
theorem d_Records_listInto_44 : decode b_Records_listInto 44 = .ok (.aload_n 1, 1) := by decide +kernel
theorem d_Records_listInto_45 : decode b_Records_listInto 45 = .ok (.arraylength, 1) := by decide +kernel
theorem d_Records_listInto_46 : decode b_Records_listInto 46 = .ok (.if_icmp .ge 26, 3) := by decide +kernel
theorem d_Records_listInto_49 : decode b_Records_listInto 49 = .ok (.aload_n 1, 1) := by decide +kernel
theorem d_Records_listInto_50 : decode b_Records_listInto 50 = .ok (.iload 4, 2) := by decide +kernel
theorem d_Records_listInto_52 : decode b_Records_listInto 52 = .ok (.iload_n 3, 1) := by decide +kernel
theorem d_Records_listInto_53 : decode b_Records_listInto 53 = .ok (.iload 5, 2) := by decide +kernel
theorem d_Records_listInto_55 : decode b_Records_listInto 55 = .ok (.iconst 4, 1) := by decide +kernel
theorem d_Records_listInto_56 : decode b_Records_listInto 56 = .ok (.idiv, 1) := by decide +kernel
theorem d_Records_listInto_57 : decode b_Records_listInto 57 = .ok (.iload 5, 2) := by decide +kernel
theorem d_Records_listInto_59 : decode b_Records_listInto 59 = .ok (.iconst 4, 1) := by decide +kernel
theorem d_Records_listInto_60 : decode b_Records_listInto 60 = .ok (.irem, 1) := by decide +kernel
theorem d_Records_listInto_61 : decode b_Records_listInto 61 = .ok (.iconst 1, 1) := by decide +kernel
theorem d_Records_listInto_62 : decode b_Records_listInto 62 = .ok (.iadd, 1) := by decide +kernel
theorem d_Records_listInto_63 : decode b_Records_listInto 63 = .ok (.iload 6, 2) := by decide +kernel
theorem d_Records_listInto_65 : decode b_Records_listInto 65 = .ok (.invokestatic 65, 3) := by decide +kernel
theorem d_Records_listInto_68 : decode b_Records_listInto 68 = .ok (.iastore, 1) := by decide +kernel
theorem d_Records_listInto_69 : decode b_Records_listInto 69 = .ok (.iinc 4 1, 3) := by decide +kernel
theorem d_Records_listInto_72 : decode b_Records_listInto 72 = .ok (.iinc 6 1, 3) := by decide +kernel
theorem d_Records_listInto_75 : decode b_Records_listInto 75 = .ok (.goto (-56), 3) := by decide +kernel
theorem d_Records_listInto_78 : decode b_Records_listInto 78 = .ok (.iinc 5 1, 3) := by decide +kernel
theorem d_Records_listInto_81 : decode b_Records_listInto 81 = .ok (.goto (-75), 3) := by decide +kernel
theorem d_Records_listInto_84 : decode b_Records_listInto 84 = .ok (.iload 4, 2) := by decide +kernel
theorem d_Records_listInto_86 : decode b_Records_listInto 86 = .ok (.ireturn, 1) := by decide +kernel
theorem d_Primary_workOutItems_0 : decode b_Primary_workOutItems 0 = .ok (.iload_n 1, 1) := by decide +kernel
theorem d_Primary_workOutItems_1 : decode b_Primary_workOutItems 1 = .ok (.ifCond .eq 18, 3) := by decide +kernel
theorem d_Primary_workOutItems_4 : decode b_Primary_workOutItems 4 = .ok (.aload_n 0, 1) := by decide +kernel
theorem d_Primary_workOutItems_5 : decode b_Primary_workOutItems 5 = .ok (.getfield 24, 3) := by decide +kernel
theorem d_Primary_workOutItems_8 : decode b_Primary_workOutItems 8 = .ok (.iload_n 2, 1) := by decide +kernel
theorem d_Primary_workOutItems_9 : decode b_Primary_workOutItems 9 = .ok (.aload_n 0, 1) := by decide +kernel
theorem d_Primary_workOutItems_10 : decode b_Primary_workOutItems 10 = .ok (.getfield 36, 3) := by decide +kernel
theorem d_Primary_workOutItems_13 : decode b_Primary_workOutItems 13 = .ok (.invokevirtual 89, 3) := by decide +kernel
theorem d_Primary_workOutItems_16 : decode b_Primary_workOutItems 16 = .ok (.goto 10, 3) := by decide +kernel
theorem d_Primary_workOutItems_19 : decode b_Primary_workOutItems 19 = .ok (.aload_n 0, 1) := by decide +kernel
theorem d_Primary_workOutItems_20 : decode b_Primary_workOutItems 20 = .ok (.getfield 24, 3) := by decide +kernel
theorem d_Primary_workOutItems_23 : decode b_Primary_workOutItems 23 = .ok (.getfield 93, 3) := by decide +kernel
theorem d_Primary_workOutItems_26 : decode b_Primary_workOutItems 26 = .ok (.istore_n 3, 1) := by decide +kernel
theorem d_Primary_workOutItems_27 : decode b_Primary_workOutItems 27 = .ok (.aload_n 0, 1) := by decide +kernel
theorem d_Primary_workOutItems_28 : decode b_Primary_workOutItems 28 = .ok (.iload_n 3, 1) := by decide +kernel
theorem d_Primary_workOutItems_29 : decode b_Primary_workOutItems 29 = .ok (.aload_n 0, 1) := by decide +kernel
theorem d_Primary_workOutItems_30 : decode b_Primary_workOutItems 30 = .ok (.getfield 24, 3) := by decide +kernel
theorem d_Primary_workOutItems_33 : decode b_Primary_workOutItems 33 = .ok (.getfield 93, 3) := by decide +kernel
theorem d_Primary_workOutItems_36 : decode b_Primary_workOutItems 36 = .ok (.if_icmp .lt 7, 3) := by decide +kernel
theorem d_Primary_workOutItems_39 : decode b_Primary_workOutItems 39 = .ok (.iconst 1, 1) := by decide +kernel
theorem d_Primary_workOutItems_40 : decode b_Primary_workOutItems 40 = .ok (.goto 4, 3) := by decide +kernel
theorem d_Primary_workOutItems_43 : decode b_Primary_workOutItems 43 = .ok (.iconst 0, 1) := by decide +kernel
theorem d_Primary_workOutItems_44 : decode b_Primary_workOutItems 44 = .ok (.putfield 96, 3) := by decide +kernel
theorem d_Primary_workOutItems_47 : decode b_Primary_workOutItems 47 = .ok (.aload_n 0, 1) := by decide +kernel
theorem d_Primary_workOutItems_48 : decode b_Primary_workOutItems 48 = .ok (.iconst 0, 1) := by decide +kernel
theorem d_Primary_workOutItems_49 : decode b_Primary_workOutItems 49 = .ok (.putfield 99, 3) := by decide +kernel
theorem d_Primary_workOutItems_52 : decode b_Primary_workOutItems 52 = .ok (.aload_n 0, 1) := by decide +kernel
theorem d_Primary_workOutItems_53 : decode b_Primary_workOutItems 53 = .ok (.getfield 96, 3) := by decide +kernel
theorem d_Primary_workOutItems_56 : decode b_Primary_workOutItems 56 = .ok (.ifCond .eq 21, 3) := by decide +kernel
theorem d_Primary_workOutItems_59 : decode b_Primary_workOutItems 59 = .ok (.aload_n 0, 1) := by decide +kernel
theorem d_Primary_workOutItems_60 : decode b_Primary_workOutItems 60 = .ok (.aload_n 0, 1) := by decide +kernel
theorem d_Primary_workOutItems_61 : decode b_Primary_workOutItems 61 = .ok (.getfield 12, 3) := by decide +kernel
theorem d_Primary_workOutItems_64 : decode b_Primary_workOutItems 64 = .ok (.aload_n 0, 1) := by decide +kernel
theorem d_Primary_workOutItems_65 : decode b_Primary_workOutItems 65 = .ok (.getfield 28, 3) := by decide +kernel
theorem d_Primary_workOutItems_68 : decode b_Primary_workOutItems 68 = .ok (.iconst 0, 1) := by decide +kernel
theorem d_Primary_workOutItems_69 : decode b_Primary_workOutItems 69 = .ok (.iconst 0, 1) := by decide +kernel
theorem d_Primary_workOutItems_70 : decode b_Primary_workOutItems 70 = .ok (.invokevirtual 102, 3) := by decide +kernel
theorem d_Primary_workOutItems_73 : decode b_Primary_workOutItems 73 = .ok (.putfield 99, 3) := by decide +kernel
theorem d_Primary_workOutItems_76 : decode b_Primary_workOutItems 76 = .ok (.return_, 1) := by decide +kernel
theorem d_Primary_workOutItems_77 : decode b_Primary_workOutItems 77 = .ok (.iload_n 3, 1) := by decide +kernel
theorem d_Primary_workOutItems_78 : decode b_Primary_workOutItems 78 = .ok (.istore 4, 2) := by decide +kernel
theorem d_Primary_workOutItems_80 : decode b_Primary_workOutItems 80 = .ok (.iload 4, 2) := by decide +kernel
theorem d_Primary_workOutItems_82 : decode b_Primary_workOutItems 82 = .ok (.aload_n 0, 1) := by decide +kernel
theorem d_Primary_workOutItems_83 : decode b_Primary_workOutItems 83 = .ok (.getfield 24, 3) := by decide +kernel
theorem d_Primary_workOutItems_86 : decode b_Primary_workOutItems 86 = .ok (.getfield 93, 3) := by decide +kernel
theorem d_Primary_workOutItems_89 : decode b_Primary_workOutItems 89 = .ok (.if_icmp .ge 67, 3) := by decide +kernel
theorem d_Primary_workOutItems_92 : decode b_Primary_workOutItems 92 = .ok (.aload_n 0, 1) := by decide +kernel
theorem d_Primary_workOutItems_93 : decode b_Primary_workOutItems 93 = .ok (.aload_n 0, 1) := by decide +kernel
theorem d_Primary_workOutItems_94 : decode b_Primary_workOutItems 94 = .ok (.getfield 24, 3) := by decide +kernel
theorem d_Primary_workOutItems_97 : decode b_Primary_workOutItems 97 = .ok (.getfield 106, 3) := by decide +kernel
theorem d_Primary_workOutItems_100 : decode b_Primary_workOutItems 100 = .ok (.iload 4, 2) := by decide +kernel
theorem d_Primary_workOutItems_102 : decode b_Primary_workOutItems 102 = .ok (.aaload, 1) := by decide +kernel
theorem d_Primary_workOutItems_103 : decode b_Primary_workOutItems 103 = .ok (.getfield 65, 3) := by decide +kernel
theorem d_Primary_workOutItems_106 : decode b_Primary_workOutItems 106 = .ok (.aload_n 0, 1) := by decide +kernel
theorem d_Primary_workOutItems_107 : decode b_Primary_workOutItems 107 = .ok (.getfield 28, 3) := by decide +kernel
theorem d_Primary_workOutItems_110 : decode b_Primary_workOutItems 110 = .ok (.aload_n 0, 1) := by decide +kernel
theorem d_Primary_workOutItems_111 : decode b_Primary_workOutItems 111 = .ok (.getfield 99, 3) := by decide +kernel
theorem d_Primary_workOutItems_114 : decode b_Primary_workOutItems 114 = .ok (.iconst 1, 1) := by decide +kernel
theorem d_Primary_workOutItems_115 : decode b_Primary_workOutItems 115 = .ok (.invokevirtual 102, 3) := by decide +kernel
theorem d_Primary_workOutItems_118 : decode b_Primary_workOutItems 118 = .ok (.putfield 99, 3) := by decide +kernel
theorem d_Primary_workOutItems_121 : decode b_Primary_workOutItems 121 = .ok (.aload_n 0, 1) := by decide +kernel
theorem d_Primary_workOutItems_122 : decode b_Primary_workOutItems 122 = .ok (.aload_n 0, 1) := by decide +kernel
theorem d_Primary_workOutItems_123 : decode b_Primary_workOutItems 123 = .ok (.getfield 24, 3) := by decide +kernel
theorem d_Primary_workOutItems_126 : decode b_Primary_workOutItems 126 = .ok (.getfield 106, 3) := by decide +kernel
theorem d_Primary_workOutItems_129 : decode b_Primary_workOutItems 129 = .ok (.iload 4, 2) := by decide +kernel
theorem d_Primary_workOutItems_131 : decode b_Primary_workOutItems 131 = .ok (.aaload, 1) := by decide +kernel
theorem d_Primary_workOutItems_132 : decode b_Primary_workOutItems 132 = .ok (.getfield 70, 3) := by decide +kernel
theorem d_Primary_workOutItems_135 : decode b_Primary_workOutItems 135 = .ok (.aload_n 0, 1) := by decide +kernel
theorem d_Primary_workOutItems_136 : decode b_Primary_workOutItems 136 = .ok (.getfield 28, 3) := by decide +kernel
theorem d_Primary_workOutItems_139 : decode b_Primary_workOutItems 139 = .ok (.aload_n 0, 1) := by decide +kernel
theorem d_Primary_workOutItems_140 : decode b_Primary_workOutItems 140 = .ok (.getfield 99, 3) := by decide +kernel
theorem d_Primary_workOutItems_143 : decode b_Primary_workOutItems 143 = .ok (.iconst 0, 1) := by decide +kernel
theorem d_Primary_workOutItems_144 : decode b_Primary_workOutItems 144 = .ok (.invokevirtual 102, 3) := by decide +kernel
theorem d_Primary_workOutItems_147 : decode b_Primary_workOutItems 147 = .ok (.putfield 99, 3) := by decide +kernel
theorem d_Primary_workOutItems_150 : decode b_Primary_workOutItems 150 = .ok (.iinc 4 1, 3) := by decide +kernel
theorem d_Primary_workOutItems_153 : decode b_Primary_workOutItems 153 = .ok (.goto (-73), 3) := by decide +kernel
theorem d_Primary_workOutItems_156 : decode b_Primary_workOutItems 156 = .ok (.return_, 1) := by decide +kernel
theorem d_Message_isOnStream_0 : decode b_Message_isOnStream 0 = .ok (.aload_n 0, 1) := by decide +kernel
theorem d_Message_isOnStream_1 : decode b_Message_isOnStream 1 = .ok (.getfield 15, 3) := by decide +kernel
theorem d_Message_isOnStream_4 : decode b_Message_isOnStream 4 = .ok (.iconst 4, 1) := by decide +kernel
theorem d_Message_isOnStream_5 : decode b_Message_isOnStream 5 = .ok (.if_icmp .eq 11, 3) := by decide +kernel
theorem d_Message_isOnStream_8 : decode b_Message_isOnStream 8 = .ok (.aload_n 0, 1) := by decide +kernel
theorem d_Message_isOnStream_9 : decode b_Message_isOnStream 9 = .ok (.getfield 15, 3) := by decide +kernel
theorem d_Message_isOnStream_12 : decode b_Message_isOnStream 12 = .ok (.iconst 5, 1) := by decide +kernel
theorem d_Message_isOnStream_13 : decode b_Message_isOnStream 13 = .ok (.if_icmp .ne 7, 3) := by decide +kernel
theorem d_Message_isOnStream_16 : decode b_Message_isOnStream 16 = .ok (.iconst 1, 1) := by decide +kernel
theorem d_Message_isOnStream_17 : decode b_Message_isOnStream 17 = .ok (.goto 4, 3) := by decide +kernel
theorem d_Message_isOnStream_20 : decode b_Message_isOnStream 20 = .ok (.iconst 0, 1) := by decide +kernel
theorem d_Message_isOnStream_21 : decode b_Message_isOnStream 21 = .ok (.ireturn, 1) := by decide +kernel
theorem d_Wire_countLossy_0 : decode b_Wire_countLossy 0 = .ok (.iconst 0, 1) := by decide +kernel
theorem d_Wire_countLossy_1 : decode b_Wire_countLossy 1 = .ok (.istore_n 1, 1) := by decide +kernel
theorem d_Wire_countLossy_2 : decode b_Wire_countLossy 2 = .ok (.iconst 0, 1) := by decide +kernel
theorem d_Wire_countLossy_3 : decode b_Wire_countLossy 3 = .ok (.istore_n 2, 1) := by decide +kernel
theorem d_Wire_countLossy_4 : decode b_Wire_countLossy 4 = .ok (.iload_n 2, 1) := by decide +kernel
theorem d_Wire_countLossy_5 : decode b_Wire_countLossy 5 = .ok (.aload_n 0, 1) := by decide +kernel
theorem d_Wire_countLossy_6 : decode b_Wire_countLossy 6 = .ok (.getfield 18, 3) := by decide +kernel
theorem d_Wire_countLossy_9 : decode b_Wire_countLossy 9 = .ok (.if_icmp .ge 24, 3) := by decide +kernel
theorem d_Wire_countLossy_12 : decode b_Wire_countLossy 12 = .ok (.aload_n 0, 1) := by decide +kernel
theorem d_Wire_countLossy_13 : decode b_Wire_countLossy 13 = .ok (.getfield 11, 3) := by decide +kernel
theorem d_Wire_countLossy_16 : decode b_Wire_countLossy 16 = .ok (.iload_n 2, 1) := by decide +kernel
theorem d_Wire_countLossy_17 : decode b_Wire_countLossy 17 = .ok (.aaload, 1) := by decide +kernel
theorem d_Wire_countLossy_18 : decode b_Wire_countLossy 18 = .ok (.invokevirtual 32, 3) := by decide +kernel
theorem d_Wire_countLossy_21 : decode b_Wire_countLossy 21 = .ok (.ifCond .ne 6, 3) := by decide +kernel
theorem d_Wire_countLossy_24 : decode b_Wire_countLossy 24 = .ok (.iinc 1 1, 3) := by decide +kernel
theorem d_Wire_countLossy_27 : decode b_Wire_countLossy 27 = .ok (.iinc 2 1, 3) := by decide +kernel
theorem d_Wire_countLossy_30 : decode b_Wire_countLossy 30 = .ok (.goto (-26), 3) := by decide +kernel
theorem d_Wire_countLossy_33 : decode b_Wire_countLossy 33 = .ok (.iload_n 1, 1) := by decide +kernel
theorem d_Wire_countLossy_34 : decode b_Wire_countLossy 34 = .ok (.ireturn, 1) := by decide +kernel
theorem d_Wire_put_0 : decode b_Wire_put 0 = .ok (.aload_n 0, 1) := by decide +kernel
theorem d_Wire_put_1 : decode b_Wire_put 1 = .ok (.getfield 18, 3) := by decide +kernel
theorem d_Wire_put_4 : decode b_Wire_put 4 = .ok (.aload_n 0, 1) := by decide +kernel
theorem d_Wire_put_5 : decode b_Wire_put 5 = .ok (.getfield 11, 3) := by decide +kernel
theorem d_Wire_put_8 : decode b_Wire_put 8 = .ok (.arraylength, 1) := by decide +kernel
theorem d_Wire_put_9 : decode b_Wire_put 9 = .ok (.if_icmp .lt 5, 3) := by decide +kernel
theorem d_Wire_put_12 : decode b_Wire_put 12 = .ok (.aconst_null, 1) := by decide +kernel
theorem d_Wire_put_13 : decode b_Wire_put 13 = .ok (.areturn, 1) := by decide +kernel
theorem d_Wire_put_14 : decode b_Wire_put 14 = .ok (.aload_n 0, 1) := by decide +kernel
theorem d_Wire_put_15 : decode b_Wire_put 15 = .ok (.getfield 11, 3) := by decide +kernel
theorem d_Wire_put_18 : decode b_Wire_put 18 = .ok (.aload_n 0, 1) := by decide +kernel
theorem d_Wire_put_19 : decode b_Wire_put 19 = .ok (.getfield 18, 3) := by decide +kernel
theorem d_Wire_put_22 : decode b_Wire_put 22 = .ok (.aaload, 1) := by decide +kernel
theorem d_Wire_put_23 : decode b_Wire_put 23 = .ok (.astore 4, 2) := by decide +kernel
theorem d_Wire_put_25 : decode b_Wire_put 25 = .ok (.aload 4, 2) := by decide +kernel
theorem d_Wire_put_27 : decode b_Wire_put 27 = .ok (.iload_n 1, 1) := by decide +kernel
theorem d_Wire_put_28 : decode b_Wire_put 28 = .ok (.putfield 26, 3) := by decide +kernel
theorem d_Wire_put_31 : decode b_Wire_put 31 = .ok (.aload 4, 2) := by decide +kernel
theorem d_Wire_put_33 : decode b_Wire_put 33 = .ok (.iload_n 2, 1) := by decide +kernel
theorem d_Wire_put_34 : decode b_Wire_put 34 = .ok (.putfield 29, 3) := by decide +kernel
theorem d_Wire_put_37 : decode b_Wire_put 37 = .ok (.aload 4, 2) := by decide +kernel
theorem d_Wire_put_39 : decode b_Wire_put 39 = .ok (.iload_n 3, 1) := by decide +kernel
theorem d_Wire_put_40 : decode b_Wire_put 40 = .ok (.putfield 84, 3) := by decide +kernel
theorem d_Wire_put_43 : decode b_Wire_put 43 = .ok (.aload 4, 2) := by decide +kernel
theorem d_Wire_put_45 : decode b_Wire_put 45 = .ok (.iconst 0, 1) := by decide +kernel
