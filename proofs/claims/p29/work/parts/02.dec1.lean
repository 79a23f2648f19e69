theorem dX0_init_0 : decode cX0_init 0 = .ok (.aload_n 0, 1) := by decide +kernel
theorem dX0_init_1 : decode cX0_init 1 = .ok (.invokespecial 3, 3) := by decide +kernel
theorem dX0_init_4 : decode cX0_init 4 = .ok (.aload_n 0, 1) := by decide +kernel
theorem dX0_init_5 : decode cX0_init 5 = .ok (.bipush 20, 2) := by decide +kernel
theorem dX0_init_7 : decode cX0_init 7 = .ok (.bipush 10, 2) := by decide +kernel
theorem dX0_init_9 : decode cX0_init 9 = .ok (.iload_n 1, 1) := by decide +kernel
theorem dX0_init_10 : decode cX0_init 10 = .ok (.imul, 1) := by decide +kernel
theorem dX0_init_11 : decode cX0_init 11 = .ok (.iadd, 1) := by decide +kernel
theorem dX0_init_12 : decode cX0_init 12 = .ok (.putfield 9, 3) := by decide +kernel
theorem dX0_init_15 : decode cX0_init 15 = .ok (.aload_n 0, 1) := by decide +kernel
theorem dX0_init_16 : decode cX0_init 16 = .ok (.iload_n 1, 1) := by decide +kernel
theorem dX0_init_17 : decode cX0_init 17 = .ok (.ifCond .ne 7, 3) := by decide +kernel
theorem dX0_init_20 : decode cX0_init 20 = .ok (.iconst 1, 1) := by decide +kernel
theorem dX0_init_21 : decode cX0_init 21 = .ok (.goto 4, 3) := by decide +kernel
theorem dX0_init_24 : decode cX0_init 24 = .ok (.iconst 0, 1) := by decide +kernel
theorem dX0_init_25 : decode cX0_init 25 = .ok (.putfield 15, 3) := by decide +kernel
theorem dX0_init_28 : decode cX0_init 28 = .ok (.return_, 1) := by decide +kernel
theorem dX0_copyFrom_0 : decode cX0_copyFrom 0 = .ok (.aload_n 0, 1) := by decide +kernel
theorem dX0_copyFrom_1 : decode cX0_copyFrom 1 = .ok (.aload_n 1, 1) := by decide +kernel
theorem dX0_copyFrom_2 : decode cX0_copyFrom 2 = .ok (.getfield 19, 3) := by decide +kernel
theorem dX0_copyFrom_5 : decode cX0_copyFrom 5 = .ok (.putfield 19, 3) := by decide +kernel
theorem dX0_copyFrom_8 : decode cX0_copyFrom 8 = .ok (.aload_n 0, 1) := by decide +kernel
theorem dX0_copyFrom_9 : decode cX0_copyFrom 9 = .ok (.aload_n 1, 1) := by decide +kernel
theorem dX0_copyFrom_10 : decode cX0_copyFrom 10 = .ok (.getfield 9, 3) := by decide +kernel
theorem dX0_copyFrom_13 : decode cX0_copyFrom 13 = .ok (.putfield 9, 3) := by decide +kernel
theorem dX0_copyFrom_16 : decode cX0_copyFrom 16 = .ok (.aload_n 0, 1) := by decide +kernel
theorem dX0_copyFrom_17 : decode cX0_copyFrom 17 = .ok (.aload_n 1, 1) := by decide +kernel
theorem dX0_copyFrom_18 : decode cX0_copyFrom 18 = .ok (.getfield 22, 3) := by decide +kernel
theorem dX0_copyFrom_21 : decode cX0_copyFrom 21 = .ok (.putfield 22, 3) := by decide +kernel
theorem dX0_copyFrom_24 : decode cX0_copyFrom 24 = .ok (.aload_n 0, 1) := by decide +kernel
theorem dX0_copyFrom_25 : decode cX0_copyFrom 25 = .ok (.aload_n 1, 1) := by decide +kernel
theorem dX0_copyFrom_26 : decode cX0_copyFrom 26 = .ok (.getfield 25, 3) := by decide +kernel
theorem dX0_copyFrom_29 : decode cX0_copyFrom 29 = .ok (.putfield 25, 3) := by decide +kernel
theorem dX0_copyFrom_32 : decode cX0_copyFrom 32 = .ok (.aload_n 0, 1) := by decide +kernel
theorem dX0_copyFrom_33 : decode cX0_copyFrom 33 = .ok (.aload_n 1, 1) := by decide +kernel
theorem dX0_copyFrom_34 : decode cX0_copyFrom 34 = .ok (.getfield 28, 3) := by decide +kernel
theorem dX0_copyFrom_37 : decode cX0_copyFrom 37 = .ok (.putfield 28, 3) := by decide +kernel
theorem dX0_copyFrom_40 : decode cX0_copyFrom 40 = .ok (.aload_n 0, 1) := by decide +kernel
theorem dX0_copyFrom_41 : decode cX0_copyFrom 41 = .ok (.aload_n 1, 1) := by decide +kernel
theorem dX0_copyFrom_42 : decode cX0_copyFrom 42 = .ok (.getfield 15, 3) := by decide +kernel
theorem dX0_copyFrom_45 : decode cX0_copyFrom 45 = .ok (.putfield 15, 3) := by decide +kernel
theorem dX0_copyFrom_48 : decode cX0_copyFrom 48 = .ok (.aload_n 0, 1) := by decide +kernel
theorem dX0_copyFrom_49 : decode cX0_copyFrom 49 = .ok (.aload_n 1, 1) := by decide +kernel
theorem dX0_copyFrom_50 : decode cX0_copyFrom 50 = .ok (.getfield 31, 3) := by decide +kernel
theorem dX0_copyFrom_53 : decode cX0_copyFrom 53 = .ok (.putfield 31, 3) := by decide +kernel
theorem dX0_copyFrom_56 : decode cX0_copyFrom 56 = .ok (.return_, 1) := by decide +kernel
theorem dX0_takeOil_0 : decode cX0_takeOil 0 = .ok (.aload_n 0, 1) := by decide +kernel
theorem dX0_takeOil_1 : decode cX0_takeOil 1 = .ok (.aload_n 0, 1) := by decide +kernel
theorem dX0_takeOil_2 : decode cX0_takeOil 2 = .ok (.getfield 25, 3) := by decide +kernel
theorem dX0_takeOil_5 : decode cX0_takeOil 5 = .ok (.iconst 1, 1) := by decide +kernel
theorem dX0_takeOil_6 : decode cX0_takeOil 6 = .ok (.isub, 1) := by decide +kernel
theorem dX0_takeOil_7 : decode cX0_takeOil 7 = .ok (.iconst 0, 1) := by decide +kernel
theorem dX0_takeOil_8 : decode cX0_takeOil 8 = .ok (.invokestatic 34, 3) := by decide +kernel
theorem dX0_takeOil_11 : decode cX0_takeOil 11 = .ok (.putfield 25, 3) := by decide +kernel
theorem dX0_takeOil_14 : decode cX0_takeOil 14 = .ok (.aload_n 0, 1) := by decide +kernel
theorem dX0_takeOil_15 : decode cX0_takeOil 15 = .ok (.iconst 0, 1) := by decide +kernel
theorem dX0_takeOil_16 : decode cX0_takeOil 16 = .ok (.putfield 22, 3) := by decide +kernel
theorem dX0_takeOil_19 : decode cX0_takeOil 19 = .ok (.return_, 1) := by decide +kernel
theorem dX0_minutesToHour_0 : decode cX0_minutesToHour 0 = .ok (.bipush 60, 2) := by decide +kernel
theorem dX0_minutesToHour_2 : decode cX0_minutesToHour 2 = .ok (.aload_n 0, 1) := by decide +kernel
theorem dX0_minutesToHour_3 : decode cX0_minutesToHour 3 = .ok (.getfield 19, 3) := by decide +kernel
theorem dX0_minutesToHour_6 : decode cX0_minutesToHour 6 = .ok (.bipush 60, 2) := by decide +kernel
theorem dX0_minutesToHour_8 : decode cX0_minutesToHour 8 = .ok (.irem, 1) := by decide +kernel
theorem dX0_minutesToHour_9 : decode cX0_minutesToHour 9 = .ok (.isub, 1) := by decide +kernel
theorem dX0_minutesToHour_10 : decode cX0_minutesToHour 10 = .ok (.ireturn, 1) := by decide +kernel
theorem dX0_passMinute_0 : decode cX0_passMinute 0 = .ok (.aload_n 0, 1) := by decide +kernel
theorem dX0_passMinute_1 : decode cX0_passMinute 1 = .ok (.dup, 1) := by decide +kernel
theorem dX0_passMinute_2 : decode cX0_passMinute 2 = .ok (.getfield 22, 3) := by decide +kernel
theorem dX0_passMinute_5 : decode cX0_passMinute 5 = .ok (.iload_n 1, 1) := by decide +kernel
theorem dX0_passMinute_6 : decode cX0_passMinute 6 = .ok (.aload_n 0, 1) := by decide +kernel
theorem dX0_passMinute_7 : decode cX0_passMinute 7 = .ok (.getfield 25, 3) := by decide +kernel
theorem dX0_passMinute_10 : decode cX0_passMinute 10 = .ok (.iadd, 1) := by decide +kernel
theorem dX0_passMinute_11 : decode cX0_passMinute 11 = .ok (.iadd, 1) := by decide +kernel
theorem dX0_passMinute_12 : decode cX0_passMinute 12 = .ok (.putfield 22, 3) := by decide +kernel
theorem dX0_passMinute_15 : decode cX0_passMinute 15 = .ok (.aload_n 0, 1) := by decide +kernel
theorem dX0_passMinute_16 : decode cX0_passMinute 16 = .ok (.getfield 22, 3) := by decide +kernel
theorem dX0_passMinute_19 : decode cX0_passMinute 19 = .ok (.bipush 10, 2) := by decide +kernel
theorem dX0_passMinute_21 : decode cX0_passMinute 21 = .ok (.aload_n 0, 1) := by decide +kernel
theorem dX0_passMinute_22 : decode cX0_passMinute 22 = .ok (.getfield 9, 3) := by decide +kernel
theorem dX0_passMinute_25 : decode cX0_passMinute 25 = .ok (.imul, 1) := by decide +kernel
theorem dX0_passMinute_26 : decode cX0_passMinute 26 = .ok (.if_icmp .lt 9, 3) := by decide +kernel
theorem dX0_passMinute_29 : decode cX0_passMinute 29 = .ok (.aload_n 0, 1) := by decide +kernel
theorem dX0_passMinute_30 : decode cX0_passMinute 30 = .ok (.invokevirtual 40, 3) := by decide +kernel
theorem dX0_passMinute_33 : decode cX0_passMinute 33 = .ok (.iconst 0, 1) := by decide +kernel
theorem dX0_passMinute_34 : decode cX0_passMinute 34 = .ok (.ireturn, 1) := by decide +kernel
theorem dX0_passMinute_35 : decode cX0_passMinute 35 = .ok (.aload_n 0, 1) := by decide +kernel
theorem dX0_passMinute_36 : decode cX0_passMinute 36 = .ok (.aload_n 0, 1) := by decide +kernel
theorem dX0_passMinute_37 : decode cX0_passMinute 37 = .ok (.getfield 19, 3) := by decide +kernel
theorem dX0_passMinute_40 : decode cX0_passMinute 40 = .ok (.iconst 1, 1) := by decide +kernel
theorem dX0_passMinute_41 : decode cX0_passMinute 41 = .ok (.iadd, 1) := by decide +kernel
theorem dX0_passMinute_42 : decode cX0_passMinute 42 = .ok (.sipush 720, 3) := by decide +kernel
theorem dX0_passMinute_45 : decode cX0_passMinute 45 = .ok (.irem, 1) := by decide +kernel
theorem dX0_passMinute_46 : decode cX0_passMinute 46 = .ok (.putfield 19, 3) := by decide +kernel
theorem dX0_passMinute_49 : decode cX0_passMinute 49 = .ok (.aload_n 0, 1) := by decide +kernel
theorem dX0_passMinute_50 : decode cX0_passMinute 50 = .ok (.getfield 15, 3) := by decide +kernel
theorem dX0_passMinute_53 : decode cX0_passMinute 53 = .ok (.ifCond .eq 13, 3) := by decide +kernel
theorem dX0_passMinute_56 : decode cX0_passMinute 56 = .ok (.aload_n 0, 1) := by decide +kernel
theorem dX0_passMinute_57 : decode cX0_passMinute 57 = .ok (.getfield 19, 3) := by decide +kernel
theorem dX0_passMinute_60 : decode cX0_passMinute 60 = .ok (.bipush 60, 2) := by decide +kernel
theorem dX0_passMinute_62 : decode cX0_passMinute 62 = .ok (.irem, 1) := by decide +kernel
theorem dX0_passMinute_63 : decode cX0_passMinute 63 = .ok (.ifCond .eq 5, 3) := by decide +kernel
theorem dX0_passMinute_66 : decode cX0_passMinute 66 = .ok (.iconst 0, 1) := by decide +kernel
theorem dX0_passMinute_67 : decode cX0_passMinute 67 = .ok (.ireturn, 1) := by decide +kernel
theorem dX0_passMinute_68 : decode cX0_passMinute 68 = .ok (.aload_n 0, 1) := by decide +kernel
theorem dX0_passMinute_69 : decode cX0_passMinute 69 = .ok (.getfield 19, 3) := by decide +kernel
theorem dX0_passMinute_72 : decode cX0_passMinute 72 = .ok (.invokestatic 43, 3) := by decide +kernel
theorem dX0_passMinute_75 : decode cX0_passMinute 75 = .ok (.istore_n 2, 1) := by decide +kernel
theorem dX0_passMinute_76 : decode cX0_passMinute 76 = .ok (.aload_n 0, 1) := by decide +kernel
theorem dX0_passMinute_77 : decode cX0_passMinute 77 = .ok (.dup, 1) := by decide +kernel
theorem dX0_passMinute_78 : decode cX0_passMinute 78 = .ok (.getfield 31, 3) := by decide +kernel
theorem dX0_passMinute_81 : decode cX0_passMinute 81 = .ok (.iload_n 2, 1) := by decide +kernel
theorem dX0_passMinute_82 : decode cX0_passMinute 82 = .ok (.iadd, 1) := by decide +kernel
theorem dX0_passMinute_83 : decode cX0_passMinute 83 = .ok (.putfield 31, 3) := by decide +kernel
theorem dX0_passMinute_86 : decode cX0_passMinute 86 = .ok (.iload_n 2, 1) := by decide +kernel
theorem dX0_passMinute_87 : decode cX0_passMinute 87 = .ok (.ireturn, 1) := by decide +kernel
theorem dX0_slip_0 : decode cX0_slip 0 = .ok (.aload_n 0, 1) := by decide +kernel
theorem dX0_slip_1 : decode cX0_slip 1 = .ok (.dup, 1) := by decide +kernel
theorem dX0_slip_2 : decode cX0_slip 2 = .ok (.getfield 22, 3) := by decide +kernel
theorem dX0_slip_5 : decode cX0_slip 5 = .ok (.bipush 10, 2) := by decide +kernel
theorem dX0_slip_7 : decode cX0_slip 7 = .ok (.aload_n 0, 1) := by decide +kernel
theorem dX0_slip_8 : decode cX0_slip 8 = .ok (.getfield 9, 3) := by decide +kernel
theorem dX0_slip_11 : decode cX0_slip 11 = .ok (.imul, 1) := by decide +kernel
theorem dX0_slip_12 : decode cX0_slip 12 = .ok (.isub, 1) := by decide +kernel
theorem dX0_slip_13 : decode cX0_slip 13 = .ok (.putfield 22, 3) := by decide +kernel
theorem dX0_slip_16 : decode cX0_slip 16 = .ok (.aload_n 0, 1) := by decide +kernel
theorem dX0_slip_17 : decode cX0_slip 17 = .ok (.dup, 1) := by decide +kernel
theorem dX0_slip_18 : decode cX0_slip 18 = .ok (.getfield 28, 3) := by decide +kernel
theorem dX0_slip_21 : decode cX0_slip 21 = .ok (.iconst 1, 1) := by decide +kernel
theorem dX0_slip_22 : decode cX0_slip 22 = .ok (.iadd, 1) := by decide +kernel
theorem dX0_slip_23 : decode cX0_slip 23 = .ok (.putfield 28, 3) := by decide +kernel
theorem dX0_slip_26 : decode cX0_slip 26 = .ok (.aload_n 0, 1) := by decide +kernel
theorem dX0_slip_27 : decode cX0_slip 27 = .ok (.getfield 28, 3) := by decide +kernel
theorem dX0_slip_30 : decode cX0_slip 30 = .ok (.iconst 3, 1) := by decide +kernel
theorem dX0_slip_31 : decode cX0_slip 31 = .ok (.irem, 1) := by decide +kernel
theorem dX0_slip_32 : decode cX0_slip 32 = .ok (.ifCond .ne 18, 3) := by decide +kernel
theorem dX0_slip_35 : decode cX0_slip 35 = .ok (.aload_n 0, 1) := by decide +kernel
theorem dX0_slip_36 : decode cX0_slip 36 = .ok (.aload_n 0, 1) := by decide +kernel
theorem dX0_slip_37 : decode cX0_slip 37 = .ok (.getfield 25, 3) := by decide +kernel
theorem dX0_slip_40 : decode cX0_slip 40 = .ok (.iconst 1, 1) := by decide +kernel
theorem dX0_slip_41 : decode cX0_slip 41 = .ok (.iadd, 1) := by decide +kernel
theorem dX0_slip_42 : decode cX0_slip 42 = .ok (.bipush 9, 2) := by decide +kernel
theorem dX0_slip_44 : decode cX0_slip 44 = .ok (.invokestatic 47, 3) := by decide +kernel
theorem dX0_slip_47 : decode cX0_slip 47 = .ok (.putfield 25, 3) := by decide +kernel
theorem dX0_slip_50 : decode cX0_slip 50 = .ok (.return_, 1) := by decide +kernel
theorem dX0_goBack_0 : decode cX0_goBack 0 = .ok (.aload_n 0, 1) := by decide +kernel
theorem dX0_goBack_1 : decode cX0_goBack 1 = .ok (.aload_n 0, 1) := by decide +kernel
theorem dX0_goBack_2 : decode cX0_goBack 2 = .ok (.getfield 19, 3) := by decide +kernel
theorem dX0_goBack_5 : decode cX0_goBack 5 = .ok (.ifCond .ne 9, 3) := by decide +kernel
theorem dX0_goBack_8 : decode cX0_goBack 8 = .ok (.sipush 719, 3) := by decide +kernel
theorem dX0_goBack_11 : decode cX0_goBack 11 = .ok (.goto 9, 3) := by decide +kernel
theorem dX0_goBack_14 : decode cX0_goBack 14 = .ok (.aload_n 0, 1) := by decide +kernel
theorem dX0_goBack_15 : decode cX0_goBack 15 = .ok (.getfield 19, 3) := by decide +kernel
theorem dX0_goBack_18 : decode cX0_goBack 18 = .ok (.iconst 1, 1) := by decide +kernel
theorem dX0_goBack_19 : decode cX0_goBack 19 = .ok (.isub, 1) := by decide +kernel
theorem dX0_goBack_20 : decode cX0_goBack 20 = .ok (.putfield 19, 3) := by decide +kernel
theorem dX0_goBack_23 : decode cX0_goBack 23 = .ok (.return_, 1) := by decide +kernel
theorem dX1_init_0 : decode cX1_init 0 = .ok (.aload_n 0, 1) := by decide +kernel
theorem dX1_init_1 : decode cX1_init 1 = .ok (.invokespecial 3, 3) := by decide +kernel
theorem dX1_init_4 : decode cX1_init 4 = .ok (.aload_n 0, 1) := by decide +kernel
theorem dX1_init_5 : decode cX1_init 5 = .ok (.iconst 5, 1) := by decide +kernel
theorem dX1_init_6 : decode cX1_init 6 = .ok (.anewarray 9, 3) := by decide +kernel
theorem dX1_init_9 : decode cX1_init 9 = .ok (.putfield 11, 3) := by decide +kernel
theorem dX1_init_12 : decode cX1_init 12 = .ok (.iconst 0, 1) := by decide +kernel
theorem dX1_init_13 : decode cX1_init 13 = .ok (.istore_n 1, 1) := by decide +kernel
theorem dX1_init_14 : decode cX1_init 14 = .ok (.iload_n 1, 1) := by decide +kernel
theorem dX1_init_15 : decode cX1_init 15 = .ok (.iconst 5, 1) := by decide +kernel
theorem dX1_init_16 : decode cX1_init 16 = .ok (.if_icmp .ge 22, 3) := by decide +kernel
theorem dX1_init_19 : decode cX1_init 19 = .ok (.aload_n 0, 1) := by decide +kernel
theorem dX1_init_20 : decode cX1_init 20 = .ok (.getfield 11, 3) := by decide +kernel
theorem dX1_init_23 : decode cX1_init 23 = .ok (.iload_n 1, 1) := by decide +kernel
theorem dX1_init_24 : decode cX1_init 24 = .ok (.new 9, 3) := by decide +kernel
theorem dX1_init_27 : decode cX1_init 27 = .ok (.dup, 1) := by decide +kernel
theorem dX1_init_28 : decode cX1_init 28 = .ok (.invokespecial 17, 3) := by decide +kernel
theorem dX1_init_31 : decode cX1_init 31 = .ok (.aastore, 1) := by decide +kernel
theorem dX1_init_32 : decode cX1_init 32 = .ok (.iinc 1 1, 3) := by decide +kernel
theorem dX1_init_35 : decode cX1_init 35 = .ok (.goto (-21), 3) := by decide +kernel
theorem dX1_init_38 : decode cX1_init 38 = .ok (.return_, 1) := by decide +kernel
theorem dX1_record_0 : decode cX1_record 0 = .ok (.aload_n 0, 1) := by decide +kernel
theorem dX1_record_1 : decode cX1_record 1 = .ok (.aload_n 0, 1) := by decide +kernel
theorem dX1_record_2 : decode cX1_record 2 = .ok (.getfield 18, 3) := by decide +kernel
theorem dX1_record_5 : decode cX1_record 5 = .ok (.iconst 1, 1) := by decide +kernel
theorem dX1_record_6 : decode cX1_record 6 = .ok (.iadd, 1) := by decide +kernel
theorem dX1_record_7 : decode cX1_record 7 = .ok (.iconst 5, 1) := by decide +kernel
theorem dX1_record_8 : decode cX1_record 8 = .ok (.irem, 1) := by decide +kernel
theorem dX1_record_9 : decode cX1_record 9 = .ok (.putfield 18, 3) := by decide +kernel
theorem dX1_record_12 : decode cX1_record 12 = .ok (.aload_n 0, 1) := by decide +kernel
theorem dX1_record_13 : decode cX1_record 13 = .ok (.getfield 11, 3) := by decide +kernel
theorem dX1_record_16 : decode cX1_record 16 = .ok (.aload_n 0, 1) := by decide +kernel
theorem dX1_record_17 : decode cX1_record 17 = .ok (.getfield 18, 3) := by decide +kernel
theorem dX1_record_20 : decode cX1_record 20 = .ok (.aaload, 1) := by decide +kernel
theorem dX1_record_21 : decode cX1_record 21 = .ok (.aload_n 1, 1) := by decide +kernel
theorem dX1_record_22 : decode cX1_record 22 = .ok (.invokevirtual 22, 3) := by decide +kernel
theorem dX1_record_25 : decode cX1_record 25 = .ok (.aload_n 0, 1) := by decide +kernel
theorem dX1_record_26 : decode cX1_record 26 = .ok (.aload_n 0, 1) := by decide +kernel
theorem dX1_record_27 : decode cX1_record 27 = .ok (.getfield 26, 3) := by decide +kernel
theorem dX1_record_30 : decode cX1_record 30 = .ok (.iconst 1, 1) := by decide +kernel
theorem dX1_record_31 : decode cX1_record 31 = .ok (.iadd, 1) := by decide +kernel
theorem dX1_record_32 : decode cX1_record 32 = .ok (.iconst 5, 1) := by decide +kernel
theorem dX1_record_33 : decode cX1_record 33 = .ok (.invokestatic 29, 3) := by decide +kernel
theorem dX1_record_36 : decode cX1_record 36 = .ok (.putfield 26, 3) := by decide +kernel
theorem dX1_record_39 : decode cX1_record 39 = .ok (.return_, 1) := by decide +kernel
theorem dX2_init_0 : decode cX2_init 0 = .ok (.aload_n 0, 1) := by decide +kernel
theorem dX2_init_1 : decode cX2_init 1 = .ok (.invokespecial 3, 3) := by decide +kernel
theorem dX2_init_4 : decode cX2_init 4 = .ok (.aload_n 0, 1) := by decide +kernel
theorem dX2_init_5 : decode cX2_init 5 = .ok (.bipush 6, 2) := by decide +kernel
theorem dX2_init_7 : decode cX2_init 7 = .ok (.newarray .int, 2) := by decide +kernel
theorem dX2_init_9 : decode cX2_init 9 = .ok (.putfield 9, 3) := by decide +kernel
theorem dX2_init_12 : decode cX2_init 12 = .ok (.aload_n 0, 1) := by decide +kernel
theorem dX2_init_13 : decode cX2_init 13 = .ok (.bipush 6, 2) := by decide +kernel
theorem dX2_init_15 : decode cX2_init 15 = .ok (.newarray .int, 2) := by decide +kernel
theorem dX2_init_17 : decode cX2_init 17 = .ok (.putfield 15, 3) := by decide +kernel
theorem dX2_init_20 : decode cX2_init 20 = .ok (.return_, 1) := by decide +kernel
theorem dX2_copyFrom_0 : decode cX2_copyFrom 0 = .ok (.aload_n 1, 1) := by decide +kernel
theorem dX2_copyFrom_1 : decode cX2_copyFrom 1 = .ok (.getfield 9, 3) := by decide +kernel
theorem dX2_copyFrom_4 : decode cX2_copyFrom 4 = .ok (.iconst 0, 1) := by decide +kernel
theorem dX2_copyFrom_5 : decode cX2_copyFrom 5 = .ok (.aload_n 0, 1) := by decide +kernel
theorem dX2_copyFrom_6 : decode cX2_copyFrom 6 = .ok (.getfield 9, 3) := by decide +kernel
theorem dX2_copyFrom_9 : decode cX2_copyFrom 9 = .ok (.iconst 0, 1) := by decide +kernel
theorem dX2_copyFrom_10 : decode cX2_copyFrom 10 = .ok (.bipush 6, 2) := by decide +kernel
theorem dX2_copyFrom_12 : decode cX2_copyFrom 12 = .ok (.invokestatic 18, 3) := by decide +kernel
theorem dX2_copyFrom_15 : decode cX2_copyFrom 15 = .ok (.aload_n 1, 1) := by decide +kernel
theorem dX2_copyFrom_16 : decode cX2_copyFrom 16 = .ok (.getfield 15, 3) := by decide +kernel
theorem dX2_copyFrom_19 : decode cX2_copyFrom 19 = .ok (.iconst 0, 1) := by decide +kernel
theorem dX2_copyFrom_20 : decode cX2_copyFrom 20 = .ok (.aload_n 0, 1) := by decide +kernel
theorem dX2_copyFrom_21 : decode cX2_copyFrom 21 = .ok (.getfield 15, 3) := by decide +kernel
theorem dX2_copyFrom_24 : decode cX2_copyFrom 24 = .ok (.iconst 0, 1) := by decide +kernel
theorem dX2_copyFrom_25 : decode cX2_copyFrom 25 = .ok (.bipush 6, 2) := by decide +kernel
theorem dX2_copyFrom_27 : decode cX2_copyFrom 27 = .ok (.invokestatic 18, 3) := by decide +kernel
theorem dX2_copyFrom_30 : decode cX2_copyFrom 30 = .ok (.aload_n 0, 1) := by decide +kernel
theorem dX2_copyFrom_31 : decode cX2_copyFrom 31 = .ok (.aload_n 1, 1) := by decide +kernel
theorem dX2_copyFrom_32 : decode cX2_copyFrom 32 = .ok (.getfield 24, 3) := by decide +kernel
theorem dX2_copyFrom_35 : decode cX2_copyFrom 35 = .ok (.putfield 24, 3) := by decide +kernel
theorem dX2_copyFrom_38 : decode cX2_copyFrom 38 = .ok (.return_, 1) := by decide +kernel
theorem dX2_hasStart_0 : decode cX2_hasStart 0 = .ok (.iconst 0, 1) := by decide +kernel
theorem dX2_hasStart_1 : decode cX2_hasStart 1 = .ok (.istore_n 2, 1) := by decide +kernel
theorem dX2_hasStart_2 : decode cX2_hasStart 2 = .ok (.iload_n 2, 1) := by decide +kernel
theorem dX2_hasStart_3 : decode cX2_hasStart 3 = .ok (.aload_n 0, 1) := by decide +kernel
theorem dX2_hasStart_4 : decode cX2_hasStart 4 = .ok (.getfield 24, 3) := by decide +kernel
theorem dX2_hasStart_7 : decode cX2_hasStart 7 = .ok (.if_icmp .ge 21, 3) := by decide +kernel
theorem dX2_hasStart_10 : decode cX2_hasStart 10 = .ok (.aload_n 0, 1) := by decide +kernel
theorem dX2_hasStart_11 : decode cX2_hasStart 11 = .ok (.getfield 9, 3) := by decide +kernel
theorem dX2_hasStart_14 : decode cX2_hasStart 14 = .ok (.iload_n 2, 1) := by decide +kernel
theorem dX2_hasStart_15 : decode cX2_hasStart 15 = .ok (.iaload, 1) := by decide +kernel
theorem dX2_hasStart_16 : decode cX2_hasStart 16 = .ok (.iload_n 1, 1) := by decide +kernel
theorem dX2_hasStart_17 : decode cX2_hasStart 17 = .ok (.if_icmp .ne 5, 3) := by decide +kernel
theorem dX2_hasStart_20 : decode cX2_hasStart 20 = .ok (.iconst 1, 1) := by decide +kernel
theorem dX2_hasStart_21 : decode cX2_hasStart 21 = .ok (.ireturn, 1) := by decide +kernel
theorem dX2_hasStart_22 : decode cX2_hasStart 22 = .ok (.iinc 2 1, 3) := by decide +kernel
theorem dX2_hasStart_25 : decode cX2_hasStart 25 = .ok (.goto (-23), 3) := by decide +kernel
theorem dX2_hasStart_28 : decode cX2_hasStart 28 = .ok (.iconst 0, 1) := by decide +kernel
theorem dX2_hasStart_29 : decode cX2_hasStart 29 = .ok (.ireturn, 1) := by decide +kernel
theorem dX2_errorOfAdding_0 : decode cX2_errorOfAdding 0 = .ok (.iload_n 1, 1) := by decide +kernel
theorem dX2_errorOfAdding_1 : decode cX2_errorOfAdding 1 = .ok (.iconst 0, 1) := by decide +kernel
theorem dX2_errorOfAdding_2 : decode cX2_errorOfAdding 2 = .ok (.sipush 1439, 3) := by decide +kernel
theorem dX2_errorOfAdding_5 : decode cX2_errorOfAdding 5 = .ok (.invokestatic 28, 3) := by decide +kernel
theorem dX2_errorOfAdding_8 : decode cX2_errorOfAdding 8 = .ok (.ifCond .eq 14, 3) := by decide +kernel
theorem dX2_errorOfAdding_11 : decode cX2_errorOfAdding 11 = .ok (.iload_n 2, 1) := by decide +kernel
theorem dX2_errorOfAdding_12 : decode cX2_errorOfAdding 12 = .ok (.bipush (-30), 2) := by decide +kernel
theorem dX2_errorOfAdding_14 : decode cX2_errorOfAdding 14 = .ok (.bipush 30, 2) := by decide +kernel
theorem dX2_errorOfAdding_16 : decode cX2_errorOfAdding 16 = .ok (.invokestatic 28, 3) := by decide +kernel
theorem dX2_errorOfAdding_19 : decode cX2_errorOfAdding 19 = .ok (.ifCond .ne 7, 3) := by decide +kernel
theorem dX2_errorOfAdding_22 : decode cX2_errorOfAdding 22 = .ok (.sipush (-1002), 3) := by decide +kernel
theorem dX2_errorOfAdding_25 : decode cX2_errorOfAdding 25 = .ok (.ireturn, 1) := by decide +kernel
theorem dX2_errorOfAdding_26 : decode cX2_errorOfAdding 26 = .ok (.aload_n 0, 1) := by decide +kernel
theorem dX2_errorOfAdding_27 : decode cX2_errorOfAdding 27 = .ok (.iload_n 1, 1) := by decide +kernel
theorem dX2_errorOfAdding_28 : decode cX2_errorOfAdding 28 = .ok (.invokevirtual 32, 3) := by decide +kernel
theorem dX2_errorOfAdding_31 : decode cX2_errorOfAdding 31 = .ok (.ifCond .eq 7, 3) := by decide +kernel
theorem dX2_errorOfAdding_34 : decode cX2_errorOfAdding 34 = .ok (.sipush (-1003), 3) := by decide +kernel
theorem dX2_errorOfAdding_37 : decode cX2_errorOfAdding 37 = .ok (.ireturn, 1) := by decide +kernel
theorem dX2_errorOfAdding_38 : decode cX2_errorOfAdding 38 = .ok (.aload_n 0, 1) := by decide +kernel
theorem dX2_errorOfAdding_39 : decode cX2_errorOfAdding 39 = .ok (.getfield 24, 3) := by decide +kernel
theorem dX2_errorOfAdding_42 : decode cX2_errorOfAdding 42 = .ok (.bipush 6, 2) := by decide +kernel
theorem dX2_errorOfAdding_44 : decode cX2_errorOfAdding 44 = .ok (.if_icmp .lt 9, 3) := by decide +kernel
theorem dX2_errorOfAdding_47 : decode cX2_errorOfAdding 47 = .ok (.sipush (-1004), 3) := by decide +kernel
theorem dX2_errorOfAdding_50 : decode cX2_errorOfAdding 50 = .ok (.goto 4, 3) := by decide +kernel
theorem dX2_errorOfAdding_53 : decode cX2_errorOfAdding 53 = .ok (.iconst 0, 1) := by decide +kernel
theorem dX2_errorOfAdding_54 : decode cX2_errorOfAdding 54 = .ok (.ireturn, 1) := by decide +kernel
theorem dX2_add_0 : decode cX2_add 0 = .ok (.aload_n 0, 1) := by decide +kernel
theorem dX2_add_1 : decode cX2_add 1 = .ok (.getfield 24, 3) := by decide +kernel
theorem dX2_add_4 : decode cX2_add 4 = .ok (.bipush 6, 2) := by decide +kernel
theorem dX2_add_6 : decode cX2_add 6 = .ok (.if_icmp .lt 4, 3) := by decide +kernel
theorem dX2_add_9 : decode cX2_add 9 = .ok (.return_, 1) := by decide +kernel
theorem dX2_add_10 : decode cX2_add 10 = .ok (.aload_n 0, 1) := by decide +kernel
theorem dX2_add_11 : decode cX2_add 11 = .ok (.getfield 24, 3) := by decide +kernel
theorem dX2_add_14 : decode cX2_add 14 = .ok (.istore_n 3, 1) := by decide +kernel
theorem dX2_add_15 : decode cX2_add 15 = .ok (.iload_n 3, 1) := by decide +kernel
theorem dX2_add_16 : decode cX2_add 16 = .ok (.ifCond .le 49, 3) := by decide +kernel
theorem dX2_add_19 : decode cX2_add 19 = .ok (.aload_n 0, 1) := by decide +kernel
theorem dX2_add_20 : decode cX2_add 20 = .ok (.getfield 9, 3) := by decide +kernel
theorem dX2_add_23 : decode cX2_add 23 = .ok (.iload_n 3, 1) := by decide +kernel
theorem dX2_add_24 : decode cX2_add 24 = .ok (.iconst 1, 1) := by decide +kernel
theorem dX2_add_25 : decode cX2_add 25 = .ok (.isub, 1) := by decide +kernel
theorem dX2_add_26 : decode cX2_add 26 = .ok (.iaload, 1) := by decide +kernel
theorem dX2_add_27 : decode cX2_add 27 = .ok (.iload_n 1, 1) := by decide +kernel
theorem dX2_add_28 : decode cX2_add 28 = .ok (.if_icmp .le 37, 3) := by decide +kernel
theorem dX2_add_31 : decode cX2_add 31 = .ok (.aload_n 0, 1) := by decide +kernel
theorem dX2_add_32 : decode cX2_add 32 = .ok (.getfield 9, 3) := by decide +kernel
theorem dX2_add_35 : decode cX2_add 35 = .ok (.iload_n 3, 1) := by decide +kernel
theorem dX2_add_36 : decode cX2_add 36 = .ok (.aload_n 0, 1) := by decide +kernel
theorem dX2_add_37 : decode cX2_add 37 = .ok (.getfield 9, 3) := by decide +kernel
theorem dX2_add_40 : decode cX2_add 40 = .ok (.iload_n 3, 1) := by decide +kernel
theorem dX2_add_41 : decode cX2_add 41 = .ok (.iconst 1, 1) := by decide +kernel
theorem dX2_add_42 : decode cX2_add 42 = .ok (.isub, 1) := by decide +kernel
theorem dX2_add_43 : decode cX2_add 43 = .ok (.iaload, 1) := by decide +kernel
theorem dX2_add_44 : decode cX2_add 44 = .ok (.iastore, 1) := by decide +kernel
theorem dX2_add_45 : decode cX2_add 45 = .ok (.aload_n 0, 1) := by decide +kernel
theorem dX2_add_46 : decode cX2_add 46 = .ok (.getfield 15, 3) := by decide +kernel
theorem dX2_add_49 : decode cX2_add 49 = .ok (.iload_n 3, 1) := by decide +kernel
theorem dX2_add_50 : decode cX2_add 50 = .ok (.aload_n 0, 1) := by decide +kernel
theorem dX2_add_51 : decode cX2_add 51 = .ok (.getfield 15, 3) := by decide +kernel
theorem dX2_add_54 : decode cX2_add 54 = .ok (.iload_n 3, 1) := by decide +kernel
theorem dX2_add_55 : decode cX2_add 55 = .ok (.iconst 1, 1) := by decide +kernel
theorem dX2_add_56 : decode cX2_add 56 = .ok (.isub, 1) := by decide +kernel
theorem dX2_add_57 : decode cX2_add 57 = .ok (.iaload, 1) := by decide +kernel
theorem dX2_add_58 : decode cX2_add 58 = .ok (.iastore, 1) := by decide +kernel
theorem dX2_add_59 : decode cX2_add 59 = .ok (.iinc 3 (-1), 3) := by decide +kernel
theorem dX2_add_62 : decode cX2_add 62 = .ok (.goto (-47), 3) := by decide +kernel
theorem dX2_add_65 : decode cX2_add 65 = .ok (.aload_n 0, 1) := by decide +kernel
theorem dX2_add_66 : decode cX2_add 66 = .ok (.getfield 9, 3) := by decide +kernel
theorem dX2_add_69 : decode cX2_add 69 = .ok (.iload_n 3, 1) := by decide +kernel
theorem dX2_add_70 : decode cX2_add 70 = .ok (.iload_n 1, 1) := by decide +kernel
theorem dX2_add_71 : decode cX2_add 71 = .ok (.iastore, 1) := by decide +kernel
theorem dX2_add_72 : decode cX2_add 72 = .ok (.aload_n 0, 1) := by decide +kernel
theorem dX2_add_73 : decode cX2_add 73 = .ok (.getfield 15, 3) := by decide +kernel
theorem dX2_add_76 : decode cX2_add 76 = .ok (.iload_n 3, 1) := by decide +kernel
theorem dX2_add_77 : decode cX2_add 77 = .ok (.iload_n 2, 1) := by decide +kernel
theorem dX2_add_78 : decode cX2_add 78 = .ok (.iastore, 1) := by decide +kernel
theorem dX2_add_79 : decode cX2_add 79 = .ok (.aload_n 0, 1) := by decide +kernel
theorem dX2_add_80 : decode cX2_add 80 = .ok (.dup, 1) := by decide +kernel
theorem dX2_add_81 : decode cX2_add 81 = .ok (.getfield 24, 3) := by decide +kernel
theorem dX2_add_84 : decode cX2_add 84 = .ok (.iconst 1, 1) := by decide +kernel
theorem dX2_add_85 : decode cX2_add 85 = .ok (.iadd, 1) := by decide +kernel
theorem dX2_add_86 : decode cX2_add 86 = .ok (.putfield 24, 3) := by decide +kernel
theorem dX2_add_89 : decode cX2_add 89 = .ok (.return_, 1) := by decide +kernel
theorem dX2_remove_0 : decode cX2_remove 0 = .ok (.iconst 0, 1) := by decide +kernel
theorem dX2_remove_1 : decode cX2_remove 1 = .ok (.istore_n 2, 1) := by decide +kernel
theorem dX2_remove_2 : decode cX2_remove 2 = .ok (.iconst 0, 1) := by decide +kernel
theorem dX2_remove_3 : decode cX2_remove 3 = .ok (.istore_n 3, 1) := by decide +kernel
theorem dX2_remove_4 : decode cX2_remove 4 = .ok (.iconst 0, 1) := by decide +kernel
theorem dX2_remove_5 : decode cX2_remove 5 = .ok (.istore 4, 2) := by decide +kernel
theorem dX2_remove_7 : decode cX2_remove 7 = .ok (.iload 4, 2) := by decide +kernel
theorem dX2_remove_9 : decode cX2_remove 9 = .ok (.aload_n 0, 1) := by decide +kernel
theorem dX2_remove_10 : decode cX2_remove 10 = .ok (.getfield 24, 3) := by decide +kernel
theorem dX2_remove_13 : decode cX2_remove 13 = .ok (.if_icmp .ge 60, 3) := by decide +kernel
theorem dX2_remove_16 : decode cX2_remove 16 = .ok (.aload_n 0, 1) := by decide +kernel
theorem dX2_remove_17 : decode cX2_remove 17 = .ok (.getfield 9, 3) := by decide +kernel
theorem dX2_remove_20 : decode cX2_remove 20 = .ok (.iload 4, 2) := by decide +kernel
theorem dX2_remove_22 : decode cX2_remove 22 = .ok (.iaload, 1) := by decide +kernel
theorem dX2_remove_23 : decode cX2_remove 23 = .ok (.iload_n 1, 1) := by decide +kernel
theorem dX2_remove_24 : decode cX2_remove 24 = .ok (.if_icmp .ne 14, 3) := by decide +kernel
theorem dX2_remove_27 : decode cX2_remove 27 = .ok (.aload_n 0, 1) := by decide +kernel
theorem dX2_remove_28 : decode cX2_remove 28 = .ok (.getfield 15, 3) := by decide +kernel
theorem dX2_remove_31 : decode cX2_remove 31 = .ok (.iload 4, 2) := by decide +kernel
theorem dX2_remove_33 : decode cX2_remove 33 = .ok (.iaload, 1) := by decide +kernel
theorem dX2_remove_34 : decode cX2_remove 34 = .ok (.istore_n 2, 1) := by decide +kernel
theorem dX2_remove_35 : decode cX2_remove 35 = .ok (.goto 32, 3) := by decide +kernel
theorem dX2_remove_38 : decode cX2_remove 38 = .ok (.aload_n 0, 1) := by decide +kernel
theorem dX2_remove_39 : decode cX2_remove 39 = .ok (.getfield 9, 3) := by decide +kernel
theorem dX2_remove_42 : decode cX2_remove 42 = .ok (.iload_n 3, 1) := by decide +kernel
theorem dX2_remove_43 : decode cX2_remove 43 = .ok (.aload_n 0, 1) := by decide +kernel
theorem dX2_remove_44 : decode cX2_remove 44 = .ok (.getfield 9, 3) := by decide +kernel
theorem dX2_remove_47 : decode cX2_remove 47 = .ok (.iload 4, 2) := by decide +kernel
theorem dX2_remove_49 : decode cX2_remove 49 = .ok (.iaload, 1) := by decide +kernel
theorem dX2_remove_50 : decode cX2_remove 50 = .ok (.iastore, 1) := by decide +kernel
theorem dX2_remove_51 : decode cX2_remove 51 = .ok (.aload_n 0, 1) := by decide +kernel
theorem dX2_remove_52 : decode cX2_remove 52 = .ok (.getfield 15, 3) := by decide +kernel
theorem dX2_remove_55 : decode cX2_remove 55 = .ok (.iload_n 3, 1) := by decide +kernel
theorem dX2_remove_56 : decode cX2_remove 56 = .ok (.aload_n 0, 1) := by decide +kernel
theorem dX2_remove_57 : decode cX2_remove 57 = .ok (.getfield 15, 3) := by decide +kernel
theorem dX2_remove_60 : decode cX2_remove 60 = .ok (.iload 4, 2) := by decide +kernel
theorem dX2_remove_62 : decode cX2_remove 62 = .ok (.iaload, 1) := by decide +kernel
theorem dX2_remove_63 : decode cX2_remove 63 = .ok (.iastore, 1) := by decide +kernel
theorem dX2_remove_64 : decode cX2_remove 64 = .ok (.iinc 3 1, 3) := by decide +kernel
theorem dX2_remove_67 : decode cX2_remove 67 = .ok (.iinc 4 1, 3) := by decide +kernel
theorem dX2_remove_70 : decode cX2_remove 70 = .ok (.goto (-63), 3) := by decide +kernel
theorem dX2_remove_73 : decode cX2_remove 73 = .ok (.aload_n 0, 1) := by decide +kernel
theorem dX2_remove_74 : decode cX2_remove 74 = .ok (.iload_n 3, 1) := by decide +kernel
theorem dX2_remove_75 : decode cX2_remove 75 = .ok (.putfield 24, 3) := by decide +kernel
theorem dX2_remove_78 : decode cX2_remove 78 = .ok (.iload_n 2, 1) := by decide +kernel
theorem dX2_remove_79 : decode cX2_remove 79 = .ok (.ireturn, 1) := by decide +kernel
theorem dX2_placeAt_0 : decode cX2_placeAt 0 = .ok (.aload_n 0, 1) := by decide +kernel
theorem dX2_placeAt_1 : decode cX2_placeAt 1 = .ok (.getfield 24, 3) := by decide +kernel
theorem dX2_placeAt_4 : decode cX2_placeAt 4 = .ok (.iconst 1, 1) := by decide +kernel
theorem dX2_placeAt_5 : decode cX2_placeAt 5 = .ok (.isub, 1) := by decide +kernel
theorem dX2_placeAt_6 : decode cX2_placeAt 6 = .ok (.istore_n 2, 1) := by decide +kernel
theorem dX2_placeAt_7 : decode cX2_placeAt 7 = .ok (.iconst 0, 1) := by decide +kernel
theorem dX2_placeAt_8 : decode cX2_placeAt 8 = .ok (.istore_n 3, 1) := by decide +kernel
theorem dX2_placeAt_9 : decode cX2_placeAt 9 = .ok (.iload_n 3, 1) := by decide +kernel
theorem dX2_placeAt_10 : decode cX2_placeAt 10 = .ok (.aload_n 0, 1) := by decide +kernel
theorem dX2_placeAt_11 : decode cX2_placeAt 11 = .ok (.getfield 24, 3) := by decide +kernel
theorem dX2_placeAt_14 : decode cX2_placeAt 14 = .ok (.if_icmp .ge 21, 3) := by decide +kernel
theorem dX2_placeAt_17 : decode cX2_placeAt 17 = .ok (.aload_n 0, 1) := by decide +kernel
theorem dX2_placeAt_18 : decode cX2_placeAt 18 = .ok (.getfield 9, 3) := by decide +kernel
theorem dX2_placeAt_21 : decode cX2_placeAt 21 = .ok (.iload_n 3, 1) := by decide +kernel
theorem dX2_placeAt_22 : decode cX2_placeAt 22 = .ok (.iaload, 1) := by decide +kernel
theorem dX2_placeAt_23 : decode cX2_placeAt 23 = .ok (.iload_n 1, 1) := by decide +kernel
theorem dX2_placeAt_24 : decode cX2_placeAt 24 = .ok (.if_icmp .gt 5, 3) := by decide +kernel
theorem dX2_placeAt_27 : decode cX2_placeAt 27 = .ok (.iload_n 3, 1) := by decide +kernel
theorem dX2_placeAt_28 : decode cX2_placeAt 28 = .ok (.istore_n 2, 1) := by decide +kernel
theorem dX2_placeAt_29 : decode cX2_placeAt 29 = .ok (.iinc 3 1, 3) := by decide +kernel
theorem dX2_placeAt_32 : decode cX2_placeAt 32 = .ok (.goto (-23), 3) := by decide +kernel
theorem dX2_placeAt_35 : decode cX2_placeAt 35 = .ok (.iload_n 2, 1) := by decide +kernel
theorem dX2_placeAt_36 : decode cX2_placeAt 36 = .ok (.ireturn, 1) := by decide +kernel
theorem dX2_minutesToNext_0 : decode cX2_minutesToNext 0 = .ok (.aload_n 0, 1) := by decide +kernel
theorem dX2_minutesToNext_1 : decode cX2_minutesToNext 1 = .ok (.getfield 24, 3) := by decide +kernel
theorem dX2_minutesToNext_4 : decode cX2_minutesToNext 4 = .ok (.iconst 2, 1) := by decide +kernel
theorem dX2_minutesToNext_5 : decode cX2_minutesToNext 5 = .ok (.if_icmp .ge 7, 3) := by decide +kernel
theorem dX2_minutesToNext_8 : decode cX2_minutesToNext 8 = .ok (.sipush 1440, 3) := by decide +kernel
theorem dX2_minutesToNext_11 : decode cX2_minutesToNext 11 = .ok (.ireturn, 1) := by decide +kernel
theorem dX2_minutesToNext_12 : decode cX2_minutesToNext 12 = .ok (.aload_n 0, 1) := by decide +kernel
theorem dX2_minutesToNext_13 : decode cX2_minutesToNext 13 = .ok (.iload_n 1, 1) := by decide +kernel
theorem dX2_minutesToNext_14 : decode cX2_minutesToNext 14 = .ok (.invokevirtual 36, 3) := by decide +kernel
theorem dX2_minutesToNext_17 : decode cX2_minutesToNext 17 = .ok (.iconst 1, 1) := by decide +kernel
theorem dX2_minutesToNext_18 : decode cX2_minutesToNext 18 = .ok (.iadd, 1) := by decide +kernel
theorem dX2_minutesToNext_19 : decode cX2_minutesToNext 19 = .ok (.aload_n 0, 1) := by decide +kernel
theorem dX2_minutesToNext_20 : decode cX2_minutesToNext 20 = .ok (.getfield 24, 3) := by decide +kernel
theorem dX2_minutesToNext_23 : decode cX2_minutesToNext 23 = .ok (.irem, 1) := by decide +kernel
theorem dX2_minutesToNext_24 : decode cX2_minutesToNext 24 = .ok (.istore_n 2, 1) := by decide +kernel
theorem dX2_minutesToNext_25 : decode cX2_minutesToNext 25 = .ok (.aload_n 0, 1) := by decide +kernel
theorem dX2_minutesToNext_26 : decode cX2_minutesToNext 26 = .ok (.getfield 9, 3) := by decide +kernel
theorem dX2_minutesToNext_29 : decode cX2_minutesToNext 29 = .ok (.iload_n 2, 1) := by decide +kernel
theorem dX2_minutesToNext_30 : decode cX2_minutesToNext 30 = .ok (.iaload, 1) := by decide +kernel
theorem dX2_minutesToNext_31 : decode cX2_minutesToNext 31 = .ok (.iload_n 1, 1) := by decide +kernel
theorem dX2_minutesToNext_32 : decode cX2_minutesToNext 32 = .ok (.isub, 1) := by decide +kernel
theorem dX2_minutesToNext_33 : decode cX2_minutesToNext 33 = .ok (.sipush 1440, 3) := by decide +kernel
theorem dX2_minutesToNext_36 : decode cX2_minutesToNext 36 = .ok (.invokestatic 40, 3) := by decide +kernel
theorem dX2_minutesToNext_39 : decode cX2_minutesToNext 39 = .ok (.ireturn, 1) := by decide +kernel
theorem dX3_init_0 : decode cX3_init 0 = .ok (.aload_n 0, 1) := by decide +kernel
theorem dX3_init_1 : decode cX3_init 1 = .ok (.invokespecial 3, 3) := by decide +kernel
theorem dX3_init_4 : decode cX3_init 4 = .ok (.aload_n 0, 1) := by decide +kernel
theorem dX3_init_5 : decode cX3_init 5 = .ok (.iconst 4, 1) := by decide +kernel
theorem dX3_init_6 : decode cX3_init 6 = .ok (.anewarray 9, 3) := by decide +kernel
theorem dX3_init_9 : decode cX3_init 9 = .ok (.putfield 11, 3) := by decide +kernel
theorem dX3_init_12 : decode cX3_init 12 = .ok (.aload_n 0, 1) := by decide +kernel
theorem dX3_init_13 : decode cX3_init 13 = .ok (.new 17, 3) := by decide +kernel
theorem dX3_init_16 : decode cX3_init 16 = .ok (.dup, 1) := by decide +kernel
theorem dX3_init_17 : decode cX3_init 17 = .ok (.invokespecial 19, 3) := by decide +kernel
theorem dX3_init_20 : decode cX3_init 20 = .ok (.putfield 20, 3) := by decide +kernel
theorem dX3_init_23 : decode cX3_init 23 = .ok (.aload_n 0, 1) := by decide +kernel
theorem dX3_init_24 : decode cX3_init 24 = .ok (.iconst 3, 1) := by decide +kernel
theorem dX3_init_25 : decode cX3_init 25 = .ok (.newarray .int, 2) := by decide +kernel
theorem dX3_init_27 : decode cX3_init 27 = .ok (.putfield 24, 3) := by decide +kernel
theorem dX3_init_30 : decode cX3_init 30 = .ok (.iconst 0, 1) := by decide +kernel
theorem dX3_init_31 : decode cX3_init 31 = .ok (.istore_n 1, 1) := by decide +kernel
theorem dX3_init_32 : decode cX3_init 32 = .ok (.iload_n 1, 1) := by decide +kernel
theorem dX3_init_33 : decode cX3_init 33 = .ok (.iconst 4, 1) := by decide +kernel
theorem dX3_init_34 : decode cX3_init 34 = .ok (.if_icmp .ge 23, 3) := by decide +kernel
theorem dX3_init_37 : decode cX3_init 37 = .ok (.aload_n 0, 1) := by decide +kernel
theorem dX3_init_38 : decode cX3_init 38 = .ok (.getfield 11, 3) := by decide +kernel
theorem dX3_init_41 : decode cX3_init 41 = .ok (.iload_n 1, 1) := by decide +kernel
theorem dX3_init_42 : decode cX3_init 42 = .ok (.new 9, 3) := by decide +kernel
theorem dX3_init_45 : decode cX3_init 45 = .ok (.dup, 1) := by decide +kernel
theorem dX3_init_46 : decode cX3_init 46 = .ok (.iload_n 1, 1) := by decide +kernel
theorem dX3_init_47 : decode cX3_init 47 = .ok (.invokespecial 28, 3) := by decide +kernel
theorem dX3_init_50 : decode cX3_init 50 = .ok (.aastore, 1) := by decide +kernel
theorem dX3_init_51 : decode cX3_init 51 = .ok (.iinc 1 1, 3) := by decide +kernel
theorem dX3_init_54 : decode cX3_init 54 = .ok (.goto (-22), 3) := by decide +kernel
theorem dX3_init_57 : decode cX3_init 57 = .ok (.getstatic 31, 3) := by decide +kernel
theorem dX3_init_60 : decode cX3_init 60 = .ok (.iconst 0, 1) := by decide +kernel
theorem dX3_init_61 : decode cX3_init 61 = .ok (.aload_n 0, 1) := by decide +kernel
theorem dX3_init_62 : decode cX3_init 62 = .ok (.getfield 24, 3) := by decide +kernel
theorem dX3_init_65 : decode cX3_init 65 = .ok (.iconst 0, 1) := by decide +kernel
theorem dX3_init_66 : decode cX3_init 66 = .ok (.iconst 3, 1) := by decide +kernel
theorem dX3_init_67 : decode cX3_init 67 = .ok (.invokestatic 34, 3) := by decide +kernel
theorem dX3_init_70 : decode cX3_init 70 = .ok (.return_, 1) := by decide +kernel
theorem dX3_copyFrom_0 : decode cX3_copyFrom 0 = .ok (.iconst 0, 1) := by decide +kernel
theorem dX3_copyFrom_1 : decode cX3_copyFrom 1 = .ok (.istore_n 2, 1) := by decide +kernel
theorem dX3_copyFrom_2 : decode cX3_copyFrom 2 = .ok (.iload_n 2, 1) := by decide +kernel
theorem dX3_copyFrom_3 : decode cX3_copyFrom 3 = .ok (.iconst 4, 1) := by decide +kernel
theorem dX3_copyFrom_4 : decode cX3_copyFrom 4 = .ok (.if_icmp .ge 24, 3) := by decide +kernel
theorem dX3_copyFrom_7 : decode cX3_copyFrom 7 = .ok (.aload_n 0, 1) := by decide +kernel
theorem dX3_copyFrom_8 : decode cX3_copyFrom 8 = .ok (.getfield 11, 3) := by decide +kernel
theorem dX3_copyFrom_11 : decode cX3_copyFrom 11 = .ok (.iload_n 2, 1) := by decide +kernel
theorem dX3_copyFrom_12 : decode cX3_copyFrom 12 = .ok (.aaload, 1) := by decide +kernel
theorem dX3_copyFrom_13 : decode cX3_copyFrom 13 = .ok (.aload_n 1, 1) := by decide +kernel
theorem dX3_copyFrom_14 : decode cX3_copyFrom 14 = .ok (.getfield 11, 3) := by decide +kernel
theorem dX3_copyFrom_17 : decode cX3_copyFrom 17 = .ok (.iload_n 2, 1) := by decide +kernel
theorem dX3_copyFrom_18 : decode cX3_copyFrom 18 = .ok (.aaload, 1) := by decide +kernel
theorem dX3_copyFrom_19 : decode cX3_copyFrom 19 = .ok (.invokevirtual 40, 3) := by decide +kernel
theorem dX3_copyFrom_22 : decode cX3_copyFrom 22 = .ok (.iinc 2 1, 3) := by decide +kernel
theorem dX3_copyFrom_25 : decode cX3_copyFrom 25 = .ok (.goto (-23), 3) := by decide +kernel
theorem dX3_copyFrom_28 : decode cX3_copyFrom 28 = .ok (.aload_n 0, 1) := by decide +kernel
theorem dX3_copyFrom_29 : decode cX3_copyFrom 29 = .ok (.getfield 20, 3) := by decide +kernel
theorem dX3_copyFrom_32 : decode cX3_copyFrom 32 = .ok (.aload_n 1, 1) := by decide +kernel
theorem dX3_copyFrom_33 : decode cX3_copyFrom 33 = .ok (.getfield 20, 3) := by decide +kernel
theorem dX3_copyFrom_36 : decode cX3_copyFrom 36 = .ok (.invokevirtual 44, 3) := by decide +kernel
theorem dX3_copyFrom_39 : decode cX3_copyFrom 39 = .ok (.aload_n 1, 1) := by decide +kernel
theorem dX3_copyFrom_40 : decode cX3_copyFrom 40 = .ok (.getfield 24, 3) := by decide +kernel
theorem dX3_copyFrom_43 : decode cX3_copyFrom 43 = .ok (.iconst 0, 1) := by decide +kernel
theorem dX3_copyFrom_44 : decode cX3_copyFrom 44 = .ok (.aload_n 0, 1) := by decide +kernel
theorem dX3_copyFrom_45 : decode cX3_copyFrom 45 = .ok (.getfield 24, 3) := by decide +kernel
theorem dX3_copyFrom_48 : decode cX3_copyFrom 48 = .ok (.iconst 0, 1) := by decide +kernel
theorem dX3_copyFrom_49 : decode cX3_copyFrom 49 = .ok (.iconst 3, 1) := by decide +kernel
theorem dX3_copyFrom_50 : decode cX3_copyFrom 50 = .ok (.invokestatic 34, 3) := by decide +kernel
theorem dX3_copyFrom_53 : decode cX3_copyFrom 53 = .ok (.aload_n 0, 1) := by decide +kernel
theorem dX3_copyFrom_54 : decode cX3_copyFrom 54 = .ok (.aload_n 1, 1) := by decide +kernel
theorem dX3_copyFrom_55 : decode cX3_copyFrom 55 = .ok (.getfield 47, 3) := by decide +kernel
theorem dX3_copyFrom_58 : decode cX3_copyFrom 58 = .ok (.putfield 47, 3) := by decide +kernel
theorem dX3_copyFrom_61 : decode cX3_copyFrom 61 = .ok (.aload_n 0, 1) := by decide +kernel
theorem dX3_copyFrom_62 : decode cX3_copyFrom 62 = .ok (.aload_n 1, 1) := by decide +kernel
theorem dX3_copyFrom_63 : decode cX3_copyFrom 63 = .ok (.getfield 51, 3) := by decide +kernel
theorem dX3_copyFrom_66 : decode cX3_copyFrom 66 = .ok (.putfield 51, 3) := by decide +kernel
theorem dX3_copyFrom_69 : decode cX3_copyFrom 69 = .ok (.aload_n 0, 1) := by decide +kernel
theorem dX3_copyFrom_70 : decode cX3_copyFrom 70 = .ok (.aload_n 1, 1) := by decide +kernel
theorem dX3_copyFrom_71 : decode cX3_copyFrom 71 = .ok (.getfield 54, 3) := by decide +kernel
theorem dX3_copyFrom_74 : decode cX3_copyFrom 74 = .ok (.putfield 54, 3) := by decide +kernel
theorem dX3_copyFrom_77 : decode cX3_copyFrom 77 = .ok (.aload_n 0, 1) := by decide +kernel
theorem dX3_copyFrom_78 : decode cX3_copyFrom 78 = .ok (.aload_n 1, 1) := by decide +kernel
theorem dX3_copyFrom_79 : decode cX3_copyFrom 79 = .ok (.getfield 57, 3) := by decide +kernel
theorem dX3_copyFrom_82 : decode cX3_copyFrom 82 = .ok (.putfield 57, 3) := by decide +kernel
theorem dX3_copyFrom_85 : decode cX3_copyFrom 85 = .ok (.return_, 1) := by decide +kernel
theorem dX3_faceAt_0 : decode cX3_faceAt 0 = .ok (.iload_n 1, 1) := by decide +kernel
theorem dX3_faceAt_1 : decode cX3_faceAt 1 = .ok (.iconst 0, 1) := by decide +kernel
theorem dX3_faceAt_2 : decode cX3_faceAt 2 = .ok (.iconst 3, 1) := by decide +kernel
theorem dX3_faceAt_3 : decode cX3_faceAt 3 = .ok (.invokestatic 60, 3) := by decide +kernel
theorem dX3_faceAt_6 : decode cX3_faceAt 6 = .ok (.ifCond .eq 12, 3) := by decide +kernel
theorem dX3_faceAt_9 : decode cX3_faceAt 9 = .ok (.aload_n 0, 1) := by decide +kernel
theorem dX3_faceAt_10 : decode cX3_faceAt 10 = .ok (.getfield 11, 3) := by decide +kernel
theorem dX3_faceAt_13 : decode cX3_faceAt 13 = .ok (.iload_n 1, 1) := by decide +kernel
theorem dX3_faceAt_14 : decode cX3_faceAt 14 = .ok (.aaload, 1) := by decide +kernel
theorem dX3_faceAt_15 : decode cX3_faceAt 15 = .ok (.goto 4, 3) := by decide +kernel
theorem dX3_faceAt_18 : decode cX3_faceAt 18 = .ok (.aconst_null, 1) := by decide +kernel
theorem dX3_faceAt_19 : decode cX3_faceAt 19 = .ok (.areturn, 1) := by decide +kernel
theorem dX3_minuteOfDay_0 : decode cX3_minuteOfDay 0 = .ok (.aload_n 0, 1) := by decide +kernel
theorem dX3_minuteOfDay_1 : decode cX3_minuteOfDay 1 = .ok (.getfield 47, 3) := by decide +kernel
theorem dX3_minuteOfDay_4 : decode cX3_minuteOfDay 4 = .ok (.sipush 1440, 3) := by decide +kernel
theorem dX3_minuteOfDay_7 : decode cX3_minuteOfDay 7 = .ok (.irem, 1) := by decide +kernel
theorem dX3_minuteOfDay_8 : decode cX3_minuteOfDay 8 = .ok (.ireturn, 1) := by decide +kernel
theorem dX3_errorOfPassing_0 : decode cX3_errorOfPassing 0 = .ok (.iload_n 1, 1) := by decide +kernel
theorem dX3_errorOfPassing_1 : decode cX3_errorOfPassing 1 = .ok (.iconst 1, 1) := by decide +kernel
theorem dX3_errorOfPassing_2 : decode cX3_errorOfPassing 2 = .ok (.sipush 2000, 3) := by decide +kernel
theorem dX3_errorOfPassing_5 : decode cX3_errorOfPassing 5 = .ok (.invokestatic 60, 3) := by decide +kernel
theorem dX3_errorOfPassing_8 : decode cX3_errorOfPassing 8 = .ok (.ifCond .ne 7, 3) := by decide +kernel
theorem dX3_errorOfPassing_11 : decode cX3_errorOfPassing 11 = .ok (.sipush (-1002), 3) := by decide +kernel
theorem dX3_errorOfPassing_14 : decode cX3_errorOfPassing 14 = .ok (.ireturn, 1) := by decide +kernel
theorem dX3_errorOfPassing_15 : decode cX3_errorOfPassing 15 = .ok (.aload_n 0, 1) := by decide +kernel
theorem dX3_errorOfPassing_16 : decode cX3_errorOfPassing 16 = .ok (.getfield 47, 3) := by decide +kernel
theorem dX3_errorOfPassing_19 : decode cX3_errorOfPassing 19 = .ok (.iload_n 1, 1) := by decide +kernel
theorem dX3_errorOfPassing_20 : decode cX3_errorOfPassing 20 = .ok (.iadd, 1) := by decide +kernel
theorem dX3_errorOfPassing_21 : decode cX3_errorOfPassing 21 = .ok (.ldc 64, 2) := by decide +kernel
theorem dX3_errorOfPassing_23 : decode cX3_errorOfPassing 23 = .ok (.if_icmp .le 9, 3) := by decide +kernel
theorem dX3_errorOfPassing_26 : decode cX3_errorOfPassing 26 = .ok (.sipush (-1004), 3) := by decide +kernel
theorem dX3_errorOfPassing_29 : decode cX3_errorOfPassing 29 = .ok (.goto 4, 3) := by decide +kernel
theorem dX3_errorOfPassing_32 : decode cX3_errorOfPassing 32 = .ok (.iconst 0, 1) := by decide +kernel
theorem dX3_errorOfPassing_33 : decode cX3_errorOfPassing 33 = .ok (.ireturn, 1) := by decide +kernel
theorem dX3_passMinutes_0 : decode cX3_passMinutes 0 = .ok (.iconst 0, 1) := by decide +kernel
theorem dX3_passMinutes_1 : decode cX3_passMinutes 1 = .ok (.istore_n 2, 1) := by decide +kernel
theorem dX3_passMinutes_2 : decode cX3_passMinutes 2 = .ok (.iconst 0, 1) := by decide +kernel
theorem dX3_passMinutes_3 : decode cX3_passMinutes 3 = .ok (.istore_n 3, 1) := by decide +kernel
theorem dX3_passMinutes_4 : decode cX3_passMinutes 4 = .ok (.iload_n 3, 1) := by decide +kernel
theorem dX3_passMinutes_5 : decode cX3_passMinutes 5 = .ok (.iload_n 1, 1) := by decide +kernel
theorem dX3_passMinutes_6 : decode cX3_passMinutes 6 = .ok (.if_icmp .ge 16, 3) := by decide +kernel
theorem dX3_passMinutes_9 : decode cX3_passMinutes 9 = .ok (.iload_n 2, 1) := by decide +kernel
theorem dX3_passMinutes_10 : decode cX3_passMinutes 10 = .ok (.aload_n 0, 1) := by decide +kernel
theorem dX3_passMinutes_11 : decode cX3_passMinutes 11 = .ok (.invokevirtual 65, 3) := by decide +kernel
theorem dX3_passMinutes_14 : decode cX3_passMinutes 14 = .ok (.iadd, 1) := by decide +kernel
theorem dX3_passMinutes_15 : decode cX3_passMinutes 15 = .ok (.istore_n 2, 1) := by decide +kernel
theorem dX3_passMinutes_16 : decode cX3_passMinutes 16 = .ok (.iinc 3 1, 3) := by decide +kernel
theorem dX3_passMinutes_19 : decode cX3_passMinutes 19 = .ok (.goto (-15), 3) := by decide +kernel
theorem dX3_passMinutes_22 : decode cX3_passMinutes 22 = .ok (.iload_n 2, 1) := by decide +kernel
theorem dX3_passMinutes_23 : decode cX3_passMinutes 23 = .ok (.ireturn, 1) := by decide +kernel
theorem dX3_passMinute_0 : decode cX3_passMinute 0 = .ok (.aload_n 0, 1) := by decide +kernel
theorem dX3_passMinute_1 : decode cX3_passMinute 1 = .ok (.dup, 1) := by decide +kernel
theorem dX3_passMinute_2 : decode cX3_passMinute 2 = .ok (.getfield 47, 3) := by decide +kernel
theorem dX3_passMinute_5 : decode cX3_passMinute 5 = .ok (.iconst 1, 1) := by decide +kernel
theorem dX3_passMinute_6 : decode cX3_passMinute 6 = .ok (.iadd, 1) := by decide +kernel
theorem dX3_passMinute_7 : decode cX3_passMinute 7 = .ok (.putfield 47, 3) := by decide +kernel
theorem dX3_passMinute_10 : decode cX3_passMinute 10 = .ok (.iconst 0, 1) := by decide +kernel
theorem dX3_passMinute_11 : decode cX3_passMinute 11 = .ok (.istore_n 1, 1) := by decide +kernel
theorem dX3_passMinute_12 : decode cX3_passMinute 12 = .ok (.aload_n 0, 1) := by decide +kernel
theorem dX3_passMinute_13 : decode cX3_passMinute 13 = .ok (.getfield 11, 3) := by decide +kernel
theorem dX3_passMinute_16 : decode cX3_passMinute 16 = .ok (.astore_n 2, 1) := by decide +kernel
theorem dX3_passMinute_17 : decode cX3_passMinute 17 = .ok (.aload_n 2, 1) := by decide +kernel
theorem dX3_passMinute_18 : decode cX3_passMinute 18 = .ok (.arraylength, 1) := by decide +kernel
theorem dX3_passMinute_19 : decode cX3_passMinute 19 = .ok (.istore_n 3, 1) := by decide +kernel
theorem dX3_passMinute_20 : decode cX3_passMinute 20 = .ok (.iconst 0, 1) := by decide +kernel
theorem dX3_passMinute_21 : decode cX3_passMinute 21 = .ok (.istore 4, 2) := by decide +kernel
theorem dX3_passMinute_23 : decode cX3_passMinute 23 = .ok (.iload 4, 2) := by decide +kernel
theorem dX3_passMinute_25 : decode cX3_passMinute 25 = .ok (.iload_n 3, 1) := by decide +kernel
theorem dX3_passMinute_26 : decode cX3_passMinute 26 = .ok (.if_icmp .ge 29, 3) := by decide +kernel
theorem dX3_passMinute_29 : decode cX3_passMinute 29 = .ok (.aload_n 2, 1) := by decide +kernel
theorem dX3_passMinute_30 : decode cX3_passMinute 30 = .ok (.iload 4, 2) := by decide +kernel
theorem dX3_passMinute_32 : decode cX3_passMinute 32 = .ok (.aaload, 1) := by decide +kernel
theorem dX3_passMinute_33 : decode cX3_passMinute 33 = .ok (.astore 5, 2) := by decide +kernel
theorem dX3_passMinute_35 : decode cX3_passMinute 35 = .ok (.iload_n 1, 1) := by decide +kernel
theorem dX3_passMinute_36 : decode cX3_passMinute 36 = .ok (.aload 5, 2) := by decide +kernel
theorem dX3_passMinute_38 : decode cX3_passMinute 38 = .ok (.aload_n 0, 1) := by decide +kernel
theorem dX3_passMinute_39 : decode cX3_passMinute 39 = .ok (.getfield 24, 3) := by decide +kernel
theorem dX3_passMinute_42 : decode cX3_passMinute 42 = .ok (.iconst 0, 1) := by decide +kernel
theorem dX3_passMinute_43 : decode cX3_passMinute 43 = .ok (.iaload, 1) := by decide +kernel
theorem dX3_passMinute_44 : decode cX3_passMinute 44 = .ok (.invokevirtual 69, 3) := by decide +kernel
theorem dX3_passMinute_47 : decode cX3_passMinute 47 = .ok (.iadd, 1) := by decide +kernel
theorem dX3_passMinute_48 : decode cX3_passMinute 48 = .ok (.istore_n 1, 1) := by decide +kernel
theorem dX3_passMinute_49 : decode cX3_passMinute 49 = .ok (.iinc 4 1, 3) := by decide +kernel
theorem dX3_passMinute_52 : decode cX3_passMinute 52 = .ok (.goto (-29), 3) := by decide +kernel
theorem dX3_passMinute_55 : decode cX3_passMinute 55 = .ok (.aload_n 0, 1) := by decide +kernel
theorem dX3_passMinute_56 : decode cX3_passMinute 56 = .ok (.invokevirtual 72, 3) := by decide +kernel
theorem dX3_passMinute_59 : decode cX3_passMinute 59 = .ok (.aload_n 0, 1) := by decide +kernel
theorem dX3_passMinute_60 : decode cX3_passMinute 60 = .ok (.invokevirtual 75, 3) := by decide +kernel
theorem dX3_passMinute_63 : decode cX3_passMinute 63 = .ok (.sipush 720, 3) := by decide +kernel
theorem dX3_passMinute_66 : decode cX3_passMinute 66 = .ok (.if_icmp .ne 8, 3) := by decide +kernel
theorem dX3_passMinute_69 : decode cX3_passMinute 69 = .ok (.aload_n 0, 1) := by decide +kernel
theorem dX3_passMinute_70 : decode cX3_passMinute 70 = .ok (.invokevirtual 78, 3) := by decide +kernel
theorem dX3_passMinute_73 : decode cX3_passMinute 73 = .ok (.pop, 1) := by decide +kernel
theorem dX3_passMinute_74 : decode cX3_passMinute 74 = .ok (.iload_n 1, 1) := by decide +kernel
theorem dX3_passMinute_75 : decode cX3_passMinute 75 = .ok (.ireturn, 1) := by decide +kernel
theorem dX3_strainShaft_0 : decode cX3_strainShaft 0 = .ok (.aload_n 0, 1) := by decide +kernel
theorem dX3_strainShaft_1 : decode cX3_strainShaft 1 = .ok (.dup, 1) := by decide +kernel
theorem dX3_strainShaft_2 : decode cX3_strainShaft 2 = .ok (.getfield 51, 3) := by decide +kernel
theorem dX3_strainShaft_5 : decode cX3_strainShaft 5 = .ok (.aload_n 0, 1) := by decide +kernel
theorem dX3_strainShaft_6 : decode cX3_strainShaft 6 = .ok (.getfield 24, 3) := by decide +kernel
theorem dX3_strainShaft_9 : decode cX3_strainShaft 9 = .ok (.iconst 0, 1) := by decide +kernel
theorem dX3_strainShaft_10 : decode cX3_strainShaft 10 = .ok (.iaload, 1) := by decide +kernel
theorem dX3_strainShaft_11 : decode cX3_strainShaft 11 = .ok (.iadd, 1) := by decide +kernel
theorem dX3_strainShaft_12 : decode cX3_strainShaft 12 = .ok (.putfield 51, 3) := by decide +kernel
theorem dX3_strainShaft_15 : decode cX3_strainShaft 15 = .ok (.aload_n 0, 1) := by decide +kernel
theorem dX3_strainShaft_16 : decode cX3_strainShaft 16 = .ok (.getfield 11, 3) := by decide +kernel
theorem dX3_strainShaft_19 : decode cX3_strainShaft 19 = .ok (.astore_n 1, 1) := by decide +kernel
theorem dX3_strainShaft_20 : decode cX3_strainShaft 20 = .ok (.aload_n 1, 1) := by decide +kernel
theorem dX3_strainShaft_21 : decode cX3_strainShaft 21 = .ok (.arraylength, 1) := by decide +kernel
theorem dX3_strainShaft_22 : decode cX3_strainShaft 22 = .ok (.istore_n 2, 1) := by decide +kernel
theorem dX3_strainShaft_23 : decode cX3_strainShaft 23 = .ok (.iconst 0, 1) := by decide +kernel
theorem dX3_strainShaft_24 : decode cX3_strainShaft 24 = .ok (.istore_n 3, 1) := by decide +kernel
theorem dX3_strainShaft_25 : decode cX3_strainShaft 25 = .ok (.iload_n 3, 1) := by decide +kernel
theorem dX3_strainShaft_26 : decode cX3_strainShaft 26 = .ok (.iload_n 2, 1) := by decide +kernel
theorem dX3_strainShaft_27 : decode cX3_strainShaft 27 = .ok (.if_icmp .ge 28, 3) := by decide +kernel
theorem dX3_strainShaft_30 : decode cX3_strainShaft 30 = .ok (.aload_n 1, 1) := by decide +kernel
theorem dX3_strainShaft_31 : decode cX3_strainShaft 31 = .ok (.iload_n 3, 1) := by decide +kernel
theorem dX3_strainShaft_32 : decode cX3_strainShaft 32 = .ok (.aaload, 1) := by decide +kernel
theorem dX3_strainShaft_33 : decode cX3_strainShaft 33 = .ok (.astore 4, 2) := by decide +kernel
theorem dX3_strainShaft_35 : decode cX3_strainShaft 35 = .ok (.aload_n 0, 1) := by decide +kernel
theorem dX3_strainShaft_36 : decode cX3_strainShaft 36 = .ok (.dup, 1) := by decide +kernel
theorem dX3_strainShaft_37 : decode cX3_strainShaft 37 = .ok (.getfield 51, 3) := by decide +kernel
theorem dX3_strainShaft_40 : decode cX3_strainShaft 40 = .ok (.aload 4, 2) := by decide +kernel
theorem dX3_strainShaft_42 : decode cX3_strainShaft 42 = .ok (.getfield 81, 3) := by decide +kernel
theorem dX3_strainShaft_45 : decode cX3_strainShaft 45 = .ok (.iadd, 1) := by decide +kernel
theorem dX3_strainShaft_46 : decode cX3_strainShaft 46 = .ok (.putfield 51, 3) := by decide +kernel
theorem dX3_strainShaft_49 : decode cX3_strainShaft 49 = .ok (.iinc 3 1, 3) := by decide +kernel
theorem dX3_strainShaft_52 : decode cX3_strainShaft 52 = .ok (.goto (-27), 3) := by decide +kernel
theorem dX3_strainShaft_55 : decode cX3_strainShaft 55 = .ok (.aload_n 0, 1) := by decide +kernel
theorem dX3_strainShaft_56 : decode cX3_strainShaft 56 = .ok (.getfield 51, 3) := by decide +kernel
theorem dX3_strainShaft_59 : decode cX3_strainShaft 59 = .ok (.aload_n 0, 1) := by decide +kernel
theorem dX3_strainShaft_60 : decode cX3_strainShaft 60 = .ok (.getfield 24, 3) := by decide +kernel
theorem dX3_strainShaft_63 : decode cX3_strainShaft 63 = .ok (.iconst 2, 1) := by decide +kernel
theorem dX3_strainShaft_64 : decode cX3_strainShaft 64 = .ok (.iaload, 1) := by decide +kernel
theorem dX3_strainShaft_65 : decode cX3_strainShaft 65 = .ok (.if_icmp .ge 4, 3) := by decide +kernel
theorem dX3_strainShaft_68 : decode cX3_strainShaft 68 = .ok (.return_, 1) := by decide +kernel
theorem dX3_strainShaft_69 : decode cX3_strainShaft 69 = .ok (.aload_n 0, 1) := by decide +kernel
theorem dX3_strainShaft_70 : decode cX3_strainShaft 70 = .ok (.iconst 0, 1) := by decide +kernel
theorem dX3_strainShaft_71 : decode cX3_strainShaft 71 = .ok (.putfield 51, 3) := by decide +kernel
theorem dX3_strainShaft_74 : decode cX3_strainShaft 74 = .ok (.aload_n 0, 1) := by decide +kernel
theorem dX3_strainShaft_75 : decode cX3_strainShaft 75 = .ok (.dup, 1) := by decide +kernel
theorem dX3_strainShaft_76 : decode cX3_strainShaft 76 = .ok (.getfield 54, 3) := by decide +kernel
theorem dX3_strainShaft_79 : decode cX3_strainShaft 79 = .ok (.iconst 1, 1) := by decide +kernel
theorem dX3_strainShaft_80 : decode cX3_strainShaft 80 = .ok (.iadd, 1) := by decide +kernel
theorem dX3_strainShaft_81 : decode cX3_strainShaft 81 = .ok (.putfield 54, 3) := by decide +kernel
theorem dX3_strainShaft_84 : decode cX3_strainShaft 84 = .ok (.aload_n 0, 1) := by decide +kernel
theorem dX3_strainShaft_85 : decode cX3_strainShaft 85 = .ok (.getfield 11, 3) := by decide +kernel
theorem dX3_strainShaft_88 : decode cX3_strainShaft 88 = .ok (.astore_n 1, 1) := by decide +kernel
theorem dX3_strainShaft_89 : decode cX3_strainShaft 89 = .ok (.aload_n 1, 1) := by decide +kernel
theorem dX3_strainShaft_90 : decode cX3_strainShaft 90 = .ok (.arraylength, 1) := by decide +kernel
theorem dX3_strainShaft_91 : decode cX3_strainShaft 91 = .ok (.istore_n 2, 1) := by decide +kernel
theorem dX3_strainShaft_92 : decode cX3_strainShaft 92 = .ok (.iconst 0, 1) := by decide +kernel
theorem dX3_strainShaft_93 : decode cX3_strainShaft 93 = .ok (.istore_n 3, 1) := by decide +kernel
theorem dX3_strainShaft_94 : decode cX3_strainShaft 94 = .ok (.iload_n 3, 1) := by decide +kernel
theorem dX3_strainShaft_95 : decode cX3_strainShaft 95 = .ok (.iload_n 2, 1) := by decide +kernel
theorem dX3_strainShaft_96 : decode cX3_strainShaft 96 = .ok (.if_icmp .ge 19, 3) := by decide +kernel
theorem dX3_strainShaft_99 : decode cX3_strainShaft 99 = .ok (.aload_n 1, 1) := by decide +kernel
theorem dX3_strainShaft_100 : decode cX3_strainShaft 100 = .ok (.iload_n 3, 1) := by decide +kernel
theorem dX3_strainShaft_101 : decode cX3_strainShaft 101 = .ok (.aaload, 1) := by decide +kernel
theorem dX3_strainShaft_102 : decode cX3_strainShaft 102 = .ok (.astore 4, 2) := by decide +kernel
theorem dX3_strainShaft_104 : decode cX3_strainShaft 104 = .ok (.aload 4, 2) := by decide +kernel
theorem dX3_strainShaft_106 : decode cX3_strainShaft 106 = .ok (.invokevirtual 84, 3) := by decide +kernel
theorem dX3_strainShaft_109 : decode cX3_strainShaft 109 = .ok (.iinc 3 1, 3) := by decide +kernel
theorem dX3_strainShaft_112 : decode cX3_strainShaft 112 = .ok (.goto (-18), 3) := by decide +kernel
theorem dX3_strainShaft_115 : decode cX3_strainShaft 115 = .ok (.return_, 1) := by decide +kernel
theorem dX3_timeOfKeeper_0 : decode cX3_timeOfKeeper 0 = .ok (.aload_n 0, 1) := by decide +kernel
theorem dX3_timeOfKeeper_1 : decode cX3_timeOfKeeper 1 = .ok (.getfield 20, 3) := by decide +kernel
theorem dX3_timeOfKeeper_4 : decode cX3_timeOfKeeper 4 = .ok (.aload_n 0, 1) := by decide +kernel
theorem dX3_timeOfKeeper_5 : decode cX3_timeOfKeeper 5 = .ok (.invokevirtual 75, 3) := by decide +kernel
theorem dX3_timeOfKeeper_8 : decode cX3_timeOfKeeper 8 = .ok (.invokevirtual 87, 3) := by decide +kernel
theorem dX3_timeOfKeeper_11 : decode cX3_timeOfKeeper 11 = .ok (.istore_n 1, 1) := by decide +kernel
theorem dX3_timeOfKeeper_12 : decode cX3_timeOfKeeper 12 = .ok (.iload_n 1, 1) := by decide +kernel
theorem dX3_timeOfKeeper_13 : decode cX3_timeOfKeeper 13 = .ok (.ifCond .ge 7, 3) := by decide +kernel
theorem dX3_timeOfKeeper_16 : decode cX3_timeOfKeeper 16 = .ok (.sipush (-1000), 3) := by decide +kernel
theorem dX3_timeOfKeeper_19 : decode cX3_timeOfKeeper 19 = .ok (.ireturn, 1) := by decide +kernel
theorem dX3_timeOfKeeper_20 : decode cX3_timeOfKeeper 20 = .ok (.aload_n 0, 1) := by decide +kernel
theorem dX3_timeOfKeeper_21 : decode cX3_timeOfKeeper 21 = .ok (.getfield 47, 3) := by decide +kernel
theorem dX3_timeOfKeeper_24 : decode cX3_timeOfKeeper 24 = .ok (.aload_n 0, 1) := by decide +kernel
theorem dX3_timeOfKeeper_25 : decode cX3_timeOfKeeper 25 = .ok (.getfield 20, 3) := by decide +kernel
theorem dX3_timeOfKeeper_28 : decode cX3_timeOfKeeper 28 = .ok (.getfield 90, 3) := by decide +kernel
theorem dX3_timeOfKeeper_31 : decode cX3_timeOfKeeper 31 = .ok (.iload_n 1, 1) := by decide +kernel
theorem dX3_timeOfKeeper_32 : decode cX3_timeOfKeeper 32 = .ok (.iaload, 1) := by decide +kernel
theorem dX3_timeOfKeeper_33 : decode cX3_timeOfKeeper 33 = .ok (.iadd, 1) := by decide +kernel
theorem dX3_timeOfKeeper_34 : decode cX3_timeOfKeeper 34 = .ok (.sipush 720, 3) := by decide +kernel
theorem dX3_timeOfKeeper_37 : decode cX3_timeOfKeeper 37 = .ok (.invokestatic 93, 3) := by decide +kernel
theorem dX3_timeOfKeeper_40 : decode cX3_timeOfKeeper 40 = .ok (.ireturn, 1) := by decide +kernel
theorem dX3_resetFaces_0 : decode cX3_resetFaces 0 = .ok (.aload_n 0, 1) := by decide +kernel
theorem dX3_resetFaces_1 : decode cX3_resetFaces 1 = .ok (.invokevirtual 99, 3) := by decide +kernel
theorem dX3_resetFaces_4 : decode cX3_resetFaces 4 = .ok (.istore_n 1, 1) := by decide +kernel
theorem dX3_resetFaces_5 : decode cX3_resetFaces 5 = .ok (.iload_n 1, 1) := by decide +kernel
theorem dX3_resetFaces_6 : decode cX3_resetFaces 6 = .ok (.sipush (-1000), 3) := by decide +kernel
theorem dX3_resetFaces_9 : decode cX3_resetFaces 9 = .ok (.if_icmp .ne 5, 3) := by decide +kernel
theorem dX3_resetFaces_12 : decode cX3_resetFaces 12 = .ok (.iconst 0, 1) := by decide +kernel
theorem dX3_resetFaces_13 : decode cX3_resetFaces 13 = .ok (.ireturn, 1) := by decide +kernel
theorem dX3_resetFaces_14 : decode cX3_resetFaces 14 = .ok (.iconst 0, 1) := by decide +kernel
theorem dX3_resetFaces_15 : decode cX3_resetFaces 15 = .ok (.istore_n 2, 1) := by decide +kernel
theorem dX3_resetFaces_16 : decode cX3_resetFaces 16 = .ok (.aload_n 0, 1) := by decide +kernel
theorem dX3_resetFaces_17 : decode cX3_resetFaces 17 = .ok (.getfield 11, 3) := by decide +kernel
theorem dX3_resetFaces_20 : decode cX3_resetFaces 20 = .ok (.astore_n 3, 1) := by decide +kernel
theorem dX3_resetFaces_21 : decode cX3_resetFaces 21 = .ok (.aload_n 3, 1) := by decide +kernel
theorem dX3_resetFaces_22 : decode cX3_resetFaces 22 = .ok (.arraylength, 1) := by decide +kernel
theorem dX3_resetFaces_23 : decode cX3_resetFaces 23 = .ok (.istore 4, 2) := by decide +kernel
theorem dX3_resetFaces_25 : decode cX3_resetFaces 25 = .ok (.iconst 0, 1) := by decide +kernel
theorem dX3_resetFaces_26 : decode cX3_resetFaces 26 = .ok (.istore 5, 2) := by decide +kernel
theorem dX3_resetFaces_28 : decode cX3_resetFaces 28 = .ok (.iload 5, 2) := by decide +kernel
theorem dX3_resetFaces_30 : decode cX3_resetFaces 30 = .ok (.iload 4, 2) := by decide +kernel
theorem dX3_resetFaces_32 : decode cX3_resetFaces 32 = .ok (.if_icmp .ge 48, 3) := by decide +kernel
theorem dX3_resetFaces_35 : decode cX3_resetFaces 35 = .ok (.aload_n 3, 1) := by decide +kernel
theorem dX3_resetFaces_36 : decode cX3_resetFaces 36 = .ok (.iload 5, 2) := by decide +kernel
theorem dX3_resetFaces_38 : decode cX3_resetFaces 38 = .ok (.aaload, 1) := by decide +kernel
theorem dX3_resetFaces_39 : decode cX3_resetFaces 39 = .ok (.astore 6, 2) := by decide +kernel
theorem dX3_resetFaces_41 : decode cX3_resetFaces 41 = .ok (.aload 6, 2) := by decide +kernel
theorem dX3_resetFaces_43 : decode cX3_resetFaces 43 = .ok (.getfield 102, 3) := by decide +kernel
theorem dX3_resetFaces_46 : decode cX3_resetFaces 46 = .ok (.iload_n 1, 1) := by decide +kernel
theorem dX3_resetFaces_47 : decode cX3_resetFaces 47 = .ok (.invokestatic 105, 3) := by decide +kernel
theorem dX3_resetFaces_50 : decode cX3_resetFaces 50 = .ok (.aload_n 0, 1) := by decide +kernel
theorem dX3_resetFaces_51 : decode cX3_resetFaces 51 = .ok (.getfield 24, 3) := by decide +kernel
theorem dX3_resetFaces_54 : decode cX3_resetFaces 54 = .ok (.iconst 1, 1) := by decide +kernel
theorem dX3_resetFaces_55 : decode cX3_resetFaces 55 = .ok (.iaload, 1) := by decide +kernel
theorem dX3_resetFaces_56 : decode cX3_resetFaces 56 = .ok (.if_icmp .le 18, 3) := by decide +kernel
theorem dX3_resetFaces_59 : decode cX3_resetFaces 59 = .ok (.aload 6, 2) := by decide +kernel
theorem dX3_resetFaces_61 : decode cX3_resetFaces 61 = .ok (.iload_n 1, 1) := by decide +kernel
theorem dX3_resetFaces_62 : decode cX3_resetFaces 62 = .ok (.putfield 102, 3) := by decide +kernel
theorem dX3_resetFaces_65 : decode cX3_resetFaces 65 = .ok (.aload 6, 2) := by decide +kernel
theorem dX3_resetFaces_67 : decode cX3_resetFaces 67 = .ok (.iconst 0, 1) := by decide +kernel
theorem dX3_resetFaces_68 : decode cX3_resetFaces 68 = .ok (.putfield 108, 3) := by decide +kernel
theorem dX3_resetFaces_71 : decode cX3_resetFaces 71 = .ok (.iinc 2 1, 3) := by decide +kernel
theorem dX3_resetFaces_74 : decode cX3_resetFaces 74 = .ok (.iinc 5 1, 3) := by decide +kernel
theorem dX3_resetFaces_77 : decode cX3_resetFaces 77 = .ok (.goto (-49), 3) := by decide +kernel
theorem dX3_resetFaces_80 : decode cX3_resetFaces 80 = .ok (.aload_n 0, 1) := by decide +kernel
theorem dX3_resetFaces_81 : decode cX3_resetFaces 81 = .ok (.dup, 1) := by decide +kernel
theorem dX3_resetFaces_82 : decode cX3_resetFaces 82 = .ok (.getfield 57, 3) := by decide +kernel
theorem dX3_resetFaces_85 : decode cX3_resetFaces 85 = .ok (.iload_n 2, 1) := by decide +kernel
theorem dX3_resetFaces_86 : decode cX3_resetFaces 86 = .ok (.iadd, 1) := by decide +kernel
theorem dX3_resetFaces_87 : decode cX3_resetFaces 87 = .ok (.putfield 57, 3) := by decide +kernel
theorem dX3_resetFaces_90 : decode cX3_resetFaces 90 = .ok (.iload_n 2, 1) := by decide +kernel
theorem dX3_resetFaces_91 : decode cX3_resetFaces 91 = .ok (.ireturn, 1) := by decide +kernel
theorem dX3_slipsOfGears_0 : decode cX3_slipsOfGears 0 = .ok (.iconst 0, 1) := by decide +kernel
theorem dX3_slipsOfGears_1 : decode cX3_slipsOfGears 1 = .ok (.istore_n 1, 1) := by decide +kernel
theorem dX3_slipsOfGears_2 : decode cX3_slipsOfGears 2 = .ok (.aload_n 0, 1) := by decide +kernel
theorem dX3_slipsOfGears_3 : decode cX3_slipsOfGears 3 = .ok (.getfield 11, 3) := by decide +kernel
theorem dX3_slipsOfGears_6 : decode cX3_slipsOfGears 6 = .ok (.astore_n 2, 1) := by decide +kernel
theorem dX3_slipsOfGears_7 : decode cX3_slipsOfGears 7 = .ok (.aload_n 2, 1) := by decide +kernel
theorem dX3_slipsOfGears_8 : decode cX3_slipsOfGears 8 = .ok (.arraylength, 1) := by decide +kernel
theorem dX3_slipsOfGears_9 : decode cX3_slipsOfGears 9 = .ok (.istore_n 3, 1) := by decide +kernel
theorem dX3_slipsOfGears_10 : decode cX3_slipsOfGears 10 = .ok (.iconst 0, 1) := by decide +kernel
theorem dX3_slipsOfGears_11 : decode cX3_slipsOfGears 11 = .ok (.istore 4, 2) := by decide +kernel
theorem dX3_slipsOfGears_13 : decode cX3_slipsOfGears 13 = .ok (.iload 4, 2) := by decide +kernel
theorem dX3_slipsOfGears_15 : decode cX3_slipsOfGears 15 = .ok (.iload_n 3, 1) := by decide +kernel
theorem dX3_slipsOfGears_16 : decode cX3_slipsOfGears 16 = .ok (.if_icmp .ge 23, 3) := by decide +kernel
theorem dX3_slipsOfGears_19 : decode cX3_slipsOfGears 19 = .ok (.aload_n 2, 1) := by decide +kernel
theorem dX3_slipsOfGears_20 : decode cX3_slipsOfGears 20 = .ok (.iload 4, 2) := by decide +kernel
theorem dX3_slipsOfGears_22 : decode cX3_slipsOfGears 22 = .ok (.aaload, 1) := by decide +kernel
theorem dX3_slipsOfGears_23 : decode cX3_slipsOfGears 23 = .ok (.astore 5, 2) := by decide +kernel
theorem dX3_slipsOfGears_25 : decode cX3_slipsOfGears 25 = .ok (.iload_n 1, 1) := by decide +kernel
theorem dX3_slipsOfGears_26 : decode cX3_slipsOfGears 26 = .ok (.aload 5, 2) := by decide +kernel
theorem dX3_slipsOfGears_28 : decode cX3_slipsOfGears 28 = .ok (.getfield 111, 3) := by decide +kernel
theorem dX3_slipsOfGears_31 : decode cX3_slipsOfGears 31 = .ok (.iadd, 1) := by decide +kernel
theorem dX3_slipsOfGears_32 : decode cX3_slipsOfGears 32 = .ok (.istore_n 1, 1) := by decide +kernel
theorem dX3_slipsOfGears_33 : decode cX3_slipsOfGears 33 = .ok (.iinc 4 1, 3) := by decide +kernel
theorem dX3_slipsOfGears_36 : decode cX3_slipsOfGears 36 = .ok (.goto (-23), 3) := by decide +kernel
theorem dX3_slipsOfGears_39 : decode cX3_slipsOfGears 39 = .ok (.iload_n 1, 1) := by decide +kernel
theorem dX3_slipsOfGears_40 : decode cX3_slipsOfGears 40 = .ok (.ireturn, 1) := by decide +kernel
theorem dX3_strikesOfBells_0 : decode cX3_strikesOfBells 0 = .ok (.iconst 0, 1) := by decide +kernel
theorem dX3_strikesOfBells_1 : decode cX3_strikesOfBells 1 = .ok (.istore_n 1, 1) := by decide +kernel
theorem dX3_strikesOfBells_2 : decode cX3_strikesOfBells 2 = .ok (.aload_n 0, 1) := by decide +kernel
theorem dX3_strikesOfBells_3 : decode cX3_strikesOfBells 3 = .ok (.getfield 11, 3) := by decide +kernel
theorem dX3_strikesOfBells_6 : decode cX3_strikesOfBells 6 = .ok (.astore_n 2, 1) := by decide +kernel
theorem dX3_strikesOfBells_7 : decode cX3_strikesOfBells 7 = .ok (.aload_n 2, 1) := by decide +kernel
theorem dX3_strikesOfBells_8 : decode cX3_strikesOfBells 8 = .ok (.arraylength, 1) := by decide +kernel
theorem dX3_strikesOfBells_9 : decode cX3_strikesOfBells 9 = .ok (.istore_n 3, 1) := by decide +kernel
theorem dX3_strikesOfBells_10 : decode cX3_strikesOfBells 10 = .ok (.iconst 0, 1) := by decide +kernel
theorem dX3_strikesOfBells_11 : decode cX3_strikesOfBells 11 = .ok (.istore 4, 2) := by decide +kernel
theorem dX3_strikesOfBells_13 : decode cX3_strikesOfBells 13 = .ok (.iload 4, 2) := by decide +kernel
theorem dX3_strikesOfBells_15 : decode cX3_strikesOfBells 15 = .ok (.iload_n 3, 1) := by decide +kernel
theorem dX3_strikesOfBells_16 : decode cX3_strikesOfBells 16 = .ok (.if_icmp .ge 23, 3) := by decide +kernel
theorem dX3_strikesOfBells_19 : decode cX3_strikesOfBells 19 = .ok (.aload_n 2, 1) := by decide +kernel
theorem dX3_strikesOfBells_20 : decode cX3_strikesOfBells 20 = .ok (.iload 4, 2) := by decide +kernel
theorem dX3_strikesOfBells_22 : decode cX3_strikesOfBells 22 = .ok (.aaload, 1) := by decide +kernel
theorem dX3_strikesOfBells_23 : decode cX3_strikesOfBells 23 = .ok (.astore 5, 2) := by decide +kernel
theorem dX3_strikesOfBells_25 : decode cX3_strikesOfBells 25 = .ok (.iload_n 1, 1) := by decide +kernel
theorem dX3_strikesOfBells_26 : decode cX3_strikesOfBells 26 = .ok (.aload 5, 2) := by decide +kernel
theorem dX3_strikesOfBells_28 : decode cX3_strikesOfBells 28 = .ok (.getfield 114, 3) := by decide +kernel
theorem dX3_strikesOfBells_31 : decode cX3_strikesOfBells 31 = .ok (.iadd, 1) := by decide +kernel
theorem dX3_strikesOfBells_32 : decode cX3_strikesOfBells 32 = .ok (.istore_n 1, 1) := by decide +kernel
theorem dX3_strikesOfBells_33 : decode cX3_strikesOfBells 33 = .ok (.iinc 4 1, 3) := by decide +kernel
theorem dX3_strikesOfBells_36 : decode cX3_strikesOfBells 36 = .ok (.goto (-23), 3) := by decide +kernel
theorem dX3_strikesOfBells_39 : decode cX3_strikesOfBells 39 = .ok (.iload_n 1, 1) := by decide +kernel
theorem dX3_strikesOfBells_40 : decode cX3_strikesOfBells 40 = .ok (.ireturn, 1) := by decide +kernel
theorem dX3_spread_0 : decode cX3_spread 0 = .ok (.iconst 0, 1) := by decide +kernel
theorem dX3_spread_1 : decode cX3_spread 1 = .ok (.istore_n 1, 1) := by decide +kernel
theorem dX3_spread_2 : decode cX3_spread 2 = .ok (.aload_n 0, 1) := by decide +kernel
theorem dX3_spread_3 : decode cX3_spread 3 = .ok (.getfield 11, 3) := by decide +kernel
theorem dX3_spread_6 : decode cX3_spread 6 = .ok (.astore_n 2, 1) := by decide +kernel
theorem dX3_spread_7 : decode cX3_spread 7 = .ok (.aload_n 2, 1) := by decide +kernel
theorem dX3_spread_8 : decode cX3_spread 8 = .ok (.arraylength, 1) := by decide +kernel
theorem dX3_spread_9 : decode cX3_spread 9 = .ok (.istore_n 3, 1) := by decide +kernel
theorem dX3_spread_10 : decode cX3_spread 10 = .ok (.iconst 0, 1) := by decide +kernel
theorem dX3_spread_11 : decode cX3_spread 11 = .ok (.istore 4, 2) := by decide +kernel
theorem dX3_spread_13 : decode cX3_spread 13 = .ok (.iload 4, 2) := by decide +kernel
theorem dX3_spread_15 : decode cX3_spread 15 = .ok (.iload_n 3, 1) := by decide +kernel
theorem dX3_spread_16 : decode cX3_spread 16 = .ok (.if_icmp .ge 67, 3) := by decide +kernel
theorem dX3_spread_19 : decode cX3_spread 19 = .ok (.aload_n 2, 1) := by decide +kernel
theorem dX3_spread_20 : decode cX3_spread 20 = .ok (.iload 4, 2) := by decide +kernel
theorem dX3_spread_22 : decode cX3_spread 22 = .ok (.aaload, 1) := by decide +kernel
theorem dX3_spread_23 : decode cX3_spread 23 = .ok (.astore 5, 2) := by decide +kernel
theorem dX3_spread_25 : decode cX3_spread 25 = .ok (.aload_n 0, 1) := by decide +kernel
theorem dX3_spread_26 : decode cX3_spread 26 = .ok (.getfield 11, 3) := by decide +kernel
theorem dX3_spread_29 : decode cX3_spread 29 = .ok (.astore 6, 2) := by decide +kernel
theorem dX3_spread_31 : decode cX3_spread 31 = .ok (.aload 6, 2) := by decide +kernel
theorem dX3_spread_33 : decode cX3_spread 33 = .ok (.arraylength, 1) := by decide +kernel
theorem dX3_spread_34 : decode cX3_spread 34 = .ok (.istore 7, 2) := by decide +kernel
theorem dX3_spread_36 : decode cX3_spread 36 = .ok (.iconst 0, 1) := by decide +kernel
theorem dX3_spread_37 : decode cX3_spread 37 = .ok (.istore 8, 2) := by decide +kernel
theorem dX3_spread_39 : decode cX3_spread 39 = .ok (.iload 8, 2) := by decide +kernel
theorem dX3_spread_41 : decode cX3_spread 41 = .ok (.iload 7, 2) := by decide +kernel
theorem dX3_spread_43 : decode cX3_spread 43 = .ok (.if_icmp .ge 34, 3) := by decide +kernel
theorem dX3_spread_46 : decode cX3_spread 46 = .ok (.aload 6, 2) := by decide +kernel
theorem dX3_spread_48 : decode cX3_spread 48 = .ok (.iload 8, 2) := by decide +kernel
theorem dX3_spread_50 : decode cX3_spread 50 = .ok (.aaload, 1) := by decide +kernel
theorem dX3_spread_51 : decode cX3_spread 51 = .ok (.astore 9, 2) := by decide +kernel
theorem dX3_spread_53 : decode cX3_spread 53 = .ok (.iload_n 1, 1) := by decide +kernel
theorem dX3_spread_54 : decode cX3_spread 54 = .ok (.aload 5, 2) := by decide +kernel
theorem dX3_spread_56 : decode cX3_spread 56 = .ok (.getfield 102, 3) := by decide +kernel
theorem dX3_spread_59 : decode cX3_spread 59 = .ok (.aload 9, 2) := by decide +kernel
theorem dX3_spread_61 : decode cX3_spread 61 = .ok (.getfield 102, 3) := by decide +kernel
theorem dX3_spread_64 : decode cX3_spread 64 = .ok (.invokestatic 105, 3) := by decide +kernel
theorem dX3_spread_67 : decode cX3_spread 67 = .ok (.invokestatic 117, 3) := by decide +kernel
theorem dX3_spread_70 : decode cX3_spread 70 = .ok (.istore_n 1, 1) := by decide +kernel
theorem dX3_spread_71 : decode cX3_spread 71 = .ok (.iinc 8 1, 3) := by decide +kernel
theorem dX3_spread_74 : decode cX3_spread 74 = .ok (.goto (-35), 3) := by decide +kernel
theorem dX3_spread_77 : decode cX3_spread 77 = .ok (.iinc 4 1, 3) := by decide +kernel
theorem dX3_spread_80 : decode cX3_spread 80 = .ok (.goto (-67), 3) := by decide +kernel
theorem dX3_spread_83 : decode cX3_spread 83 = .ok (.iload_n 1, 1) := by decide +kernel
theorem dX3_spread_84 : decode cX3_spread 84 = .ok (.ireturn, 1) := by decide +kernel
theorem dX3_distancesFromTime_0 : decode cX3_distancesFromTime 0 = .ok (.iconst 0, 1) := by decide +kernel
theorem dX3_distancesFromTime_1 : decode cX3_distancesFromTime 1 = .ok (.istore_n 1, 1) := by decide +kernel
theorem dX3_distancesFromTime_2 : decode cX3_distancesFromTime 2 = .ok (.aload_n 0, 1) := by decide +kernel
theorem dX3_distancesFromTime_3 : decode cX3_distancesFromTime 3 = .ok (.getfield 11, 3) := by decide +kernel
theorem dX3_distancesFromTime_6 : decode cX3_distancesFromTime 6 = .ok (.astore_n 2, 1) := by decide +kernel
theorem dX3_distancesFromTime_7 : decode cX3_distancesFromTime 7 = .ok (.aload_n 2, 1) := by decide +kernel
theorem dX3_distancesFromTime_8 : decode cX3_distancesFromTime 8 = .ok (.arraylength, 1) := by decide +kernel
theorem dX3_distancesFromTime_9 : decode cX3_distancesFromTime 9 = .ok (.istore_n 3, 1) := by decide +kernel
theorem dX3_distancesFromTime_10 : decode cX3_distancesFromTime 10 = .ok (.iconst 0, 1) := by decide +kernel
theorem dX3_distancesFromTime_11 : decode cX3_distancesFromTime 11 = .ok (.istore 4, 2) := by decide +kernel
theorem dX3_distancesFromTime_13 : decode cX3_distancesFromTime 13 = .ok (.iload 4, 2) := by decide +kernel
theorem dX3_distancesFromTime_15 : decode cX3_distancesFromTime 15 = .ok (.iload_n 3, 1) := by decide +kernel
theorem dX3_distancesFromTime_16 : decode cX3_distancesFromTime 16 = .ok (.if_icmp .ge 34, 3) := by decide +kernel
theorem dX3_distancesFromTime_19 : decode cX3_distancesFromTime 19 = .ok (.aload_n 2, 1) := by decide +kernel
theorem dX3_distancesFromTime_20 : decode cX3_distancesFromTime 20 = .ok (.iload 4, 2) := by decide +kernel
theorem dX3_distancesFromTime_22 : decode cX3_distancesFromTime 22 = .ok (.aaload, 1) := by decide +kernel
theorem dX3_distancesFromTime_23 : decode cX3_distancesFromTime 23 = .ok (.astore 5, 2) := by decide +kernel
theorem dX3_distancesFromTime_25 : decode cX3_distancesFromTime 25 = .ok (.iload_n 1, 1) := by decide +kernel
theorem dX3_distancesFromTime_26 : decode cX3_distancesFromTime 26 = .ok (.aload 5, 2) := by decide +kernel
theorem dX3_distancesFromTime_28 : decode cX3_distancesFromTime 28 = .ok (.getfield 102, 3) := by decide +kernel
theorem dX3_distancesFromTime_31 : decode cX3_distancesFromTime 31 = .ok (.aload_n 0, 1) := by decide +kernel
theorem dX3_distancesFromTime_32 : decode cX3_distancesFromTime 32 = .ok (.getfield 47, 3) := by decide +kernel
theorem dX3_distancesFromTime_35 : decode cX3_distancesFromTime 35 = .ok (.sipush 720, 3) := by decide +kernel
theorem dX3_distancesFromTime_38 : decode cX3_distancesFromTime 38 = .ok (.irem, 1) := by decide +kernel
theorem dX3_distancesFromTime_39 : decode cX3_distancesFromTime 39 = .ok (.invokestatic 105, 3) := by decide +kernel
theorem dX3_distancesFromTime_42 : decode cX3_distancesFromTime 42 = .ok (.iadd, 1) := by decide +kernel
theorem dX3_distancesFromTime_43 : decode cX3_distancesFromTime 43 = .ok (.istore_n 1, 1) := by decide +kernel
theorem dX3_distancesFromTime_44 : decode cX3_distancesFromTime 44 = .ok (.iinc 4 1, 3) := by decide +kernel
theorem dX3_distancesFromTime_47 : decode cX3_distancesFromTime 47 = .ok (.goto (-34), 3) := by decide +kernel
theorem dX3_distancesFromTime_50 : decode cX3_distancesFromTime 50 = .ok (.iload_n 1, 1) := by decide +kernel
theorem dX3_distancesFromTime_51 : decode cX3_distancesFromTime 51 = .ok (.ireturn, 1) := by decide +kernel
theorem dX3_facesWithDial_0 : decode cX3_facesWithDial 0 = .ok (.iconst 0, 1) := by decide +kernel
theorem dX3_facesWithDial_1 : decode cX3_facesWithDial 1 = .ok (.istore_n 2, 1) := by decide +kernel
theorem dX3_facesWithDial_2 : decode cX3_facesWithDial 2 = .ok (.aload_n 0, 1) := by decide +kernel
theorem dX3_facesWithDial_3 : decode cX3_facesWithDial 3 = .ok (.getfield 11, 3) := by decide +kernel
theorem dX3_facesWithDial_6 : decode cX3_facesWithDial 6 = .ok (.astore_n 3, 1) := by decide +kernel
theorem dX3_facesWithDial_7 : decode cX3_facesWithDial 7 = .ok (.aload_n 3, 1) := by decide +kernel
theorem dX3_facesWithDial_8 : decode cX3_facesWithDial 8 = .ok (.arraylength, 1) := by decide +kernel
theorem dX3_facesWithDial_9 : decode cX3_facesWithDial 9 = .ok (.istore 4, 2) := by decide +kernel
theorem dX3_facesWithDial_11 : decode cX3_facesWithDial 11 = .ok (.iconst 0, 1) := by decide +kernel
theorem dX3_facesWithDial_12 : decode cX3_facesWithDial 12 = .ok (.istore 5, 2) := by decide +kernel
theorem dX3_facesWithDial_14 : decode cX3_facesWithDial 14 = .ok (.iload 5, 2) := by decide +kernel
theorem dX3_facesWithDial_16 : decode cX3_facesWithDial 16 = .ok (.iload 4, 2) := by decide +kernel
theorem dX3_facesWithDial_18 : decode cX3_facesWithDial 18 = .ok (.if_icmp .ge 27, 3) := by decide +kernel
theorem dX3_facesWithDial_21 : decode cX3_facesWithDial 21 = .ok (.aload_n 3, 1) := by decide +kernel
theorem dX3_facesWithDial_22 : decode cX3_facesWithDial 22 = .ok (.iload 5, 2) := by decide +kernel
theorem dX3_facesWithDial_24 : decode cX3_facesWithDial 24 = .ok (.aaload, 1) := by decide +kernel
theorem dX3_facesWithDial_25 : decode cX3_facesWithDial 25 = .ok (.astore 6, 2) := by decide +kernel
theorem dX3_facesWithDial_27 : decode cX3_facesWithDial 27 = .ok (.aload 6, 2) := by decide +kernel
theorem dX3_facesWithDial_29 : decode cX3_facesWithDial 29 = .ok (.getfield 102, 3) := by decide +kernel
theorem dX3_facesWithDial_32 : decode cX3_facesWithDial 32 = .ok (.iload_n 1, 1) := by decide +kernel
theorem dX3_facesWithDial_33 : decode cX3_facesWithDial 33 = .ok (.if_icmp .ne 6, 3) := by decide +kernel
theorem dX3_facesWithDial_36 : decode cX3_facesWithDial 36 = .ok (.iinc 2 1, 3) := by decide +kernel
theorem dX3_facesWithDial_39 : decode cX3_facesWithDial 39 = .ok (.iinc 5 1, 3) := by decide +kernel
theorem dX3_facesWithDial_42 : decode cX3_facesWithDial 42 = .ok (.goto (-28), 3) := by decide +kernel
theorem dX3_facesWithDial_45 : decode cX3_facesWithDial 45 = .ok (.iload_n 2, 1) := by decide +kernel
theorem dX3_facesWithDial_46 : decode cX3_facesWithDial 46 = .ok (.ireturn, 1) := by decide +kernel
theorem dX3_bells_0 : decode cX3_bells 0 = .ok (.iconst 0, 1) := by decide +kernel
theorem dX3_bells_1 : decode cX3_bells 1 = .ok (.istore_n 1, 1) := by decide +kernel
theorem dX3_bells_2 : decode cX3_bells 2 = .ok (.aload_n 0, 1) := by decide +kernel
theorem dX3_bells_3 : decode cX3_bells 3 = .ok (.getfield 11, 3) := by decide +kernel
theorem dX3_bells_6 : decode cX3_bells 6 = .ok (.astore_n 2, 1) := by decide +kernel
theorem dX3_bells_7 : decode cX3_bells 7 = .ok (.aload_n 2, 1) := by decide +kernel
theorem dX3_bells_8 : decode cX3_bells 8 = .ok (.arraylength, 1) := by decide +kernel
theorem dX3_bells_9 : decode cX3_bells 9 = .ok (.istore_n 3, 1) := by decide +kernel
theorem dX3_bells_10 : decode cX3_bells 10 = .ok (.iconst 0, 1) := by decide +kernel
theorem dX3_bells_11 : decode cX3_bells 11 = .ok (.istore 4, 2) := by decide +kernel
theorem dX3_bells_13 : decode cX3_bells 13 = .ok (.iload 4, 2) := by decide +kernel
theorem dX3_bells_15 : decode cX3_bells 15 = .ok (.iload_n 3, 1) := by decide +kernel
theorem dX3_bells_16 : decode cX3_bells 16 = .ok (.if_icmp .ge 26, 3) := by decide +kernel
theorem dX3_bells_19 : decode cX3_bells 19 = .ok (.aload_n 2, 1) := by decide +kernel
theorem dX3_bells_20 : decode cX3_bells 20 = .ok (.iload 4, 2) := by decide +kernel
theorem dX3_bells_22 : decode cX3_bells 22 = .ok (.aaload, 1) := by decide +kernel
theorem dX3_bells_23 : decode cX3_bells 23 = .ok (.astore 5, 2) := by decide +kernel
theorem dX3_bells_25 : decode cX3_bells 25 = .ok (.aload 5, 2) := by decide +kernel
theorem dX3_bells_27 : decode cX3_bells 27 = .ok (.getfield 120, 3) := by decide +kernel
theorem dX3_bells_30 : decode cX3_bells 30 = .ok (.ifCond .eq 6, 3) := by decide +kernel
theorem dX3_bells_33 : decode cX3_bells 33 = .ok (.iinc 1 1, 3) := by decide +kernel
theorem dX3_bells_36 : decode cX3_bells 36 = .ok (.iinc 4 1, 3) := by decide +kernel
theorem dX3_bells_39 : decode cX3_bells 39 = .ok (.goto (-26), 3) := by decide +kernel
theorem dX3_bells_42 : decode cX3_bells 42 = .ok (.iload_n 1, 1) := by decide +kernel
theorem dX3_bells_43 : decode cX3_bells 43 = .ok (.ireturn, 1) := by decide +kernel
theorem dX3_faceOfBellInRound_0 : decode cX3_faceOfBellInRound 0 = .ok (.iconst 0, 1) := by decide +kernel
theorem dX3_faceOfBellInRound_1 : decode cX3_faceOfBellInRound 1 = .ok (.istore_n 2, 1) := by decide +kernel
theorem dX3_faceOfBellInRound_2 : decode cX3_faceOfBellInRound 2 = .ok (.iconst 1, 1) := by decide +kernel
theorem dX3_faceOfBellInRound_3 : decode cX3_faceOfBellInRound 3 = .ok (.istore_n 3, 1) := by decide +kernel
theorem dX3_faceOfBellInRound_4 : decode cX3_faceOfBellInRound 4 = .ok (.iload_n 3, 1) := by decide +kernel
theorem dX3_faceOfBellInRound_5 : decode cX3_faceOfBellInRound 5 = .ok (.bipush 60, 2) := by decide +kernel
theorem dX3_faceOfBellInRound_7 : decode cX3_faceOfBellInRound 7 = .ok (.if_icmp .gt 61, 3) := by decide +kernel
theorem dX3_faceOfBellInRound_10 : decode cX3_faceOfBellInRound 10 = .ok (.iconst 0, 1) := by decide +kernel
theorem dX3_faceOfBellInRound_11 : decode cX3_faceOfBellInRound 11 = .ok (.istore 4, 2) := by decide +kernel
theorem dX3_faceOfBellInRound_13 : decode cX3_faceOfBellInRound 13 = .ok (.iload 4, 2) := by decide +kernel
theorem dX3_faceOfBellInRound_15 : decode cX3_faceOfBellInRound 15 = .ok (.iconst 4, 1) := by decide +kernel
theorem dX3_faceOfBellInRound_16 : decode cX3_faceOfBellInRound 16 = .ok (.if_icmp .ge 46, 3) := by decide +kernel
theorem dX3_faceOfBellInRound_19 : decode cX3_faceOfBellInRound 19 = .ok (.aload_n 0, 1) := by decide +kernel
theorem dX3_faceOfBellInRound_20 : decode cX3_faceOfBellInRound 20 = .ok (.getfield 11, 3) := by decide +kernel
theorem dX3_faceOfBellInRound_23 : decode cX3_faceOfBellInRound 23 = .ok (.iload 4, 2) := by decide +kernel
theorem dX3_faceOfBellInRound_25 : decode cX3_faceOfBellInRound 25 = .ok (.aaload, 1) := by decide +kernel
theorem dX3_faceOfBellInRound_26 : decode cX3_faceOfBellInRound 26 = .ok (.astore 5, 2) := by decide +kernel
theorem dX3_faceOfBellInRound_28 : decode cX3_faceOfBellInRound 28 = .ok (.aload 5, 2) := by decide +kernel
theorem dX3_faceOfBellInRound_30 : decode cX3_faceOfBellInRound 30 = .ok (.getfield 120, 3) := by decide +kernel
theorem dX3_faceOfBellInRound_33 : decode cX3_faceOfBellInRound 33 = .ok (.ifCond .eq 23, 3) := by decide +kernel
theorem dX3_faceOfBellInRound_36 : decode cX3_faceOfBellInRound 36 = .ok (.aload 5, 2) := by decide +kernel
theorem dX3_faceOfBellInRound_38 : decode cX3_faceOfBellInRound 38 = .ok (.invokevirtual 124, 3) := by decide +kernel
theorem dX3_faceOfBellInRound_41 : decode cX3_faceOfBellInRound 41 = .ok (.iload_n 3, 1) := by decide +kernel
theorem dX3_faceOfBellInRound_42 : decode cX3_faceOfBellInRound 42 = .ok (.if_icmp .ne 14, 3) := by decide +kernel
theorem dX3_faceOfBellInRound_45 : decode cX3_faceOfBellInRound 45 = .ok (.iload_n 2, 1) := by decide +kernel
theorem dX3_faceOfBellInRound_46 : decode cX3_faceOfBellInRound 46 = .ok (.iload_n 1, 1) := by decide +kernel
theorem dX3_faceOfBellInRound_47 : decode cX3_faceOfBellInRound 47 = .ok (.if_icmp .ne 6, 3) := by decide +kernel
theorem dX3_faceOfBellInRound_50 : decode cX3_faceOfBellInRound 50 = .ok (.iload 4, 2) := by decide +kernel
theorem dX3_faceOfBellInRound_52 : decode cX3_faceOfBellInRound 52 = .ok (.ireturn, 1) := by decide +kernel
theorem dX3_faceOfBellInRound_53 : decode cX3_faceOfBellInRound 53 = .ok (.iinc 2 1, 3) := by decide +kernel
theorem dX3_faceOfBellInRound_56 : decode cX3_faceOfBellInRound 56 = .ok (.iinc 4 1, 3) := by decide +kernel
theorem dX3_faceOfBellInRound_59 : decode cX3_faceOfBellInRound 59 = .ok (.goto (-46), 3) := by decide +kernel
theorem dX3_faceOfBellInRound_62 : decode cX3_faceOfBellInRound 62 = .ok (.iinc 3 1, 3) := by decide +kernel
theorem dX3_faceOfBellInRound_65 : decode cX3_faceOfBellInRound 65 = .ok (.goto (-61), 3) := by decide +kernel
theorem dX3_faceOfBellInRound_68 : decode cX3_faceOfBellInRound 68 = .ok (.iconst (-1), 1) := by decide +kernel
theorem dX3_faceOfBellInRound_69 : decode cX3_faceOfBellInRound 69 = .ok (.ireturn, 1) := by decide +kernel
theorem dX4_init_0 : decode cX4_init 0 = .ok (.aload_n 0, 1) := by decide +kernel
theorem dX4_init_1 : decode cX4_init 1 = .ok (.invokespecial 3, 3) := by decide +kernel
theorem dX4_init_4 : decode cX4_init 4 = .ok (.aload_n 0, 1) := by decide +kernel
theorem dX4_init_5 : decode cX4_init 5 = .ok (.bipush 60, 2) := by decide +kernel
theorem dX4_init_7 : decode cX4_init 7 = .ok (.newarray .char, 2) := by decide +kernel
theorem dX4_init_9 : decode cX4_init 9 = .ok (.putfield 9, 3) := by decide +kernel
theorem dX4_init_12 : decode cX4_init 12 = .ok (.return_, 1) := by decide +kernel
theorem dX5_init_0 : decode cX5_init 0 = .ok (.aload_n 0, 1) := by decide +kernel
theorem dX5_init_1 : decode cX5_init 1 = .ok (.invokespecial 1, 3) := by decide +kernel
theorem dX5_init_4 : decode cX5_init 4 = .ok (.aload_n 0, 1) := by decide +kernel
theorem dX5_init_5 : decode cX5_init 5 = .ok (.new 7, 3) := by decide +kernel
theorem dX5_init_8 : decode cX5_init 8 = .ok (.dup, 1) := by decide +kernel
theorem dX5_init_9 : decode cX5_init 9 = .ok (.invokespecial 9, 3) := by decide +kernel
theorem dX5_init_12 : decode cX5_init 12 = .ok (.putfield 10, 3) := by decide +kernel
theorem dX5_init_15 : decode cX5_init 15 = .ok (.aload_n 0, 1) := by decide +kernel
theorem dX5_init_16 : decode cX5_init 16 = .ok (.new 7, 3) := by decide +kernel
theorem dX5_init_19 : decode cX5_init 19 = .ok (.dup, 1) := by decide +kernel
theorem dX5_init_20 : decode cX5_init 20 = .ok (.invokespecial 9, 3) := by decide +kernel
theorem dX5_init_23 : decode cX5_init 23 = .ok (.putfield 16, 3) := by decide +kernel
theorem dX5_init_26 : decode cX5_init 26 = .ok (.aload_n 0, 1) := by decide +kernel
theorem dX5_init_27 : decode cX5_init 27 = .ok (.new 7, 3) := by decide +kernel
theorem dX5_init_30 : decode cX5_init 30 = .ok (.dup, 1) := by decide +kernel
theorem dX5_init_31 : decode cX5_init 31 = .ok (.invokespecial 9, 3) := by decide +kernel
theorem dX5_init_34 : decode cX5_init 34 = .ok (.putfield 19, 3) := by decide +kernel
theorem dX5_init_37 : decode cX5_init 37 = .ok (.aload_n 0, 1) := by decide +kernel
theorem dX5_init_38 : decode cX5_init 38 = .ok (.new 22, 3) := by decide +kernel
theorem dX5_init_41 : decode cX5_init 41 = .ok (.dup, 1) := by decide +kernel
theorem dX5_init_42 : decode cX5_init 42 = .ok (.invokespecial 24, 3) := by decide +kernel
theorem dX5_init_45 : decode cX5_init 45 = .ok (.putfield 25, 3) := by decide +kernel
theorem dX5_init_48 : decode cX5_init 48 = .ok (.aload_n 0, 1) := by decide +kernel
theorem dX5_init_49 : decode cX5_init 49 = .ok (.new 29, 3) := by decide +kernel
theorem dX5_init_52 : decode cX5_init 52 = .ok (.dup, 1) := by decide +kernel
theorem dX5_init_53 : decode cX5_init 53 = .ok (.invokespecial 31, 3) := by decide +kernel
theorem dX5_init_56 : decode cX5_init 56 = .ok (.putfield 32, 3) := by decide +kernel
theorem dX5_init_59 : decode cX5_init 59 = .ok (.return_, 1) := by decide +kernel
theorem dX5_set_0 : decode cX5_set 0 = .ok (.iload_n 1, 1) := by decide +kernel
theorem dX5_set_1 : decode cX5_set 1 = .ok (.invokestatic 36, 3) := by decide +kernel
theorem dX5_set_4 : decode cX5_set 4 = .ok (.ifCond .ne 7, 3) := by decide +kernel
theorem dX5_set_7 : decode cX5_set 7 = .ok (.sipush (-1002), 3) := by decide +kernel
theorem dX5_set_10 : decode cX5_set 10 = .ok (.ireturn, 1) := by decide +kernel
theorem dX5_set_11 : decode cX5_set 11 = .ok (.iload_n 2, 1) := by decide +kernel
theorem dX5_set_12 : decode cX5_set 12 = .ok (.getstatic 40, 3) := by decide +kernel
theorem dX5_set_15 : decode cX5_set 15 = .ok (.iload_n 1, 1) := by decide +kernel
theorem dX5_set_16 : decode cX5_set 16 = .ok (.iaload, 1) := by decide +kernel
theorem dX5_set_17 : decode cX5_set 17 = .ok (.getstatic 44, 3) := by decide +kernel
theorem dX5_set_20 : decode cX5_set 20 = .ok (.iload_n 1, 1) := by decide +kernel
theorem dX5_set_21 : decode cX5_set 21 = .ok (.iaload, 1) := by decide +kernel
theorem dX5_set_22 : decode cX5_set 22 = .ok (.invokestatic 47, 3) := by decide +kernel
theorem dX5_set_25 : decode cX5_set 25 = .ok (.ifCond .ne 7, 3) := by decide +kernel
theorem dX5_set_28 : decode cX5_set 28 = .ok (.sipush (-1002), 3) := by decide +kernel
theorem dX5_set_31 : decode cX5_set 31 = .ok (.ireturn, 1) := by decide +kernel
theorem dX5_set_32 : decode cX5_set 32 = .ok (.aload_n 0, 1) := by decide +kernel
theorem dX5_set_33 : decode cX5_set 33 = .ok (.getfield 25, 3) := by decide +kernel
theorem dX5_set_36 : decode cX5_set 36 = .ok (.aload_n 0, 1) := by decide +kernel
theorem dX5_set_37 : decode cX5_set 37 = .ok (.getfield 10, 3) := by decide +kernel
theorem dX5_set_40 : decode cX5_set 40 = .ok (.invokevirtual 51, 3) := by decide +kernel
theorem dX5_set_43 : decode cX5_set 43 = .ok (.aload_n 0, 1) := by decide +kernel
theorem dX5_set_44 : decode cX5_set 44 = .ok (.getfield 10, 3) := by decide +kernel
theorem dX5_set_47 : decode cX5_set 47 = .ok (.getfield 55, 3) := by decide +kernel
theorem dX5_set_50 : decode cX5_set 50 = .ok (.iload_n 1, 1) := by decide +kernel
theorem dX5_set_51 : decode cX5_set 51 = .ok (.iaload, 1) := by decide +kernel
theorem dX5_set_52 : decode cX5_set 52 = .ok (.istore_n 3, 1) := by decide +kernel
theorem dX5_set_53 : decode cX5_set 53 = .ok (.aload_n 0, 1) := by decide +kernel
theorem dX5_set_54 : decode cX5_set 54 = .ok (.getfield 10, 3) := by decide +kernel
theorem dX5_set_57 : decode cX5_set 57 = .ok (.getfield 55, 3) := by decide +kernel
theorem dX5_set_60 : decode cX5_set 60 = .ok (.iload_n 1, 1) := by decide +kernel
theorem dX5_set_61 : decode cX5_set 61 = .ok (.iload_n 2, 1) := by decide +kernel
theorem dX5_set_62 : decode cX5_set 62 = .ok (.iastore, 1) := by decide +kernel
theorem dX5_set_63 : decode cX5_set 63 = .ok (.iload_n 3, 1) := by decide +kernel
theorem dX5_set_64 : decode cX5_set 64 = .ok (.ireturn, 1) := by decide +kernel
theorem dX5_setting_0 : decode cX5_setting 0 = .ok (.iload_n 1, 1) := by decide +kernel
theorem dX5_setting_1 : decode cX5_setting 1 = .ok (.invokestatic 36, 3) := by decide +kernel
theorem dX5_setting_4 : decode cX5_setting 4 = .ok (.ifCond .eq 15, 3) := by decide +kernel
theorem dX5_setting_7 : decode cX5_setting 7 = .ok (.aload_n 0, 1) := by decide +kernel
theorem dX5_setting_8 : decode cX5_setting 8 = .ok (.getfield 10, 3) := by decide +kernel
theorem dX5_setting_11 : decode cX5_setting 11 = .ok (.getfield 55, 3) := by decide +kernel
theorem dX5_setting_14 : decode cX5_setting 14 = .ok (.iload_n 1, 1) := by decide +kernel
theorem dX5_setting_15 : decode cX5_setting 15 = .ok (.iaload, 1) := by decide +kernel
theorem dX5_setting_16 : decode cX5_setting 16 = .ok (.goto 6, 3) := by decide +kernel
theorem dX5_setting_19 : decode cX5_setting 19 = .ok (.sipush (-1002), 3) := by decide +kernel
theorem dX5_setting_22 : decode cX5_setting 22 = .ok (.ireturn, 1) := by decide +kernel
theorem dX5_gear_0 : decode cX5_gear 0 = .ok (.aload_n 0, 1) := by decide +kernel
theorem dX5_gear_1 : decode cX5_gear 1 = .ok (.getfield 10, 3) := by decide +kernel
theorem dX5_gear_4 : decode cX5_gear 4 = .ok (.iload_n 1, 1) := by decide +kernel
theorem dX5_gear_5 : decode cX5_gear 5 = .ok (.invokevirtual 58, 3) := by decide +kernel
theorem dX5_gear_8 : decode cX5_gear 8 = .ok (.astore_n 3, 1) := by decide +kernel
theorem dX5_gear_9 : decode cX5_gear 9 = .ok (.aload_n 3, 1) := by decide +kernel
theorem dX5_gear_10 : decode cX5_gear 10 = .ok (.ifnonnull 7, 3) := by decide +kernel
theorem dX5_gear_13 : decode cX5_gear 13 = .ok (.sipush (-1001), 3) := by decide +kernel
theorem dX5_gear_16 : decode cX5_gear 16 = .ok (.ireturn, 1) := by decide +kernel
theorem dX5_gear_17 : decode cX5_gear 17 = .ok (.iload_n 2, 1) := by decide +kernel
theorem dX5_gear_18 : decode cX5_gear 18 = .ok (.bipush 10, 2) := by decide +kernel
theorem dX5_gear_20 : decode cX5_gear 20 = .ok (.bipush 60, 2) := by decide +kernel
theorem dX5_gear_22 : decode cX5_gear 22 = .ok (.invokestatic 47, 3) := by decide +kernel
theorem dX5_gear_25 : decode cX5_gear 25 = .ok (.ifCond .ne 7, 3) := by decide +kernel
theorem dX5_gear_28 : decode cX5_gear 28 = .ok (.sipush (-1002), 3) := by decide +kernel
theorem dX5_gear_31 : decode cX5_gear 31 = .ok (.ireturn, 1) := by decide +kernel
theorem dX5_gear_32 : decode cX5_gear 32 = .ok (.aload_n 0, 1) := by decide +kernel
theorem dX5_gear_33 : decode cX5_gear 33 = .ok (.getfield 25, 3) := by decide +kernel
theorem dX5_gear_36 : decode cX5_gear 36 = .ok (.aload_n 0, 1) := by decide +kernel
theorem dX5_gear_37 : decode cX5_gear 37 = .ok (.getfield 10, 3) := by decide +kernel
theorem dX5_gear_40 : decode cX5_gear 40 = .ok (.invokevirtual 51, 3) := by decide +kernel
theorem dX5_gear_43 : decode cX5_gear 43 = .ok (.aload_n 3, 1) := by decide +kernel
theorem dX5_gear_44 : decode cX5_gear 44 = .ok (.getfield 62, 3) := by decide +kernel
theorem dX5_gear_47 : decode cX5_gear 47 = .ok (.istore 4, 2) := by decide +kernel
theorem dX5_gear_49 : decode cX5_gear 49 = .ok (.aload_n 3, 1) := by decide +kernel
theorem dX5_gear_50 : decode cX5_gear 50 = .ok (.iload_n 2, 1) := by decide +kernel
theorem dX5_gear_51 : decode cX5_gear 51 = .ok (.putfield 62, 3) := by decide +kernel
theorem dX5_gear_54 : decode cX5_gear 54 = .ok (.aload_n 3, 1) := by decide +kernel
theorem dX5_gear_55 : decode cX5_gear 55 = .ok (.iconst 0, 1) := by decide +kernel
theorem dX5_gear_56 : decode cX5_gear 56 = .ok (.putfield 68, 3) := by decide +kernel
theorem dX5_gear_59 : decode cX5_gear 59 = .ok (.iload 4, 2) := by decide +kernel
theorem dX5_gear_61 : decode cX5_gear 61 = .ok (.ireturn, 1) := by decide +kernel
theorem dX5_oil_0 : decode cX5_oil 0 = .ok (.aload_n 0, 1) := by decide +kernel
theorem dX5_oil_1 : decode cX5_oil 1 = .ok (.getfield 10, 3) := by decide +kernel
theorem dX5_oil_4 : decode cX5_oil 4 = .ok (.iload_n 1, 1) := by decide +kernel
theorem dX5_oil_5 : decode cX5_oil 5 = .ok (.invokevirtual 58, 3) := by decide +kernel
theorem dX5_oil_8 : decode cX5_oil 8 = .ok (.astore_n 2, 1) := by decide +kernel
theorem dX5_oil_9 : decode cX5_oil 9 = .ok (.aload_n 2, 1) := by decide +kernel
theorem dX5_oil_10 : decode cX5_oil 10 = .ok (.ifnonnull 7, 3) := by decide +kernel
theorem dX5_oil_13 : decode cX5_oil 13 = .ok (.sipush (-1001), 3) := by decide +kernel
theorem dX5_oil_16 : decode cX5_oil 16 = .ok (.ireturn, 1) := by decide +kernel
theorem dX5_oil_17 : decode cX5_oil 17 = .ok (.aload_n 0, 1) := by decide +kernel
theorem dX5_oil_18 : decode cX5_oil 18 = .ok (.getfield 25, 3) := by decide +kernel
theorem dX5_oil_21 : decode cX5_oil 21 = .ok (.aload_n 0, 1) := by decide +kernel
theorem dX5_oil_22 : decode cX5_oil 22 = .ok (.getfield 10, 3) := by decide +kernel
theorem dX5_oil_25 : decode cX5_oil 25 = .ok (.invokevirtual 51, 3) := by decide +kernel
theorem dX5_oil_28 : decode cX5_oil 28 = .ok (.aload_n 2, 1) := by decide +kernel
theorem dX5_oil_29 : decode cX5_oil 29 = .ok (.invokevirtual 71, 3) := by decide +kernel
theorem dX5_oil_32 : decode cX5_oil 32 = .ok (.aload_n 2, 1) := by decide +kernel
theorem dX5_oil_33 : decode cX5_oil 33 = .ok (.getfield 74, 3) := by decide +kernel
theorem dX5_oil_36 : decode cX5_oil 36 = .ok (.ireturn, 1) := by decide +kernel
theorem dX5_dial_0 : decode cX5_dial 0 = .ok (.aload_n 0, 1) := by decide +kernel
theorem dX5_dial_1 : decode cX5_dial 1 = .ok (.getfield 10, 3) := by decide +kernel
theorem dX5_dial_4 : decode cX5_dial 4 = .ok (.iload_n 1, 1) := by decide +kernel
theorem dX5_dial_5 : decode cX5_dial 5 = .ok (.invokevirtual 58, 3) := by decide +kernel
theorem dX5_dial_8 : decode cX5_dial 8 = .ok (.astore_n 3, 1) := by decide +kernel
theorem dX5_dial_9 : decode cX5_dial 9 = .ok (.aload_n 3, 1) := by decide +kernel
theorem dX5_dial_10 : decode cX5_dial 10 = .ok (.ifnonnull 7, 3) := by decide +kernel
theorem dX5_dial_13 : decode cX5_dial 13 = .ok (.sipush (-1001), 3) := by decide +kernel
theorem dX5_dial_16 : decode cX5_dial 16 = .ok (.ireturn, 1) := by decide +kernel
theorem dX5_dial_17 : decode cX5_dial 17 = .ok (.iload_n 2, 1) := by decide +kernel
theorem dX5_dial_18 : decode cX5_dial 18 = .ok (.iconst 0, 1) := by decide +kernel
theorem dX5_dial_19 : decode cX5_dial 19 = .ok (.sipush 719, 3) := by decide +kernel
theorem dX5_dial_22 : decode cX5_dial 22 = .ok (.invokestatic 47, 3) := by decide +kernel
theorem dX5_dial_25 : decode cX5_dial 25 = .ok (.ifCond .ne 7, 3) := by decide +kernel
theorem dX5_dial_28 : decode cX5_dial 28 = .ok (.sipush (-1002), 3) := by decide +kernel
theorem dX5_dial_31 : decode cX5_dial 31 = .ok (.ireturn, 1) := by decide +kernel
theorem dX5_dial_32 : decode cX5_dial 32 = .ok (.aload_n 0, 1) := by decide +kernel
theorem dX5_dial_33 : decode cX5_dial 33 = .ok (.getfield 25, 3) := by decide +kernel
theorem dX5_dial_36 : decode cX5_dial 36 = .ok (.aload_n 0, 1) := by decide +kernel
theorem dX5_dial_37 : decode cX5_dial 37 = .ok (.getfield 10, 3) := by decide +kernel
theorem dX5_dial_40 : decode cX5_dial 40 = .ok (.invokevirtual 51, 3) := by decide +kernel
theorem dX5_dial_43 : decode cX5_dial 43 = .ok (.aload_n 3, 1) := by decide +kernel
theorem dX5_dial_44 : decode cX5_dial 44 = .ok (.getfield 77, 3) := by decide +kernel
theorem dX5_dial_47 : decode cX5_dial 47 = .ok (.istore 4, 2) := by decide +kernel
theorem dX5_dial_49 : decode cX5_dial 49 = .ok (.aload_n 3, 1) := by decide +kernel
theorem dX5_dial_50 : decode cX5_dial 50 = .ok (.iload_n 2, 1) := by decide +kernel
theorem dX5_dial_51 : decode cX5_dial 51 = .ok (.putfield 77, 3) := by decide +kernel
theorem dX5_dial_54 : decode cX5_dial 54 = .ok (.iload 4, 2) := by decide +kernel
theorem dX5_dial_56 : decode cX5_dial 56 = .ok (.iload_n 2, 1) := by decide +kernel
theorem dX5_dial_57 : decode cX5_dial 57 = .ok (.invokestatic 80, 3) := by decide +kernel
theorem dX5_dial_60 : decode cX5_dial 60 = .ok (.ireturn, 1) := by decide +kernel
theorem dX5_bell_0 : decode cX5_bell 0 = .ok (.aload_n 0, 1) := by decide +kernel
theorem dX5_bell_1 : decode cX5_bell 1 = .ok (.getfield 10, 3) := by decide +kernel
theorem dX5_bell_4 : decode cX5_bell 4 = .ok (.iload_n 1, 1) := by decide +kernel
theorem dX5_bell_5 : decode cX5_bell 5 = .ok (.invokevirtual 58, 3) := by decide +kernel
theorem dX5_bell_8 : decode cX5_bell 8 = .ok (.astore_n 2, 1) := by decide +kernel
theorem dX5_bell_9 : decode cX5_bell 9 = .ok (.aload_n 2, 1) := by decide +kernel
theorem dX5_bell_10 : decode cX5_bell 10 = .ok (.ifnonnull 7, 3) := by decide +kernel
theorem dX5_bell_13 : decode cX5_bell 13 = .ok (.sipush (-1001), 3) := by decide +kernel
theorem dX5_bell_16 : decode cX5_bell 16 = .ok (.ireturn, 1) := by decide +kernel
theorem dX5_bell_17 : decode cX5_bell 17 = .ok (.aload_n 0, 1) := by decide +kernel
theorem dX5_bell_18 : decode cX5_bell 18 = .ok (.getfield 25, 3) := by decide +kernel
theorem dX5_bell_21 : decode cX5_bell 21 = .ok (.aload_n 0, 1) := by decide +kernel
theorem dX5_bell_22 : decode cX5_bell 22 = .ok (.getfield 10, 3) := by decide +kernel
theorem dX5_bell_25 : decode cX5_bell 25 = .ok (.invokevirtual 51, 3) := by decide +kernel
theorem dX5_bell_28 : decode cX5_bell 28 = .ok (.aload_n 2, 1) := by decide +kernel
theorem dX5_bell_29 : decode cX5_bell 29 = .ok (.aload_n 2, 1) := by decide +kernel
theorem dX5_bell_30 : decode cX5_bell 30 = .ok (.getfield 84, 3) := by decide +kernel
theorem dX5_bell_33 : decode cX5_bell 33 = .ok (.ifCond .ne 7, 3) := by decide +kernel
theorem dX5_bell_36 : decode cX5_bell 36 = .ok (.iconst 1, 1) := by decide +kernel
theorem dX5_bell_37 : decode cX5_bell 37 = .ok (.goto 4, 3) := by decide +kernel
theorem dX5_bell_40 : decode cX5_bell 40 = .ok (.iconst 0, 1) := by decide +kernel
theorem dX5_bell_41 : decode cX5_bell 41 = .ok (.putfield 84, 3) := by decide +kernel
theorem dX5_bell_44 : decode cX5_bell 44 = .ok (.aload_n 2, 1) := by decide +kernel
theorem dX5_bell_45 : decode cX5_bell 45 = .ok (.getfield 84, 3) := by decide +kernel
theorem dX5_bell_48 : decode cX5_bell 48 = .ok (.ifCond .eq 7, 3) := by decide +kernel
theorem dX5_bell_51 : decode cX5_bell 51 = .ok (.iconst 1, 1) := by decide +kernel
theorem dX5_bell_52 : decode cX5_bell 52 = .ok (.goto 4, 3) := by decide +kernel
theorem dX5_bell_55 : decode cX5_bell 55 = .ok (.iconst 0, 1) := by decide +kernel
theorem dX5_bell_56 : decode cX5_bell 56 = .ok (.ireturn, 1) := by decide +kernel
theorem dX5_pass_0 : decode cX5_pass 0 = .ok (.aload_n 0, 1) := by decide +kernel
theorem dX5_pass_1 : decode cX5_pass 1 = .ok (.getfield 10, 3) := by decide +kernel
theorem dX5_pass_4 : decode cX5_pass 4 = .ok (.iload_n 1, 1) := by decide +kernel
theorem dX5_pass_5 : decode cX5_pass 5 = .ok (.invokevirtual 88, 3) := by decide +kernel
theorem dX5_pass_8 : decode cX5_pass 8 = .ok (.istore_n 2, 1) := by decide +kernel
theorem dX5_pass_9 : decode cX5_pass 9 = .ok (.iload_n 2, 1) := by decide +kernel
theorem dX5_pass_10 : decode cX5_pass 10 = .ok (.ifCond .eq 5, 3) := by decide +kernel
theorem dX5_pass_13 : decode cX5_pass 13 = .ok (.iload_n 2, 1) := by decide +kernel
theorem dX5_pass_14 : decode cX5_pass 14 = .ok (.ireturn, 1) := by decide +kernel
theorem dX5_pass_15 : decode cX5_pass 15 = .ok (.aload_n 0, 1) := by decide +kernel
theorem dX5_pass_16 : decode cX5_pass 16 = .ok (.getfield 25, 3) := by decide +kernel
theorem dX5_pass_19 : decode cX5_pass 19 = .ok (.aload_n 0, 1) := by decide +kernel
theorem dX5_pass_20 : decode cX5_pass 20 = .ok (.getfield 10, 3) := by decide +kernel
theorem dX5_pass_23 : decode cX5_pass 23 = .ok (.invokevirtual 51, 3) := by decide +kernel
theorem dX5_pass_26 : decode cX5_pass 26 = .ok (.aload_n 0, 1) := by decide +kernel
theorem dX5_pass_27 : decode cX5_pass 27 = .ok (.getfield 10, 3) := by decide +kernel
theorem dX5_pass_30 : decode cX5_pass 30 = .ok (.iload_n 1, 1) := by decide +kernel
theorem dX5_pass_31 : decode cX5_pass 31 = .ok (.invokevirtual 92, 3) := by decide +kernel
theorem dX5_pass_34 : decode cX5_pass 34 = .ok (.ireturn, 1) := by decide +kernel
theorem dX5_hire_0 : decode cX5_hire 0 = .ok (.aload_n 0, 1) := by decide +kernel
theorem dX5_hire_1 : decode cX5_hire 1 = .ok (.getfield 10, 3) := by decide +kernel
theorem dX5_hire_4 : decode cX5_hire 4 = .ok (.getfield 95, 3) := by decide +kernel
theorem dX5_hire_7 : decode cX5_hire 7 = .ok (.iload_n 1, 1) := by decide +kernel
theorem dX5_hire_8 : decode cX5_hire 8 = .ok (.iload_n 2, 1) := by decide +kernel
theorem dX5_hire_9 : decode cX5_hire 9 = .ok (.invokevirtual 99, 3) := by decide +kernel
theorem dX5_hire_12 : decode cX5_hire 12 = .ok (.istore_n 3, 1) := by decide +kernel
theorem dX5_hire_13 : decode cX5_hire 13 = .ok (.iload_n 3, 1) := by decide +kernel
theorem dX5_hire_14 : decode cX5_hire 14 = .ok (.ifCond .eq 5, 3) := by decide +kernel
theorem dX5_hire_17 : decode cX5_hire 17 = .ok (.iload_n 3, 1) := by decide +kernel
theorem dX5_hire_18 : decode cX5_hire 18 = .ok (.ireturn, 1) := by decide +kernel
theorem dX5_hire_19 : decode cX5_hire 19 = .ok (.aload_n 0, 1) := by decide +kernel
theorem dX5_hire_20 : decode cX5_hire 20 = .ok (.getfield 25, 3) := by decide +kernel
theorem dX5_hire_23 : decode cX5_hire 23 = .ok (.aload_n 0, 1) := by decide +kernel
theorem dX5_hire_24 : decode cX5_hire 24 = .ok (.getfield 10, 3) := by decide +kernel
theorem dX5_hire_27 : decode cX5_hire 27 = .ok (.invokevirtual 51, 3) := by decide +kernel
theorem dX5_hire_30 : decode cX5_hire 30 = .ok (.aload_n 0, 1) := by decide +kernel
theorem dX5_hire_31 : decode cX5_hire 31 = .ok (.getfield 10, 3) := by decide +kernel
theorem dX5_hire_34 : decode cX5_hire 34 = .ok (.getfield 95, 3) := by decide +kernel
theorem dX5_hire_37 : decode cX5_hire 37 = .ok (.iload_n 1, 1) := by decide +kernel
theorem dX5_hire_38 : decode cX5_hire 38 = .ok (.iload_n 2, 1) := by decide +kernel
theorem dX5_hire_39 : decode cX5_hire 39 = .ok (.invokevirtual 104, 3) := by decide +kernel
theorem dX5_hire_42 : decode cX5_hire 42 = .ok (.aload_n 0, 1) := by decide +kernel
theorem dX5_hire_43 : decode cX5_hire 43 = .ok (.getfield 10, 3) := by decide +kernel
theorem dX5_hire_46 : decode cX5_hire 46 = .ok (.getfield 95, 3) := by decide +kernel
theorem dX5_hire_49 : decode cX5_hire 49 = .ok (.getfield 108, 3) := by decide +kernel
theorem dX5_hire_52 : decode cX5_hire 52 = .ok (.ireturn, 1) := by decide +kernel
theorem dX5_dismiss_0 : decode cX5_dismiss 0 = .ok (.aload_n 0, 1) := by decide +kernel
theorem dX5_dismiss_1 : decode cX5_dismiss 1 = .ok (.getfield 10, 3) := by decide +kernel
theorem dX5_dismiss_4 : decode cX5_dismiss 4 = .ok (.getfield 95, 3) := by decide +kernel
theorem dX5_dismiss_7 : decode cX5_dismiss 7 = .ok (.iload_n 1, 1) := by decide +kernel
theorem dX5_dismiss_8 : decode cX5_dismiss 8 = .ok (.invokevirtual 111, 3) := by decide +kernel
theorem dX5_dismiss_11 : decode cX5_dismiss 11 = .ok (.ifCond .ne 7, 3) := by decide +kernel
theorem dX5_dismiss_14 : decode cX5_dismiss 14 = .ok (.sipush (-1001), 3) := by decide +kernel
theorem dX5_dismiss_17 : decode cX5_dismiss 17 = .ok (.ireturn, 1) := by decide +kernel
theorem dX5_dismiss_18 : decode cX5_dismiss 18 = .ok (.aload_n 0, 1) := by decide +kernel
theorem dX5_dismiss_19 : decode cX5_dismiss 19 = .ok (.getfield 25, 3) := by decide +kernel
theorem dX5_dismiss_22 : decode cX5_dismiss 22 = .ok (.aload_n 0, 1) := by decide +kernel
theorem dX5_dismiss_23 : decode cX5_dismiss 23 = .ok (.getfield 10, 3) := by decide +kernel
theorem dX5_dismiss_26 : decode cX5_dismiss 26 = .ok (.invokevirtual 51, 3) := by decide +kernel
theorem dX5_dismiss_29 : decode cX5_dismiss 29 = .ok (.aload_n 0, 1) := by decide +kernel
theorem dX5_dismiss_30 : decode cX5_dismiss 30 = .ok (.getfield 10, 3) := by decide +kernel
theorem dX5_dismiss_33 : decode cX5_dismiss 33 = .ok (.getfield 95, 3) := by decide +kernel
theorem dX5_dismiss_36 : decode cX5_dismiss 36 = .ok (.iload_n 1, 1) := by decide +kernel
theorem dX5_dismiss_37 : decode cX5_dismiss 37 = .ok (.invokevirtual 114, 3) := by decide +kernel
theorem dX5_dismiss_40 : decode cX5_dismiss 40 = .ok (.ireturn, 1) := by decide +kernel
theorem dX5_reset_0 : decode cX5_reset 0 = .ok (.aload_n 0, 1) := by decide +kernel
theorem dX5_reset_1 : decode cX5_reset 1 = .ok (.getfield 10, 3) := by decide +kernel
theorem dX5_reset_4 : decode cX5_reset 4 = .ok (.getfield 95, 3) := by decide +kernel
theorem dX5_reset_7 : decode cX5_reset 7 = .ok (.getfield 108, 3) := by decide +kernel
theorem dX5_reset_10 : decode cX5_reset 10 = .ok (.ifCond .ne 7, 3) := by decide +kernel
theorem dX5_reset_13 : decode cX5_reset 13 = .ok (.sipush (-1003), 3) := by decide +kernel
theorem dX5_reset_16 : decode cX5_reset 16 = .ok (.ireturn, 1) := by decide +kernel
theorem dX5_reset_17 : decode cX5_reset 17 = .ok (.aload_n 0, 1) := by decide +kernel
theorem dX5_reset_18 : decode cX5_reset 18 = .ok (.getfield 25, 3) := by decide +kernel
theorem dX5_reset_21 : decode cX5_reset 21 = .ok (.aload_n 0, 1) := by decide +kernel
theorem dX5_reset_22 : decode cX5_reset 22 = .ok (.getfield 10, 3) := by decide +kernel
theorem dX5_reset_25 : decode cX5_reset 25 = .ok (.invokevirtual 51, 3) := by decide +kernel
theorem dX5_reset_28 : decode cX5_reset 28 = .ok (.aload_n 0, 1) := by decide +kernel
theorem dX5_reset_29 : decode cX5_reset 29 = .ok (.getfield 10, 3) := by decide +kernel
theorem dX5_reset_32 : decode cX5_reset 32 = .ok (.invokevirtual 117, 3) := by decide +kernel
theorem dX5_reset_35 : decode cX5_reset 35 = .ok (.ireturn, 1) := by decide +kernel
theorem dX5_keeper_0 : decode cX5_keeper 0 = .ok (.iload_n 1, 1) := by decide +kernel
theorem dX5_keeper_1 : decode cX5_keeper 1 = .ok (.iconst 0, 1) := by decide +kernel
theorem dX5_keeper_2 : decode cX5_keeper 2 = .ok (.sipush 1439, 3) := by decide +kernel
theorem dX5_keeper_5 : decode cX5_keeper 5 = .ok (.invokestatic 47, 3) := by decide +kernel
theorem dX5_keeper_8 : decode cX5_keeper 8 = .ok (.ifCond .eq 12, 3) := by decide +kernel
theorem dX5_keeper_11 : decode cX5_keeper 11 = .ok (.iload_n 2, 1) := by decide +kernel
theorem dX5_keeper_12 : decode cX5_keeper 12 = .ok (.iconst 0, 1) := by decide +kernel
theorem dX5_keeper_13 : decode cX5_keeper 13 = .ok (.iconst 2, 1) := by decide +kernel
theorem dX5_keeper_14 : decode cX5_keeper 14 = .ok (.invokestatic 47, 3) := by decide +kernel
theorem dX5_keeper_17 : decode cX5_keeper 17 = .ok (.ifCond .ne 7, 3) := by decide +kernel
theorem dX5_keeper_20 : decode cX5_keeper 20 = .ok (.sipush (-1002), 3) := by decide +kernel
theorem dX5_keeper_23 : decode cX5_keeper 23 = .ok (.ireturn, 1) := by decide +kernel
theorem dX5_keeper_24 : decode cX5_keeper 24 = .ok (.aload_n 0, 1) := by decide +kernel
theorem dX5_keeper_25 : decode cX5_keeper 25 = .ok (.getfield 10, 3) := by decide +kernel
theorem dX5_keeper_28 : decode cX5_keeper 28 = .ok (.getfield 95, 3) := by decide +kernel
theorem dX5_keeper_31 : decode cX5_keeper 31 = .ok (.iload_n 1, 1) := by decide +kernel
theorem dX5_keeper_32 : decode cX5_keeper 32 = .ok (.invokevirtual 121, 3) := by decide +kernel
theorem dX5_keeper_35 : decode cX5_keeper 35 = .ok (.istore_n 3, 1) := by decide +kernel
theorem dX5_keeper_36 : decode cX5_keeper 36 = .ok (.iload_n 3, 1) := by decide +kernel
theorem dX5_keeper_37 : decode cX5_keeper 37 = .ok (.ifCond .ge 7, 3) := by decide +kernel
theorem dX5_keeper_40 : decode cX5_keeper 40 = .ok (.sipush (-1000), 3) := by decide +kernel
theorem dX5_keeper_43 : decode cX5_keeper 43 = .ok (.ireturn, 1) := by decide +kernel
theorem dX5_keeper_44 : decode cX5_keeper 44 = .ok (.iload_n 2, 1) := by decide +kernel
theorem dX5_keeper_45 : decode cX5_keeper 45 = .ok (.lookupswitch 53 #[(0, 27), (1, 40)], 27) := by decide +kernel
theorem dX5_keeper_72 : decode cX5_keeper 72 = .ok (.aload_n 0, 1) := by decide +kernel
theorem dX5_keeper_73 : decode cX5_keeper 73 = .ok (.getfield 10, 3) := by decide +kernel
theorem dX5_keeper_76 : decode cX5_keeper 76 = .ok (.getfield 95, 3) := by decide +kernel
theorem dX5_keeper_79 : decode cX5_keeper 79 = .ok (.getfield 124, 3) := by decide +kernel
theorem dX5_keeper_82 : decode cX5_keeper 82 = .ok (.iload_n 3, 1) := by decide +kernel
theorem dX5_keeper_83 : decode cX5_keeper 83 = .ok (.iaload, 1) := by decide +kernel
theorem dX5_keeper_84 : decode cX5_keeper 84 = .ok (.ireturn, 1) := by decide +kernel
theorem dX5_keeper_85 : decode cX5_keeper 85 = .ok (.aload_n 0, 1) := by decide +kernel
theorem dX5_keeper_86 : decode cX5_keeper 86 = .ok (.getfield 10, 3) := by decide +kernel
theorem dX5_keeper_89 : decode cX5_keeper 89 = .ok (.getfield 95, 3) := by decide +kernel
theorem dX5_keeper_92 : decode cX5_keeper 92 = .ok (.getfield 127, 3) := by decide +kernel
theorem dX5_keeper_95 : decode cX5_keeper 95 = .ok (.iload_n 3, 1) := by decide +kernel
theorem dX5_keeper_96 : decode cX5_keeper 96 = .ok (.iaload, 1) := by decide +kernel
theorem dX5_keeper_97 : decode cX5_keeper 97 = .ok (.ireturn, 1) := by decide +kernel
theorem dX5_keeper_98 : decode cX5_keeper 98 = .ok (.aload_n 0, 1) := by decide +kernel
theorem dX5_keeper_99 : decode cX5_keeper 99 = .ok (.getfield 10, 3) := by decide +kernel
theorem dX5_keeper_102 : decode cX5_keeper 102 = .ok (.getfield 95, 3) := by decide +kernel
theorem dX5_keeper_105 : decode cX5_keeper 105 = .ok (.iload_n 1, 1) := by decide +kernel
theorem dX5_keeper_106 : decode cX5_keeper 106 = .ok (.invokevirtual 130, 3) := by decide +kernel
theorem dX5_keeper_109 : decode cX5_keeper 109 = .ok (.ireturn, 1) := by decide +kernel
theorem dX5_keeperTime_0 : decode cX5_keeperTime 0 = .ok (.aload_n 0, 1) := by decide +kernel
theorem dX5_keeperTime_1 : decode cX5_keeperTime 1 = .ok (.getfield 10, 3) := by decide +kernel
theorem dX5_keeperTime_4 : decode cX5_keeperTime 4 = .ok (.invokevirtual 133, 3) := by decide +kernel
theorem dX5_keeperTime_7 : decode cX5_keeperTime 7 = .ok (.ireturn, 1) := by decide +kernel
theorem dX5_face_0 : decode cX5_face 0 = .ok (.aload_n 0, 1) := by decide +kernel
theorem dX5_face_1 : decode cX5_face 1 = .ok (.getfield 10, 3) := by decide +kernel
theorem dX5_face_4 : decode cX5_face 4 = .ok (.iload_n 1, 1) := by decide +kernel
theorem dX5_face_5 : decode cX5_face 5 = .ok (.invokevirtual 58, 3) := by decide +kernel
theorem dX5_face_8 : decode cX5_face 8 = .ok (.astore_n 3, 1) := by decide +kernel
theorem dX5_face_9 : decode cX5_face 9 = .ok (.aload_n 3, 1) := by decide +kernel
theorem dX5_face_10 : decode cX5_face 10 = .ok (.ifnonnull 7, 3) := by decide +kernel
theorem dX5_face_13 : decode cX5_face 13 = .ok (.sipush (-1001), 3) := by decide +kernel
theorem dX5_face_16 : decode cX5_face 16 = .ok (.ireturn, 1) := by decide +kernel
theorem dX5_face_17 : decode cX5_face 17 = .ok (.iload_n 2, 1) := by decide +kernel
theorem dX5_face_18 : decode cX5_face 18 = .ok (.tableswitch 108 0 7 #[46, 51, 56, 61, 66, 71, 84, 89], 46) := by decide +kernel
theorem dX5_face_64 : decode cX5_face 64 = .ok (.aload_n 3, 1) := by decide +kernel
theorem dX5_face_65 : decode cX5_face 65 = .ok (.getfield 77, 3) := by decide +kernel
theorem dX5_face_68 : decode cX5_face 68 = .ok (.ireturn, 1) := by decide +kernel
theorem dX5_face_69 : decode cX5_face 69 = .ok (.aload_n 3, 1) := by decide +kernel
