theorem dX4_readNumber_31 : decode cX4_readNumber 31 = .ok (.ifCond .le 51, 3) := by decide +kernel
theorem dX4_readNumber_34 : decode cX4_readNumber 34 = .ok (.aload_n 0, 1) := by decide +kernel
theorem dX4_readNumber_35 : decode cX4_readNumber 35 = .ok (.iconst 0, 1) := by decide +kernel
theorem dX4_readNumber_36 : decode cX4_readNumber 36 = .ok (.bipush 9, 2) := by decide +kernel
theorem dX4_readNumber_38 : decode cX4_readNumber 38 = .ok (.iload_n 2, 1) := by decide +kernel
theorem dX4_readNumber_39 : decode cX4_readNumber 39 = .ok (.bipush 10, 2) := by decide +kernel
theorem dX4_readNumber_41 : decode cX4_readNumber 41 = .ok (.aload_n 0, 1) := by decide +kernel
theorem dX4_readNumber_42 : decode cX4_readNumber 42 = .ok (.getfield 63, 3) := by decide +kernel
theorem dX4_readNumber_45 : decode cX4_readNumber 45 = .ok (.imul, 1) := by decide +kernel
theorem dX4_readNumber_46 : decode cX4_readNumber 46 = .ok (.isub, 1) := by decide +kernel
theorem dX4_readNumber_47 : decode cX4_readNumber 47 = .ok (.invokestatic 66, 3) := by decide +kernel
theorem dX4_readNumber_50 : decode cX4_readNumber 50 = .ok (.invokevirtual 53, 3) := by decide +kernel
theorem dX4_readNumber_53 : decode cX4_readNumber 53 = .ok (.istore 4, 2) := by decide +kernel
theorem dX4_readNumber_55 : decode cX4_readNumber 55 = .ok (.iload 4, 2) := by decide +kernel
theorem dX4_readNumber_57 : decode cX4_readNumber 57 = .ok (.ifCond .ge 5, 3) := by decide +kernel
theorem dX4_readNumber_60 : decode cX4_readNumber 60 = .ok (.iconst 1, 1) := by decide +kernel
theorem dX4_readNumber_61 : decode cX4_readNumber 61 = .ok (.ireturn, 1) := by decide +kernel
theorem dX4_readNumber_62 : decode cX4_readNumber 62 = .ok (.aload_n 0, 1) := by decide +kernel
theorem dX4_readNumber_63 : decode cX4_readNumber 63 = .ok (.bipush 10, 2) := by decide +kernel
theorem dX4_readNumber_65 : decode cX4_readNumber 65 = .ok (.aload_n 0, 1) := by decide +kernel
theorem dX4_readNumber_66 : decode cX4_readNumber 66 = .ok (.getfield 63, 3) := by decide +kernel
theorem dX4_readNumber_69 : decode cX4_readNumber 69 = .ok (.imul, 1) := by decide +kernel
theorem dX4_readNumber_70 : decode cX4_readNumber 70 = .ok (.iload 4, 2) := by decide +kernel
theorem dX4_readNumber_72 : decode cX4_readNumber 72 = .ok (.iadd, 1) := by decide +kernel
theorem dX4_readNumber_73 : decode cX4_readNumber 73 = .ok (.putfield 63, 3) := by decide +kernel
theorem dX4_readNumber_76 : decode cX4_readNumber 76 = .ok (.iinc 3 1, 3) := by decide +kernel
theorem dX4_readNumber_79 : decode cX4_readNumber 79 = .ok (.goto (-57), 3) := by decide +kernel
theorem dX4_readNumber_82 : decode cX4_readNumber 82 = .ok (.iconst 1, 1) := by decide +kernel
theorem dX4_readNumber_83 : decode cX4_readNumber 83 = .ok (.ireturn, 1) := by decide +kernel
theorem dX5_init_0 : decode cX5_init 0 = .ok (.aload_n 0, 1) := by decide +kernel
theorem dX5_init_1 : decode cX5_init 1 = .ok (.invokespecial 1, 3) := by decide +kernel
theorem dX5_init_4 : decode cX5_init 4 = .ok (.aload_n 0, 1) := by decide +kernel
theorem dX5_init_5 : decode cX5_init 5 = .ok (.new 7, 3) := by decide +kernel
theorem dX5_init_8 : decode cX5_init 8 = .ok (.dup, 1) := by decide +kernel
theorem dX5_init_9 : decode cX5_init 9 = .ok (.invokespecial 9, 3) := by decide +kernel
theorem dX5_init_12 : decode cX5_init 12 = .ok (.putfield 10, 3) := by decide +kernel
theorem dX5_init_15 : decode cX5_init 15 = .ok (.aload_n 0, 1) := by decide +kernel
theorem dX5_init_16 : decode cX5_init 16 = .ok (.new 7, 3) := by decide +kernel
theorem dX5_init_19 : decode cX5_init 19 = .ok (.dup, 1) := by decide +kernel
theorem dX5_init_20 : decode cX5_init 20 = .ok (.invokespecial 9, 3) := by decide +kernel
theorem dX5_init_23 : decode cX5_init 23 = .ok (.putfield 16, 3) := by decide +kernel
theorem dX5_init_26 : decode cX5_init 26 = .ok (.aload_n 0, 1) := by decide +kernel
theorem dX5_init_27 : decode cX5_init 27 = .ok (.new 7, 3) := by decide +kernel
theorem dX5_init_30 : decode cX5_init 30 = .ok (.dup, 1) := by decide +kernel
theorem dX5_init_31 : decode cX5_init 31 = .ok (.invokespecial 9, 3) := by decide +kernel
theorem dX5_init_34 : decode cX5_init 34 = .ok (.putfield 19, 3) := by decide +kernel
theorem dX5_init_37 : decode cX5_init 37 = .ok (.aload_n 0, 1) := by decide +kernel
theorem dX5_init_38 : decode cX5_init 38 = .ok (.new 22, 3) := by decide +kernel
theorem dX5_init_41 : decode cX5_init 41 = .ok (.dup, 1) := by decide +kernel
theorem dX5_init_42 : decode cX5_init 42 = .ok (.invokespecial 24, 3) := by decide +kernel
theorem dX5_init_45 : decode cX5_init 45 = .ok (.putfield 25, 3) := by decide +kernel
theorem dX5_init_48 : decode cX5_init 48 = .ok (.aload_n 0, 1) := by decide +kernel
theorem dX5_init_49 : decode cX5_init 49 = .ok (.new 29, 3) := by decide +kernel
theorem dX5_init_52 : decode cX5_init 52 = .ok (.dup, 1) := by decide +kernel
theorem dX5_init_53 : decode cX5_init 53 = .ok (.invokespecial 31, 3) := by decide +kernel
theorem dX5_init_56 : decode cX5_init 56 = .ok (.putfield 32, 3) := by decide +kernel
theorem dX5_init_59 : decode cX5_init 59 = .ok (.return_, 1) := by decide +kernel
theorem dX5_set_0 : decode cX5_set 0 = .ok (.iload_n 1, 1) := by decide +kernel
theorem dX5_set_1 : decode cX5_set 1 = .ok (.invokestatic 36, 3) := by decide +kernel
theorem dX5_set_4 : decode cX5_set 4 = .ok (.ifCond .ne 7, 3) := by decide +kernel
theorem dX5_set_7 : decode cX5_set 7 = .ok (.sipush (-1002), 3) := by decide +kernel
theorem dX5_set_10 : decode cX5_set 10 = .ok (.ireturn, 1) := by decide +kernel
theorem dX5_set_11 : decode cX5_set 11 = .ok (.iload_n 2, 1) := by decide +kernel
theorem dX5_set_12 : decode cX5_set 12 = .ok (.getstatic 40, 3) := by decide +kernel
theorem dX5_set_15 : decode cX5_set 15 = .ok (.iload_n 1, 1) := by decide +kernel
theorem dX5_set_16 : decode cX5_set 16 = .ok (.iaload, 1) := by decide +kernel
theorem dX5_set_17 : decode cX5_set 17 = .ok (.getstatic 44, 3) := by decide +kernel
theorem dX5_set_20 : decode cX5_set 20 = .ok (.iload_n 1, 1) := by decide +kernel
theorem dX5_set_21 : decode cX5_set 21 = .ok (.iaload, 1) := by decide +kernel
theorem dX5_set_22 : decode cX5_set 22 = .ok (.invokestatic 47, 3) := by decide +kernel
theorem dX5_set_25 : decode cX5_set 25 = .ok (.ifCond .ne 7, 3) := by decide +kernel
theorem dX5_set_28 : decode cX5_set 28 = .ok (.sipush (-1002), 3) := by decide +kernel
theorem dX5_set_31 : decode cX5_set 31 = .ok (.ireturn, 1) := by decide +kernel
theorem dX5_set_32 : decode cX5_set 32 = .ok (.aload_n 0, 1) := by decide +kernel
theorem dX5_set_33 : decode cX5_set 33 = .ok (.getfield 25, 3) := by decide +kernel
theorem dX5_set_36 : decode cX5_set 36 = .ok (.aload_n 0, 1) := by decide +kernel
theorem dX5_set_37 : decode cX5_set 37 = .ok (.getfield 10, 3) := by decide +kernel
theorem dX5_set_40 : decode cX5_set 40 = .ok (.invokevirtual 51, 3) := by decide +kernel
theorem dX5_set_43 : decode cX5_set 43 = .ok (.aload_n 0, 1) := by decide +kernel
theorem dX5_set_44 : decode cX5_set 44 = .ok (.getfield 10, 3) := by decide +kernel
theorem dX5_set_47 : decode cX5_set 47 = .ok (.getfield 55, 3) := by decide +kernel
theorem dX5_set_50 : decode cX5_set 50 = .ok (.iload_n 1, 1) := by decide +kernel
theorem dX5_set_51 : decode cX5_set 51 = .ok (.iaload, 1) := by decide +kernel
theorem dX5_set_52 : decode cX5_set 52 = .ok (.istore_n 3, 1) := by decide +kernel
theorem dX5_set_53 : decode cX5_set 53 = .ok (.aload_n 0, 1) := by decide +kernel
theorem dX5_set_54 : decode cX5_set 54 = .ok (.getfield 10, 3) := by decide +kernel
theorem dX5_set_57 : decode cX5_set 57 = .ok (.getfield 55, 3) := by decide +kernel
theorem dX5_set_60 : decode cX5_set 60 = .ok (.iload_n 1, 1) := by decide +kernel
theorem dX5_set_61 : decode cX5_set 61 = .ok (.iload_n 2, 1) := by decide +kernel
theorem dX5_set_62 : decode cX5_set 62 = .ok (.iastore, 1) := by decide +kernel
theorem dX5_set_63 : decode cX5_set 63 = .ok (.iload_n 3, 1) := by decide +kernel
theorem dX5_set_64 : decode cX5_set 64 = .ok (.ireturn, 1) := by decide +kernel
theorem dX5_setting_0 : decode cX5_setting 0 = .ok (.iload_n 1, 1) := by decide +kernel
theorem dX5_setting_1 : decode cX5_setting 1 = .ok (.invokestatic 36, 3) := by decide +kernel
theorem dX5_setting_4 : decode cX5_setting 4 = .ok (.ifCond .eq 15, 3) := by decide +kernel
theorem dX5_setting_7 : decode cX5_setting 7 = .ok (.aload_n 0, 1) := by decide +kernel
theorem dX5_setting_8 : decode cX5_setting 8 = .ok (.getfield 10, 3) := by decide +kernel
theorem dX5_setting_11 : decode cX5_setting 11 = .ok (.getfield 55, 3) := by decide +kernel
theorem dX5_setting_14 : decode cX5_setting 14 = .ok (.iload_n 1, 1) := by decide +kernel
theorem dX5_setting_15 : decode cX5_setting 15 = .ok (.iaload, 1) := by decide +kernel
theorem dX5_setting_16 : decode cX5_setting 16 = .ok (.goto 6, 3) := by decide +kernel
theorem dX5_setting_19 : decode cX5_setting 19 = .ok (.sipush (-1002), 3) := by decide +kernel
theorem dX5_setting_22 : decode cX5_setting 22 = .ok (.ireturn, 1) := by decide +kernel
theorem dX5_gear_0 : decode cX5_gear 0 = .ok (.aload_n 0, 1) := by decide +kernel
theorem dX5_gear_1 : decode cX5_gear 1 = .ok (.getfield 10, 3) := by decide +kernel
theorem dX5_gear_4 : decode cX5_gear 4 = .ok (.iload_n 1, 1) := by decide +kernel
theorem dX5_gear_5 : decode cX5_gear 5 = .ok (.invokevirtual 58, 3) := by decide +kernel
theorem dX5_gear_8 : decode cX5_gear 8 = .ok (.astore_n 3, 1) := by decide +kernel
theorem dX5_gear_9 : decode cX5_gear 9 = .ok (.aload_n 3, 1) := by decide +kernel
theorem dX5_gear_10 : decode cX5_gear 10 = .ok (.ifnonnull 7, 3) := by decide +kernel
theorem dX5_gear_13 : decode cX5_gear 13 = .ok (.sipush (-1001), 3) := by decide +kernel
theorem dX5_gear_16 : decode cX5_gear 16 = .ok (.ireturn, 1) := by decide +kernel
theorem dX5_gear_17 : decode cX5_gear 17 = .ok (.iload_n 2, 1) := by decide +kernel
theorem dX5_gear_18 : decode cX5_gear 18 = .ok (.bipush 10, 2) := by decide +kernel
theorem dX5_gear_20 : decode cX5_gear 20 = .ok (.bipush 60, 2) := by decide +kernel
theorem dX5_gear_22 : decode cX5_gear 22 = .ok (.invokestatic 47, 3) := by decide +kernel
theorem dX5_gear_25 : decode cX5_gear 25 = .ok (.ifCond .ne 7, 3) := by decide +kernel
theorem dX5_gear_28 : decode cX5_gear 28 = .ok (.sipush (-1002), 3) := by decide +kernel
theorem dX5_gear_31 : decode cX5_gear 31 = .ok (.ireturn, 1) := by decide +kernel
theorem dX5_gear_32 : decode cX5_gear 32 = .ok (.aload_n 0, 1) := by decide +kernel
theorem dX5_gear_33 : decode cX5_gear 33 = .ok (.getfield 25, 3) := by decide +kernel
theorem dX5_gear_36 : decode cX5_gear 36 = .ok (.aload_n 0, 1) := by decide +kernel
theorem dX5_gear_37 : decode cX5_gear 37 = .ok (.getfield 10, 3) := by decide +kernel
theorem dX5_gear_40 : decode cX5_gear 40 = .ok (.invokevirtual 51, 3) := by decide +kernel
theorem dX5_gear_43 : decode cX5_gear 43 = .ok (.aload_n 3, 1) := by decide +kernel
theorem dX5_gear_44 : decode cX5_gear 44 = .ok (.getfield 62, 3) := by decide +kernel
theorem dX5_gear_47 : decode cX5_gear 47 = .ok (.istore 4, 2) := by decide +kernel
theorem dX5_gear_49 : decode cX5_gear 49 = .ok (.aload_n 3, 1) := by decide +kernel
theorem dX5_gear_50 : decode cX5_gear 50 = .ok (.iload_n 2, 1) := by decide +kernel
theorem dX5_gear_51 : decode cX5_gear 51 = .ok (.putfield 62, 3) := by decide +kernel
theorem dX5_gear_54 : decode cX5_gear 54 = .ok (.aload_n 3, 1) := by decide +kernel
theorem dX5_gear_55 : decode cX5_gear 55 = .ok (.iconst 0, 1) := by decide +kernel
theorem dX5_gear_56 : decode cX5_gear 56 = .ok (.putfield 68, 3) := by decide +kernel
theorem dX5_gear_59 : decode cX5_gear 59 = .ok (.iload 4, 2) := by decide +kernel
theorem dX5_gear_61 : decode cX5_gear 61 = .ok (.ireturn, 1) := by decide +kernel
theorem dX5_oil_0 : decode cX5_oil 0 = .ok (.aload_n 0, 1) := by decide +kernel
theorem dX5_oil_1 : decode cX5_oil 1 = .ok (.getfield 10, 3) := by decide +kernel
theorem dX5_oil_4 : decode cX5_oil 4 = .ok (.iload_n 1, 1) := by decide +kernel
theorem dX5_oil_5 : decode cX5_oil 5 = .ok (.invokevirtual 58, 3) := by decide +kernel
theorem dX5_oil_8 : decode cX5_oil 8 = .ok (.astore_n 2, 1) := by decide +kernel
theorem dX5_oil_9 : decode cX5_oil 9 = .ok (.aload_n 2, 1) := by decide +kernel
theorem dX5_oil_10 : decode cX5_oil 10 = .ok (.ifnonnull 7, 3) := by decide +kernel
theorem dX5_oil_13 : decode cX5_oil 13 = .ok (.sipush (-1001), 3) := by decide +kernel
theorem dX5_oil_16 : decode cX5_oil 16 = .ok (.ireturn, 1) := by decide +kernel
theorem dX5_oil_17 : decode cX5_oil 17 = .ok (.aload_n 0, 1) := by decide +kernel
theorem dX5_oil_18 : decode cX5_oil 18 = .ok (.getfield 25, 3) := by decide +kernel
theorem dX5_oil_21 : decode cX5_oil 21 = .ok (.aload_n 0, 1) := by decide +kernel
theorem dX5_oil_22 : decode cX5_oil 22 = .ok (.getfield 10, 3) := by decide +kernel
theorem dX5_oil_25 : decode cX5_oil 25 = .ok (.invokevirtual 51, 3) := by decide +kernel
theorem dX5_oil_28 : decode cX5_oil 28 = .ok (.aload_n 2, 1) := by decide +kernel
theorem dX5_oil_29 : decode cX5_oil 29 = .ok (.invokevirtual 71, 3) := by decide +kernel
theorem dX5_oil_32 : decode cX5_oil 32 = .ok (.aload_n 2, 1) := by decide +kernel
theorem dX5_oil_33 : decode cX5_oil 33 = .ok (.getfield 74, 3) := by decide +kernel
theorem dX5_oil_36 : decode cX5_oil 36 = .ok (.ireturn, 1) := by decide +kernel
theorem dX5_dial_0 : decode cX5_dial 0 = .ok (.aload_n 0, 1) := by decide +kernel
theorem dX5_dial_1 : decode cX5_dial 1 = .ok (.getfield 10, 3) := by decide +kernel
theorem dX5_dial_4 : decode cX5_dial 4 = .ok (.iload_n 1, 1) := by decide +kernel
theorem dX5_dial_5 : decode cX5_dial 5 = .ok (.invokevirtual 58, 3) := by decide +kernel
theorem dX5_dial_8 : decode cX5_dial 8 = .ok (.astore_n 3, 1) := by decide +kernel
theorem dX5_dial_9 : decode cX5_dial 9 = .ok (.aload_n 3, 1) := by decide +kernel
theorem dX5_dial_10 : decode cX5_dial 10 = .ok (.ifnonnull 7, 3) := by decide +kernel
theorem dX5_dial_13 : decode cX5_dial 13 = .ok (.sipush (-1001), 3) := by decide +kernel
theorem dX5_dial_16 : decode cX5_dial 16 = .ok (.ireturn, 1) := by decide +kernel
theorem dX5_dial_17 : decode cX5_dial 17 = .ok (.iload_n 2, 1) := by decide +kernel
theorem dX5_dial_18 : decode cX5_dial 18 = .ok (.iconst 0, 1) := by decide +kernel
theorem dX5_dial_19 : decode cX5_dial 19 = .ok (.sipush 719, 3) := by decide +kernel
theorem dX5_dial_22 : decode cX5_dial 22 = .ok (.invokestatic 47, 3) := by decide +kernel
theorem dX5_dial_25 : decode cX5_dial 25 = .ok (.ifCond .ne 7, 3) := by decide +kernel
theorem dX5_dial_28 : decode cX5_dial 28 = .ok (.sipush (-1002), 3) := by decide +kernel
theorem dX5_dial_31 : decode cX5_dial 31 = .ok (.ireturn, 1) := by decide +kernel
theorem dX5_dial_32 : decode cX5_dial 32 = .ok (.aload_n 0, 1) := by decide +kernel
theorem dX5_dial_33 : decode cX5_dial 33 = .ok (.getfield 25, 3) := by decide +kernel
theorem dX5_dial_36 : decode cX5_dial 36 = .ok (.aload_n 0, 1) := by decide +kernel
theorem dX5_dial_37 : decode cX5_dial 37 = .ok (.getfield 10, 3) := by decide +kernel
theorem dX5_dial_40 : decode cX5_dial 40 = .ok (.invokevirtual 51, 3) := by decide +kernel
theorem dX5_dial_43 : decode cX5_dial 43 = .ok (.aload_n 3, 1) := by decide +kernel
theorem dX5_dial_44 : decode cX5_dial 44 = .ok (.getfield 77, 3) := by decide +kernel
theorem dX5_dial_47 : decode cX5_dial 47 = .ok (.istore 4, 2) := by decide +kernel
theorem dX5_dial_49 : decode cX5_dial 49 = .ok (.aload_n 3, 1) := by decide +kernel
theorem dX5_dial_50 : decode cX5_dial 50 = .ok (.iload_n 2, 1) := by decide +kernel
theorem dX5_dial_51 : decode cX5_dial 51 = .ok (.putfield 77, 3) := by decide +kernel
theorem dX5_dial_54 : decode cX5_dial 54 = .ok (.iload 4, 2) := by decide +kernel
theorem dX5_dial_56 : decode cX5_dial 56 = .ok (.iload_n 2, 1) := by decide +kernel
theorem dX5_dial_57 : decode cX5_dial 57 = .ok (.invokestatic 80, 3) := by decide +kernel
theorem dX5_dial_60 : decode cX5_dial 60 = .ok (.ireturn, 1) := by decide +kernel
theorem dX5_bell_0 : decode cX5_bell 0 = .ok (.aload_n 0, 1) := by decide +kernel
theorem dX5_bell_1 : decode cX5_bell 1 = .ok (.getfield 10, 3) := by decide +kernel
theorem dX5_bell_4 : decode cX5_bell 4 = .ok (.iload_n 1, 1) := by decide +kernel
theorem dX5_bell_5 : decode cX5_bell 5 = .ok (.invokevirtual 58, 3) := by decide +kernel
theorem dX5_bell_8 : decode cX5_bell 8 = .ok (.astore_n 2, 1) := by decide +kernel
theorem dX5_bell_9 : decode cX5_bell 9 = .ok (.aload_n 2, 1) := by decide +kernel
theorem dX5_bell_10 : decode cX5_bell 10 = .ok (.ifnonnull 7, 3) := by decide +kernel
theorem dX5_bell_13 : decode cX5_bell 13 = .ok (.sipush (-1001), 3) := by decide +kernel
theorem dX5_bell_16 : decode cX5_bell 16 = .ok (.ireturn, 1) := by decide +kernel
theorem dX5_bell_17 : decode cX5_bell 17 = .ok (.aload_n 0, 1) := by decide +kernel
theorem dX5_bell_18 : decode cX5_bell 18 = .ok (.getfield 25, 3) := by decide +kernel
theorem dX5_bell_21 : decode cX5_bell 21 = .ok (.aload_n 0, 1) := by decide +kernel
theorem dX5_bell_22 : decode cX5_bell 22 = .ok (.getfield 10, 3) := by decide +kernel
theorem dX5_bell_25 : decode cX5_bell 25 = .ok (.invokevirtual 51, 3) := by decide +kernel
theorem dX5_bell_28 : decode cX5_bell 28 = .ok (.aload_n 2, 1) := by decide +kernel
theorem dX5_bell_29 : decode cX5_bell 29 = .ok (.aload_n 2, 1) := by decide +kernel
theorem dX5_bell_30 : decode cX5_bell 30 = .ok (.getfield 84, 3) := by decide +kernel
theorem dX5_bell_33 : decode cX5_bell 33 = .ok (.ifCond .ne 7, 3) := by decide +kernel
theorem dX5_bell_36 : decode cX5_bell 36 = .ok (.iconst 1, 1) := by decide +kernel
theorem dX5_bell_37 : decode cX5_bell 37 = .ok (.goto 4, 3) := by decide +kernel
theorem dX5_bell_40 : decode cX5_bell 40 = .ok (.iconst 0, 1) := by decide +kernel
theorem dX5_bell_41 : decode cX5_bell 41 = .ok (.putfield 84, 3) := by decide +kernel
theorem dX5_bell_44 : decode cX5_bell 44 = .ok (.aload_n 2, 1) := by decide +kernel
theorem dX5_bell_45 : decode cX5_bell 45 = .ok (.getfield 84, 3) := by decide +kernel
theorem dX5_bell_48 : decode cX5_bell 48 = .ok (.ifCond .eq 7, 3) := by decide +kernel
theorem dX5_bell_51 : decode cX5_bell 51 = .ok (.iconst 1, 1) := by decide +kernel
theorem dX5_bell_52 : decode cX5_bell 52 = .ok (.goto 4, 3) := by decide +kernel
theorem dX5_bell_55 : decode cX5_bell 55 = .ok (.iconst 0, 1) := by decide +kernel
theorem dX5_bell_56 : decode cX5_bell 56 = .ok (.ireturn, 1) := by decide +kernel
theorem dX5_pass_0 : decode cX5_pass 0 = .ok (.aload_n 0, 1) := by decide +kernel
theorem dX5_pass_1 : decode cX5_pass 1 = .ok (.getfield 10, 3) := by decide +kernel
theorem dX5_pass_4 : decode cX5_pass 4 = .ok (.iload_n 1, 1) := by decide +kernel
theorem dX5_pass_5 : decode cX5_pass 5 = .ok (.invokevirtual 88, 3) := by decide +kernel
theorem dX5_pass_8 : decode cX5_pass 8 = .ok (.istore_n 2, 1) := by decide +kernel
theorem dX5_pass_9 : decode cX5_pass 9 = .ok (.iload_n 2, 1) := by decide +kernel
theorem dX5_pass_10 : decode cX5_pass 10 = .ok (.ifCond .eq 5, 3) := by decide +kernel
theorem dX5_pass_13 : decode cX5_pass 13 = .ok (.iload_n 2, 1) := by decide +kernel
theorem dX5_pass_14 : decode cX5_pass 14 = .ok (.ireturn, 1) := by decide +kernel
theorem dX5_pass_15 : decode cX5_pass 15 = .ok (.aload_n 0, 1) := by decide +kernel
theorem dX5_pass_16 : decode cX5_pass 16 = .ok (.getfield 25, 3) := by decide +kernel
theorem dX5_pass_19 : decode cX5_pass 19 = .ok (.aload_n 0, 1) := by decide +kernel
theorem dX5_pass_20 : decode cX5_pass 20 = .ok (.getfield 10, 3) := by decide +kernel
theorem dX5_pass_23 : decode cX5_pass 23 = .ok (.invokevirtual 51, 3) := by decide +kernel
theorem dX5_pass_26 : decode cX5_pass 26 = .ok (.aload_n 0, 1) := by decide +kernel
theorem dX5_pass_27 : decode cX5_pass 27 = .ok (.getfield 10, 3) := by decide +kernel
theorem dX5_pass_30 : decode cX5_pass 30 = .ok (.iload_n 1, 1) := by decide +kernel
theorem dX5_pass_31 : decode cX5_pass 31 = .ok (.invokevirtual 92, 3) := by decide +kernel
theorem dX5_pass_34 : decode cX5_pass 34 = .ok (.ireturn, 1) := by decide +kernel
theorem dX5_hire_0 : decode cX5_hire 0 = .ok (.aload_n 0, 1) := by decide +kernel
theorem dX5_hire_1 : decode cX5_hire 1 = .ok (.getfield 10, 3) := by decide +kernel
theorem dX5_hire_4 : decode cX5_hire 4 = .ok (.getfield 95, 3) := by decide +kernel
theorem dX5_hire_7 : decode cX5_hire 7 = .ok (.iload_n 1, 1) := by decide +kernel
theorem dX5_hire_8 : decode cX5_hire 8 = .ok (.iload_n 2, 1) := by decide +kernel
theorem dX5_hire_9 : decode cX5_hire 9 = .ok (.invokevirtual 99, 3) := by decide +kernel
theorem dX5_hire_12 : decode cX5_hire 12 = .ok (.istore_n 3, 1) := by decide +kernel
theorem dX5_hire_13 : decode cX5_hire 13 = .ok (.iload_n 3, 1) := by decide +kernel
theorem dX5_hire_14 : decode cX5_hire 14 = .ok (.ifCond .eq 5, 3) := by decide +kernel
theorem dX5_hire_17 : decode cX5_hire 17 = .ok (.iload_n 3, 1) := by decide +kernel
theorem dX5_hire_18 : decode cX5_hire 18 = .ok (.ireturn, 1) := by decide +kernel
theorem dX5_hire_19 : decode cX5_hire 19 = .ok (.aload_n 0, 1) := by decide +kernel
theorem dX5_hire_20 : decode cX5_hire 20 = .ok (.getfield 25, 3) := by decide +kernel
theorem dX5_hire_23 : decode cX5_hire 23 = .ok (.aload_n 0, 1) := by decide +kernel
theorem dX5_hire_24 : decode cX5_hire 24 = .ok (.getfield 10, 3) := by decide +kernel
theorem dX5_hire_27 : decode cX5_hire 27 = .ok (.invokevirtual 51, 3) := by decide +kernel
theorem dX5_hire_30 : decode cX5_hire 30 = .ok (.aload_n 0, 1) := by decide +kernel
theorem dX5_hire_31 : decode cX5_hire 31 = .ok (.getfield 10, 3) := by decide +kernel
theorem dX5_hire_34 : decode cX5_hire 34 = .ok (.getfield 95, 3) := by decide +kernel
theorem dX5_hire_37 : decode cX5_hire 37 = .ok (.iload_n 1, 1) := by decide +kernel
theorem dX5_hire_38 : decode cX5_hire 38 = .ok (.iload_n 2, 1) := by decide +kernel
theorem dX5_hire_39 : decode cX5_hire 39 = .ok (.invokevirtual 104, 3) := by decide +kernel
theorem dX5_hire_42 : decode cX5_hire 42 = .ok (.aload_n 0, 1) := by decide +kernel
theorem dX5_hire_43 : decode cX5_hire 43 = .ok (.getfield 10, 3) := by decide +kernel
theorem dX5_hire_46 : decode cX5_hire 46 = .ok (.getfield 95, 3) := by decide +kernel
theorem dX5_hire_49 : decode cX5_hire 49 = .ok (.getfield 108, 3) := by decide +kernel
theorem dX5_hire_52 : decode cX5_hire 52 = .ok (.ireturn, 1) := by decide +kernel
theorem dX5_dismiss_0 : decode cX5_dismiss 0 = .ok (.aload_n 0, 1) := by decide +kernel
theorem dX5_dismiss_1 : decode cX5_dismiss 1 = .ok (.getfield 10, 3) := by decide +kernel
theorem dX5_dismiss_4 : decode cX5_dismiss 4 = .ok (.getfield 95, 3) := by decide +kernel
theorem dX5_dismiss_7 : decode cX5_dismiss 7 = .ok (.iload_n 1, 1) := by decide +kernel
theorem dX5_dismiss_8 : decode cX5_dismiss 8 = .ok (.invokevirtual 111, 3) := by decide +kernel
theorem dX5_dismiss_11 : decode cX5_dismiss 11 = .ok (.ifCond .ne 7, 3) := by decide +kernel
theorem dX5_dismiss_14 : decode cX5_dismiss 14 = .ok (.sipush (-1001), 3) := by decide +kernel
theorem dX5_dismiss_17 : decode cX5_dismiss 17 = .ok (.ireturn, 1) := by decide +kernel
theorem dX5_dismiss_18 : decode cX5_dismiss 18 = .ok (.aload_n 0, 1) := by decide +kernel
theorem dX5_dismiss_19 : decode cX5_dismiss 19 = .ok (.getfield 25, 3) := by decide +kernel
theorem dX5_dismiss_22 : decode cX5_dismiss 22 = .ok (.aload_n 0, 1) := by decide +kernel
theorem dX5_dismiss_23 : decode cX5_dismiss 23 = .ok (.getfield 10, 3) := by decide +kernel
theorem dX5_dismiss_26 : decode cX5_dismiss 26 = .ok (.invokevirtual 51, 3) := by decide +kernel
theorem dX5_dismiss_29 : decode cX5_dismiss 29 = .ok (.aload_n 0, 1) := by decide +kernel
theorem dX5_dismiss_30 : decode cX5_dismiss 30 = .ok (.getfield 10, 3) := by decide +kernel
theorem dX5_dismiss_33 : decode cX5_dismiss 33 = .ok (.getfield 95, 3) := by decide +kernel
theorem dX5_dismiss_36 : decode cX5_dismiss 36 = .ok (.iload_n 1, 1) := by decide +kernel
theorem dX5_dismiss_37 : decode cX5_dismiss 37 = .ok (.invokevirtual 114, 3) := by decide +kernel
theorem dX5_dismiss_40 : decode cX5_dismiss 40 = .ok (.ireturn, 1) := by decide +kernel
theorem dX5_reset_0 : decode cX5_reset 0 = .ok (.aload_n 0, 1) := by decide +kernel
theorem dX5_reset_1 : decode cX5_reset 1 = .ok (.getfield 10, 3) := by decide +kernel
theorem dX5_reset_4 : decode cX5_reset 4 = .ok (.getfield 95, 3) := by decide +kernel
theorem dX5_reset_7 : decode cX5_reset 7 = .ok (.getfield 108, 3) := by decide +kernel
theorem dX5_reset_10 : decode cX5_reset 10 = .ok (.ifCond .ne 7, 3) := by decide +kernel
theorem dX5_reset_13 : decode cX5_reset 13 = .ok (.sipush (-1003), 3) := by decide +kernel
theorem dX5_reset_16 : decode cX5_reset 16 = .ok (.ireturn, 1) := by decide +kernel
theorem dX5_reset_17 : decode cX5_reset 17 = .ok (.aload_n 0, 1) := by decide +kernel
theorem dX5_reset_18 : decode cX5_reset 18 = .ok (.getfield 25, 3) := by decide +kernel
theorem dX5_reset_21 : decode cX5_reset 21 = .ok (.aload_n 0, 1) := by decide +kernel
theorem dX5_reset_22 : decode cX5_reset 22 = .ok (.getfield 10, 3) := by decide +kernel
theorem dX5_reset_25 : decode cX5_reset 25 = .ok (.invokevirtual 51, 3) := by decide +kernel
theorem dX5_reset_28 : decode cX5_reset 28 = .ok (.aload_n 0, 1) := by decide +kernel
theorem dX5_reset_29 : decode cX5_reset 29 = .ok (.getfield 10, 3) := by decide +kernel
theorem dX5_reset_32 : decode cX5_reset 32 = .ok (.invokevirtual 117, 3) := by decide +kernel
theorem dX5_reset_35 : decode cX5_reset 35 = .ok (.ireturn, 1) := by decide +kernel
theorem dX5_keeper_0 : decode cX5_keeper 0 = .ok (.iload_n 1, 1) := by decide +kernel
theorem dX5_keeper_1 : decode cX5_keeper 1 = .ok (.iconst 0, 1) := by decide +kernel
theorem dX5_keeper_2 : decode cX5_keeper 2 = .ok (.sipush 1439, 3) := by decide +kernel
theorem dX5_keeper_5 : decode cX5_keeper 5 = .ok (.invokestatic 47, 3) := by decide +kernel
theorem dX5_keeper_8 : decode cX5_keeper 8 = .ok (.ifCond .eq 12, 3) := by decide +kernel
theorem dX5_keeper_11 : decode cX5_keeper 11 = .ok (.iload_n 2, 1) := by decide +kernel
theorem dX5_keeper_12 : decode cX5_keeper 12 = .ok (.iconst 0, 1) := by decide +kernel
theorem dX5_keeper_13 : decode cX5_keeper 13 = .ok (.iconst 2, 1) := by decide +kernel
theorem dX5_keeper_14 : decode cX5_keeper 14 = .ok (.invokestatic 47, 3) := by decide +kernel
theorem dX5_keeper_17 : decode cX5_keeper 17 = .ok (.ifCond .ne 7, 3) := by decide +kernel
theorem dX5_keeper_20 : decode cX5_keeper 20 = .ok (.sipush (-1002), 3) := by decide +kernel
theorem dX5_keeper_23 : decode cX5_keeper 23 = .ok (.ireturn, 1) := by decide +kernel
theorem dX5_keeper_24 : decode cX5_keeper 24 = .ok (.aload_n 0, 1) := by decide +kernel
theorem dX5_keeper_25 : decode cX5_keeper 25 = .ok (.getfield 10, 3) := by decide +kernel
theorem dX5_keeper_28 : decode cX5_keeper 28 = .ok (.getfield 95, 3) := by decide +kernel
theorem dX5_keeper_31 : decode cX5_keeper 31 = .ok (.iload_n 1, 1) := by decide +kernel
theorem dX5_keeper_32 : decode cX5_keeper 32 = .ok (.invokevirtual 121, 3) := by decide +kernel
theorem dX5_keeper_35 : decode cX5_keeper 35 = .ok (.istore_n 3, 1) := by decide +kernel
theorem dX5_keeper_36 : decode cX5_keeper 36 = .ok (.iload_n 3, 1) := by decide +kernel
theorem dX5_keeper_37 : decode cX5_keeper 37 = .ok (.ifCond .ge 7, 3) := by decide +kernel
theorem dX5_keeper_40 : decode cX5_keeper 40 = .ok (.sipush (-1000), 3) := by decide +kernel
theorem dX5_keeper_43 : decode cX5_keeper 43 = .ok (.ireturn, 1) := by decide +kernel
theorem dX5_keeper_44 : decode cX5_keeper 44 = .ok (.iload_n 2, 1) := by decide +kernel
theorem dX5_keeper_45 : decode cX5_keeper 45 = .ok (.lookupswitch 53 #[(0, 27), (1, 40)], 27) := by decide +kernel
theorem dX5_keeper_72 : decode cX5_keeper 72 = .ok (.aload_n 0, 1) := by decide +kernel
theorem dX5_keeper_73 : decode cX5_keeper 73 = .ok (.getfield 10, 3) := by decide +kernel
theorem dX5_keeper_76 : decode cX5_keeper 76 = .ok (.getfield 95, 3) := by decide +kernel
theorem dX5_keeper_79 : decode cX5_keeper 79 = .ok (.getfield 124, 3) := by decide +kernel
theorem dX5_keeper_82 : decode cX5_keeper 82 = .ok (.iload_n 3, 1) := by decide +kernel
theorem dX5_keeper_83 : decode cX5_keeper 83 = .ok (.iaload, 1) := by decide +kernel
theorem dX5_keeper_84 : decode cX5_keeper 84 = .ok (.ireturn, 1) := by decide +kernel
theorem dX5_keeper_85 : decode cX5_keeper 85 = .ok (.aload_n 0, 1) := by decide +kernel
theorem dX5_keeper_86 : decode cX5_keeper 86 = .ok (.getfield 10, 3) := by decide +kernel
theorem dX5_keeper_89 : decode cX5_keeper 89 = .ok (.getfield 95, 3) := by decide +kernel
theorem dX5_keeper_92 : decode cX5_keeper 92 = .ok (.getfield 127, 3) := by decide +kernel
theorem dX5_keeper_95 : decode cX5_keeper 95 = .ok (.iload_n 3, 1) := by decide +kernel
theorem dX5_keeper_96 : decode cX5_keeper 96 = .ok (.iaload, 1) := by decide +kernel
theorem dX5_keeper_97 : decode cX5_keeper 97 = .ok (.ireturn, 1) := by decide +kernel
theorem dX5_keeper_98 : decode cX5_keeper 98 = .ok (.aload_n 0, 1) := by decide +kernel
theorem dX5_keeper_99 : decode cX5_keeper 99 = .ok (.getfield 10, 3) := by decide +kernel
theorem dX5_keeper_102 : decode cX5_keeper 102 = .ok (.getfield 95, 3) := by decide +kernel
theorem dX5_keeper_105 : decode cX5_keeper 105 = .ok (.iload_n 1, 1) := by decide +kernel
theorem dX5_keeper_106 : decode cX5_keeper 106 = .ok (.invokevirtual 130, 3) := by decide +kernel
theorem dX5_keeper_109 : decode cX5_keeper 109 = .ok (.ireturn, 1) := by decide +kernel
theorem dX5_keeperTime_0 : decode cX5_keeperTime 0 = .ok (.aload_n 0, 1) := by decide +kernel
theorem dX5_keeperTime_1 : decode cX5_keeperTime 1 = .ok (.getfield 10, 3) := by decide +kernel
theorem dX5_keeperTime_4 : decode cX5_keeperTime 4 = .ok (.invokevirtual 133, 3) := by decide +kernel
theorem dX5_keeperTime_7 : decode cX5_keeperTime 7 = .ok (.ireturn, 1) := by decide +kernel
theorem dX5_face_0 : decode cX5_face 0 = .ok (.aload_n 0, 1) := by decide +kernel
theorem dX5_face_1 : decode cX5_face 1 = .ok (.getfield 10, 3) := by decide +kernel
theorem dX5_face_4 : decode cX5_face 4 = .ok (.iload_n 1, 1) := by decide +kernel
theorem dX5_face_5 : decode cX5_face 5 = .ok (.invokevirtual 58, 3) := by decide +kernel
theorem dX5_face_8 : decode cX5_face 8 = .ok (.astore_n 3, 1) := by decide +kernel
theorem dX5_face_9 : decode cX5_face 9 = .ok (.aload_n 3, 1) := by decide +kernel
theorem dX5_face_10 : decode cX5_face 10 = .ok (.ifnonnull 7, 3) := by decide +kernel
theorem dX5_face_13 : decode cX5_face 13 = .ok (.sipush (-1001), 3) := by decide +kernel
theorem dX5_face_16 : decode cX5_face 16 = .ok (.ireturn, 1) := by decide +kernel
theorem dX5_face_17 : decode cX5_face 17 = .ok (.iload_n 2, 1) := by decide +kernel
theorem dX5_face_18 : decode cX5_face 18 = .ok (.tableswitch 108 0 7 #[46, 51, 56, 61, 66, 71, 84, 89], 46) := by decide +kernel
theorem dX5_face_64 : decode cX5_face 64 = .ok (.aload_n 3, 1) := by decide +kernel
theorem dX5_face_65 : decode cX5_face 65 = .ok (.getfield 77, 3) := by decide +kernel
theorem dX5_face_68 : decode cX5_face 68 = .ok (.ireturn, 1) := by decide +kernel
theorem dX5_face_69 : decode cX5_face 69 = .ok (.aload_n 3, 1) := by decide +kernel
theorem dX5_face_70 : decode cX5_face 70 = .ok (.getfield 62, 3) := by decide +kernel
theorem dX5_face_73 : decode cX5_face 73 = .ok (.ireturn, 1) := by decide +kernel
theorem dX5_face_74 : decode cX5_face 74 = .ok (.aload_n 3, 1) := by decide +kernel
theorem dX5_face_75 : decode cX5_face 75 = .ok (.getfield 68, 3) := by decide +kernel
theorem dX5_face_78 : decode cX5_face 78 = .ok (.ireturn, 1) := by decide +kernel
theorem dX5_face_79 : decode cX5_face 79 = .ok (.aload_n 3, 1) := by decide +kernel
theorem dX5_face_80 : decode cX5_face 80 = .ok (.getfield 74, 3) := by decide +kernel
theorem dX5_face_83 : decode cX5_face 83 = .ok (.ireturn, 1) := by decide +kernel
theorem dX5_face_84 : decode cX5_face 84 = .ok (.aload_n 3, 1) := by decide +kernel
theorem dX5_face_85 : decode cX5_face 85 = .ok (.getfield 136, 3) := by decide +kernel
theorem dX5_face_88 : decode cX5_face 88 = .ok (.ireturn, 1) := by decide +kernel
theorem dX5_face_89 : decode cX5_face 89 = .ok (.aload_n 3, 1) := by decide +kernel
theorem dX5_face_90 : decode cX5_face 90 = .ok (.getfield 84, 3) := by decide +kernel
theorem dX5_face_93 : decode cX5_face 93 = .ok (.ifCond .eq 7, 3) := by decide +kernel
theorem dX5_face_96 : decode cX5_face 96 = .ok (.iconst 1, 1) := by decide +kernel
theorem dX5_face_97 : decode cX5_face 97 = .ok (.goto 4, 3) := by decide +kernel
theorem dX5_face_100 : decode cX5_face 100 = .ok (.iconst 0, 1) := by decide +kernel
theorem dX5_face_101 : decode cX5_face 101 = .ok (.ireturn, 1) := by decide +kernel
theorem dX5_face_102 : decode cX5_face 102 = .ok (.aload_n 3, 1) := by decide +kernel
theorem dX5_face_103 : decode cX5_face 103 = .ok (.getfield 139, 3) := by decide +kernel
theorem dX5_face_106 : decode cX5_face 106 = .ok (.ireturn, 1) := by decide +kernel
theorem dX5_face_107 : decode cX5_face 107 = .ok (.aload_n 3, 1) := by decide +kernel
theorem dX5_face_108 : decode cX5_face 108 = .ok (.getfield 77, 3) := by decide +kernel
theorem dX5_face_111 : decode cX5_face 111 = .ok (.aload_n 0, 1) := by decide +kernel
theorem dX5_face_112 : decode cX5_face 112 = .ok (.getfield 10, 3) := by decide +kernel
theorem dX5_face_115 : decode cX5_face 115 = .ok (.getfield 142, 3) := by decide +kernel
theorem dX5_face_118 : decode cX5_face 118 = .ok (.sipush 720, 3) := by decide +kernel
theorem dX5_face_121 : decode cX5_face 121 = .ok (.irem, 1) := by decide +kernel
theorem dX5_face_122 : decode cX5_face 122 = .ok (.invokestatic 80, 3) := by decide +kernel
theorem dX5_face_125 : decode cX5_face 125 = .ok (.ireturn, 1) := by decide +kernel
theorem dX5_face_126 : decode cX5_face 126 = .ok (.sipush (-1002), 3) := by decide +kernel
theorem dX5_face_129 : decode cX5_face 129 = .ok (.ireturn, 1) := by decide +kernel
theorem dX5_total_0 : decode cX5_total 0 = .ok (.iload_n 1, 1) := by decide +kernel
theorem dX5_total_1 : decode cX5_total 1 = .ok (.tableswitch 126 0 8 #[51, 59, 67, 75, 83, 91, 99, 107, 118], 51) := by decide +kernel
theorem dX5_total_52 : decode cX5_total 52 = .ok (.aload_n 0, 1) := by decide +kernel
theorem dX5_total_53 : decode cX5_total 53 = .ok (.getfield 10, 3) := by decide +kernel
theorem dX5_total_56 : decode cX5_total 56 = .ok (.getfield 142, 3) := by decide +kernel
theorem dX5_total_59 : decode cX5_total 59 = .ok (.ireturn, 1) := by decide +kernel
theorem dX5_total_60 : decode cX5_total 60 = .ok (.aload_n 0, 1) := by decide +kernel
theorem dX5_total_61 : decode cX5_total 61 = .ok (.getfield 10, 3) := by decide +kernel
theorem dX5_total_64 : decode cX5_total 64 = .ok (.invokevirtual 145, 3) := by decide +kernel
theorem dX5_total_67 : decode cX5_total 67 = .ok (.ireturn, 1) := by decide +kernel
theorem dX5_total_68 : decode cX5_total 68 = .ok (.aload_n 0, 1) := by decide +kernel
theorem dX5_total_69 : decode cX5_total 69 = .ok (.getfield 10, 3) := by decide +kernel
theorem dX5_total_72 : decode cX5_total 72 = .ok (.getfield 148, 3) := by decide +kernel
theorem dX5_total_75 : decode cX5_total 75 = .ok (.ireturn, 1) := by decide +kernel
theorem dX5_total_76 : decode cX5_total 76 = .ok (.aload_n 0, 1) := by decide +kernel
theorem dX5_total_77 : decode cX5_total 77 = .ok (.getfield 10, 3) := by decide +kernel
theorem dX5_total_80 : decode cX5_total 80 = .ok (.getfield 151, 3) := by decide +kernel
theorem dX5_total_83 : decode cX5_total 83 = .ok (.ireturn, 1) := by decide +kernel
theorem dX5_total_84 : decode cX5_total 84 = .ok (.aload_n 0, 1) := by decide +kernel
theorem dX5_total_85 : decode cX5_total 85 = .ok (.getfield 10, 3) := by decide +kernel
theorem dX5_total_88 : decode cX5_total 88 = .ok (.invokevirtual 154, 3) := by decide +kernel
theorem dX5_total_91 : decode cX5_total 91 = .ok (.ireturn, 1) := by decide +kernel
theorem dX5_total_92 : decode cX5_total 92 = .ok (.aload_n 0, 1) := by decide +kernel
theorem dX5_total_93 : decode cX5_total 93 = .ok (.getfield 10, 3) := by decide +kernel
theorem dX5_total_96 : decode cX5_total 96 = .ok (.invokevirtual 157, 3) := by decide +kernel
theorem dX5_total_99 : decode cX5_total 99 = .ok (.ireturn, 1) := by decide +kernel
theorem dX5_total_100 : decode cX5_total 100 = .ok (.aload_n 0, 1) := by decide +kernel
theorem dX5_total_101 : decode cX5_total 101 = .ok (.getfield 10, 3) := by decide +kernel
theorem dX5_total_104 : decode cX5_total 104 = .ok (.getfield 160, 3) := by decide +kernel
theorem dX5_total_107 : decode cX5_total 107 = .ok (.ireturn, 1) := by decide +kernel
theorem dX5_total_108 : decode cX5_total 108 = .ok (.aload_n 0, 1) := by decide +kernel
theorem dX5_total_109 : decode cX5_total 109 = .ok (.getfield 10, 3) := by decide +kernel
theorem dX5_total_112 : decode cX5_total 112 = .ok (.getfield 95, 3) := by decide +kernel
theorem dX5_total_115 : decode cX5_total 115 = .ok (.getfield 108, 3) := by decide +kernel
theorem dX5_total_118 : decode cX5_total 118 = .ok (.ireturn, 1) := by decide +kernel
theorem dX5_total_119 : decode cX5_total 119 = .ok (.aload_n 0, 1) := by decide +kernel
theorem dX5_total_120 : decode cX5_total 120 = .ok (.getfield 10, 3) := by decide +kernel
theorem dX5_total_123 : decode cX5_total 123 = .ok (.invokevirtual 163, 3) := by decide +kernel
theorem dX5_total_126 : decode cX5_total 126 = .ok (.ireturn, 1) := by decide +kernel
theorem dX5_total_127 : decode cX5_total 127 = .ok (.sipush (-1002), 3) := by decide +kernel
theorem dX5_total_130 : decode cX5_total 130 = .ok (.ireturn, 1) := by decide +kernel
theorem dX5_majority_0 : decode cX5_majority 0 = .ok (.iconst 0, 1) := by decide +kernel
theorem dX5_majority_1 : decode cX5_majority 1 = .ok (.istore_n 1, 1) := by decide +kernel
theorem dX5_majority_2 : decode cX5_majority 2 = .ok (.iconst 0, 1) := by decide +kernel
theorem dX5_majority_3 : decode cX5_majority 3 = .ok (.istore_n 2, 1) := by decide +kernel
theorem dX5_majority_4 : decode cX5_majority 4 = .ok (.aload_n 0, 1) := by decide +kernel
theorem dX5_majority_5 : decode cX5_majority 5 = .ok (.getfield 10, 3) := by decide +kernel
theorem dX5_majority_8 : decode cX5_majority 8 = .ok (.getfield 166, 3) := by decide +kernel
theorem dX5_majority_11 : decode cX5_majority 11 = .ok (.astore_n 3, 1) := by decide +kernel
theorem dX5_majority_12 : decode cX5_majority 12 = .ok (.aload_n 3, 1) := by decide +kernel
theorem dX5_majority_13 : decode cX5_majority 13 = .ok (.arraylength, 1) := by decide +kernel
theorem dX5_majority_14 : decode cX5_majority 14 = .ok (.istore 4, 2) := by decide +kernel
theorem dX5_majority_16 : decode cX5_majority 16 = .ok (.iconst 0, 1) := by decide +kernel
theorem dX5_majority_17 : decode cX5_majority 17 = .ok (.istore 5, 2) := by decide +kernel
theorem dX5_majority_19 : decode cX5_majority 19 = .ok (.iload 5, 2) := by decide +kernel
theorem dX5_majority_21 : decode cX5_majority 21 = .ok (.iload 4, 2) := by decide +kernel
theorem dX5_majority_23 : decode cX5_majority 23 = .ok (.if_icmp .ge 44, 3) := by decide +kernel
theorem dX5_majority_26 : decode cX5_majority 26 = .ok (.aload_n 3, 1) := by decide +kernel
theorem dX5_majority_27 : decode cX5_majority 27 = .ok (.iload 5, 2) := by decide +kernel
theorem dX5_majority_29 : decode cX5_majority 29 = .ok (.aaload, 1) := by decide +kernel
theorem dX5_majority_30 : decode cX5_majority 30 = .ok (.astore 6, 2) := by decide +kernel
theorem dX5_majority_32 : decode cX5_majority 32 = .ok (.aload_n 0, 1) := by decide +kernel
theorem dX5_majority_33 : decode cX5_majority 33 = .ok (.getfield 10, 3) := by decide +kernel
theorem dX5_majority_36 : decode cX5_majority 36 = .ok (.aload 6, 2) := by decide +kernel
theorem dX5_majority_38 : decode cX5_majority 38 = .ok (.getfield 77, 3) := by decide +kernel
theorem dX5_majority_41 : decode cX5_majority 41 = .ok (.invokevirtual 170, 3) := by decide +kernel
theorem dX5_majority_44 : decode cX5_majority 44 = .ok (.istore 7, 2) := by decide +kernel
theorem dX5_majority_46 : decode cX5_majority 46 = .ok (.iload 7, 2) := by decide +kernel
theorem dX5_majority_48 : decode cX5_majority 48 = .ok (.iload_n 2, 1) := by decide +kernel
theorem dX5_majority_49 : decode cX5_majority 49 = .ok (.if_icmp .le 12, 3) := by decide +kernel
theorem dX5_majority_52 : decode cX5_majority 52 = .ok (.iload 7, 2) := by decide +kernel
theorem dX5_majority_54 : decode cX5_majority 54 = .ok (.istore_n 2, 1) := by decide +kernel
theorem dX5_majority_55 : decode cX5_majority 55 = .ok (.aload 6, 2) := by decide +kernel
theorem dX5_majority_57 : decode cX5_majority 57 = .ok (.getfield 77, 3) := by decide +kernel
theorem dX5_majority_60 : decode cX5_majority 60 = .ok (.istore_n 1, 1) := by decide +kernel
theorem dX5_majority_61 : decode cX5_majority 61 = .ok (.iinc 5 1, 3) := by decide +kernel
theorem dX5_majority_64 : decode cX5_majority 64 = .ok (.goto (-45), 3) := by decide +kernel
theorem dX5_majority_67 : decode cX5_majority 67 = .ok (.iload_n 1, 1) := by decide +kernel
theorem dX5_majority_68 : decode cX5_majority 68 = .ok (.ireturn, 1) := by decide +kernel
theorem dX5_coming_0 : decode cX5_coming 0 = .ok (.iload_n 1, 1) := by decide +kernel
theorem dX5_coming_1 : decode cX5_coming 1 = .ok (.iconst 0, 1) := by decide +kernel
theorem dX5_coming_2 : decode cX5_coming 2 = .ok (.bipush 23, 2) := by decide +kernel
theorem dX5_coming_4 : decode cX5_coming 4 = .ok (.invokestatic 47, 3) := by decide +kernel
theorem dX5_coming_7 : decode cX5_coming 7 = .ok (.ifCond .eq 12, 3) := by decide +kernel
theorem dX5_coming_10 : decode cX5_coming 10 = .ok (.iload_n 2, 1) := by decide +kernel
theorem dX5_coming_11 : decode cX5_coming 11 = .ok (.iconst 0, 1) := by decide +kernel
theorem dX5_coming_12 : decode cX5_coming 12 = .ok (.iconst 2, 1) := by decide +kernel
theorem dX5_coming_13 : decode cX5_coming 13 = .ok (.invokestatic 47, 3) := by decide +kernel
theorem dX5_coming_16 : decode cX5_coming 16 = .ok (.ifCond .ne 7, 3) := by decide +kernel
theorem dX5_coming_19 : decode cX5_coming 19 = .ok (.sipush (-1002), 3) := by decide +kernel
theorem dX5_coming_22 : decode cX5_coming 22 = .ok (.ireturn, 1) := by decide +kernel
theorem dX5_coming_23 : decode cX5_coming 23 = .ok (.aload_n 0, 1) := by decide +kernel
theorem dX5_coming_24 : decode cX5_coming 24 = .ok (.getfield 10, 3) := by decide +kernel
theorem dX5_coming_27 : decode cX5_coming 27 = .ok (.invokevirtual 173, 3) := by decide +kernel
theorem dX5_coming_30 : decode cX5_coming 30 = .ok (.istore_n 3, 1) := by decide +kernel
theorem dX5_coming_31 : decode cX5_coming 31 = .ok (.iload_n 3, 1) := by decide +kernel
theorem dX5_coming_32 : decode cX5_coming 32 = .ok (.ifCond .ne 7, 3) := by decide +kernel
theorem dX5_coming_35 : decode cX5_coming 35 = .ok (.sipush (-1000), 3) := by decide +kernel
theorem dX5_coming_38 : decode cX5_coming 38 = .ok (.ireturn, 1) := by decide +kernel
theorem dX5_coming_39 : decode cX5_coming 39 = .ok (.aload_n 0, 1) := by decide +kernel
theorem dX5_coming_40 : decode cX5_coming 40 = .ok (.getfield 10, 3) := by decide +kernel
theorem dX5_coming_43 : decode cX5_coming 43 = .ok (.iload_n 1, 1) := by decide +kernel
theorem dX5_coming_44 : decode cX5_coming 44 = .ok (.iload_n 3, 1) := by decide +kernel
theorem dX5_coming_45 : decode cX5_coming 45 = .ok (.irem, 1) := by decide +kernel
theorem dX5_coming_46 : decode cX5_coming 46 = .ok (.invokevirtual 176, 3) := by decide +kernel
theorem dX5_coming_49 : decode cX5_coming 49 = .ok (.istore 4, 2) := by decide +kernel
theorem dX5_coming_51 : decode cX5_coming 51 = .ok (.aload_n 0, 1) := by decide +kernel
theorem dX5_coming_52 : decode cX5_coming 52 = .ok (.getfield 10, 3) := by decide +kernel
theorem dX5_coming_55 : decode cX5_coming 55 = .ok (.iload 4, 2) := by decide +kernel
theorem dX5_coming_57 : decode cX5_coming 57 = .ok (.invokevirtual 58, 3) := by decide +kernel
theorem dX5_coming_60 : decode cX5_coming 60 = .ok (.astore 5, 2) := by decide +kernel
theorem dX5_coming_62 : decode cX5_coming 62 = .ok (.aload 5, 2) := by decide +kernel
theorem dX5_coming_64 : decode cX5_coming 64 = .ok (.ifnonnull 7, 3) := by decide +kernel
theorem dX5_coming_67 : decode cX5_coming 67 = .ok (.sipush (-1000), 3) := by decide +kernel
theorem dX5_coming_70 : decode cX5_coming 70 = .ok (.ireturn, 1) := by decide +kernel
theorem dX5_coming_71 : decode cX5_coming 71 = .ok (.aload 5, 2) := by decide +kernel
theorem dX5_coming_73 : decode cX5_coming 73 = .ok (.invokevirtual 179, 3) := by decide +kernel
theorem dX5_coming_76 : decode cX5_coming 76 = .ok (.bipush 60, 2) := by decide +kernel
theorem dX5_coming_78 : decode cX5_coming 78 = .ok (.iload_n 1, 1) := by decide +kernel
theorem dX5_coming_79 : decode cX5_coming 79 = .ok (.iload_n 3, 1) := by decide +kernel
theorem dX5_coming_80 : decode cX5_coming 80 = .ok (.idiv, 1) := by decide +kernel
theorem dX5_coming_81 : decode cX5_coming 81 = .ok (.imul, 1) := by decide +kernel
theorem dX5_coming_82 : decode cX5_coming 82 = .ok (.iadd, 1) := by decide +kernel
theorem dX5_coming_83 : decode cX5_coming 83 = .ok (.istore 6, 2) := by decide +kernel
theorem dX5_coming_85 : decode cX5_coming 85 = .ok (.iload_n 2, 1) := by decide +kernel
theorem dX5_coming_86 : decode cX5_coming 86 = .ok (.lookupswitch 32 #[(0, 26), (1, 29)], 26) := by decide +kernel
theorem dX5_coming_112 : decode cX5_coming 112 = .ok (.iload 4, 2) := by decide +kernel
theorem dX5_coming_114 : decode cX5_coming 114 = .ok (.ireturn, 1) := by decide +kernel
theorem dX5_coming_115 : decode cX5_coming 115 = .ok (.iload 6, 2) := by decide +kernel
theorem dX5_coming_117 : decode cX5_coming 117 = .ok (.ireturn, 1) := by decide +kernel
theorem dX5_coming_118 : decode cX5_coming 118 = .ok (.aload 5, 2) := by decide +kernel
theorem dX5_coming_120 : decode cX5_coming 120 = .ok (.getfield 77, 3) := by decide +kernel
theorem dX5_coming_123 : decode cX5_coming 123 = .ok (.iload 6, 2) := by decide +kernel
theorem dX5_coming_125 : decode cX5_coming 125 = .ok (.iadd, 1) := by decide +kernel
theorem dX5_coming_126 : decode cX5_coming 126 = .ok (.sipush 720, 3) := by decide +kernel
theorem dX5_coming_129 : decode cX5_coming 129 = .ok (.irem, 1) := by decide +kernel
theorem dX5_coming_130 : decode cX5_coming 130 = .ok (.invokestatic 182, 3) := by decide +kernel
theorem dX5_coming_133 : decode cX5_coming 133 = .ok (.ireturn, 1) := by decide +kernel
theorem dX5_spreadIn_0 : decode cX5_spreadIn 0 = .ok (.iload_n 1, 1) := by decide +kernel
theorem dX5_spreadIn_1 : decode cX5_spreadIn 1 = .ok (.iconst 0, 1) := by decide +kernel
theorem dX5_spreadIn_2 : decode cX5_spreadIn 2 = .ok (.sipush 2000, 3) := by decide +kernel
theorem dX5_spreadIn_5 : decode cX5_spreadIn 5 = .ok (.invokestatic 47, 3) := by decide +kernel
theorem dX5_spreadIn_8 : decode cX5_spreadIn 8 = .ok (.ifCond .ne 7, 3) := by decide +kernel
theorem dX5_spreadIn_11 : decode cX5_spreadIn 11 = .ok (.sipush (-1002), 3) := by decide +kernel
theorem dX5_spreadIn_14 : decode cX5_spreadIn 14 = .ok (.ireturn, 1) := by decide +kernel
theorem dX5_spreadIn_15 : decode cX5_spreadIn 15 = .ok (.aload_n 0, 1) := by decide +kernel
theorem dX5_spreadIn_16 : decode cX5_spreadIn 16 = .ok (.getfield 16, 3) := by decide +kernel
theorem dX5_spreadIn_19 : decode cX5_spreadIn 19 = .ok (.aload_n 0, 1) := by decide +kernel
theorem dX5_spreadIn_20 : decode cX5_spreadIn 20 = .ok (.getfield 10, 3) := by decide +kernel
theorem dX5_spreadIn_23 : decode cX5_spreadIn 23 = .ok (.invokevirtual 185, 3) := by decide +kernel
theorem dX5_spreadIn_26 : decode cX5_spreadIn 26 = .ok (.aload_n 0, 1) := by decide +kernel
theorem dX5_spreadIn_27 : decode cX5_spreadIn 27 = .ok (.getfield 16, 3) := by decide +kernel
theorem dX5_spreadIn_30 : decode cX5_spreadIn 30 = .ok (.iload_n 1, 1) := by decide +kernel
theorem dX5_spreadIn_31 : decode cX5_spreadIn 31 = .ok (.invokevirtual 92, 3) := by decide +kernel
theorem dX5_spreadIn_34 : decode cX5_spreadIn 34 = .ok (.pop, 1) := by decide +kernel
theorem dX5_spreadIn_35 : decode cX5_spreadIn 35 = .ok (.aload_n 0, 1) := by decide +kernel
theorem dX5_spreadIn_36 : decode cX5_spreadIn 36 = .ok (.getfield 16, 3) := by decide +kernel
theorem dX5_spreadIn_39 : decode cX5_spreadIn 39 = .ok (.invokevirtual 163, 3) := by decide +kernel
theorem dX5_spreadIn_42 : decode cX5_spreadIn 42 = .ok (.ireturn, 1) := by decide +kernel
theorem dX5_minutesTo_0 : decode cX5_minutesTo 0 = .ok (.iload_n 1, 1) := by decide +kernel
theorem dX5_minutesTo_1 : decode cX5_minutesTo 1 = .ok (.iconst 0, 1) := by decide +kernel
theorem dX5_minutesTo_2 : decode cX5_minutesTo 2 = .ok (.sipush 360, 3) := by decide +kernel
theorem dX5_minutesTo_5 : decode cX5_minutesTo 5 = .ok (.invokestatic 47, 3) := by decide +kernel
theorem dX5_minutesTo_8 : decode cX5_minutesTo 8 = .ok (.ifCond .ne 7, 3) := by decide +kernel
theorem dX5_minutesTo_11 : decode cX5_minutesTo 11 = .ok (.sipush (-1002), 3) := by decide +kernel
theorem dX5_minutesTo_14 : decode cX5_minutesTo 14 = .ok (.ireturn, 1) := by decide +kernel
theorem dX5_minutesTo_15 : decode cX5_minutesTo 15 = .ok (.aload_n 0, 1) := by decide +kernel
theorem dX5_minutesTo_16 : decode cX5_minutesTo 16 = .ok (.getfield 16, 3) := by decide +kernel
theorem dX5_minutesTo_19 : decode cX5_minutesTo 19 = .ok (.aload_n 0, 1) := by decide +kernel
theorem dX5_minutesTo_20 : decode cX5_minutesTo 20 = .ok (.getfield 10, 3) := by decide +kernel
theorem dX5_minutesTo_23 : decode cX5_minutesTo 23 = .ok (.invokevirtual 185, 3) := by decide +kernel
theorem dX5_minutesTo_26 : decode cX5_minutesTo 26 = .ok (.iconst 0, 1) := by decide +kernel
theorem dX5_minutesTo_27 : decode cX5_minutesTo 27 = .ok (.istore_n 2, 1) := by decide +kernel
theorem dX5_minutesTo_28 : decode cX5_minutesTo 28 = .ok (.iload_n 2, 1) := by decide +kernel
theorem dX5_minutesTo_29 : decode cX5_minutesTo 29 = .ok (.sipush 3000, 3) := by decide +kernel
theorem dX5_minutesTo_32 : decode cX5_minutesTo 32 = .ok (.if_icmp .gt 30, 3) := by decide +kernel
theorem dX5_minutesTo_35 : decode cX5_minutesTo 35 = .ok (.aload_n 0, 1) := by decide +kernel
theorem dX5_minutesTo_36 : decode cX5_minutesTo 36 = .ok (.getfield 16, 3) := by decide +kernel
theorem dX5_minutesTo_39 : decode cX5_minutesTo 39 = .ok (.invokevirtual 163, 3) := by decide +kernel
theorem dX5_minutesTo_42 : decode cX5_minutesTo 42 = .ok (.iload_n 1, 1) := by decide +kernel
theorem dX5_minutesTo_43 : decode cX5_minutesTo 43 = .ok (.if_icmp .lt 5, 3) := by decide +kernel
theorem dX5_minutesTo_46 : decode cX5_minutesTo 46 = .ok (.iload_n 2, 1) := by decide +kernel
theorem dX5_minutesTo_47 : decode cX5_minutesTo 47 = .ok (.ireturn, 1) := by decide +kernel
theorem dX5_minutesTo_48 : decode cX5_minutesTo 48 = .ok (.aload_n 0, 1) := by decide +kernel
theorem dX5_minutesTo_49 : decode cX5_minutesTo 49 = .ok (.getfield 16, 3) := by decide +kernel
theorem dX5_minutesTo_52 : decode cX5_minutesTo 52 = .ok (.invokevirtual 188, 3) := by decide +kernel
theorem dX5_minutesTo_55 : decode cX5_minutesTo 55 = .ok (.pop, 1) := by decide +kernel
theorem dX5_minutesTo_56 : decode cX5_minutesTo 56 = .ok (.iinc 2 1, 3) := by decide +kernel
theorem dX5_minutesTo_59 : decode cX5_minutesTo 59 = .ok (.goto (-31), 3) := by decide +kernel
theorem dX5_minutesTo_62 : decode cX5_minutesTo 62 = .ok (.sipush (-1000), 3) := by decide +kernel
theorem dX5_minutesTo_65 : decode cX5_minutesTo 65 = .ok (.ireturn, 1) := by decide +kernel
theorem dX5_bestOil_0 : decode cX5_bestOil 0 = .ok (.iconst 0, 1) := by decide +kernel
theorem dX5_bestOil_1 : decode cX5_bestOil 1 = .ok (.istore_n 1, 1) := by decide +kernel
theorem dX5_bestOil_2 : decode cX5_bestOil 2 = .ok (.sipush 1441, 3) := by decide +kernel
theorem dX5_bestOil_5 : decode cX5_bestOil 5 = .ok (.istore_n 2, 1) := by decide +kernel
theorem dX5_bestOil_6 : decode cX5_bestOil 6 = .ok (.iconst 0, 1) := by decide +kernel
theorem dX5_bestOil_7 : decode cX5_bestOil 7 = .ok (.istore_n 3, 1) := by decide +kernel
theorem dX5_bestOil_8 : decode cX5_bestOil 8 = .ok (.iload_n 3, 1) := by decide +kernel
theorem dX5_bestOil_9 : decode cX5_bestOil 9 = .ok (.iconst 4, 1) := by decide +kernel
theorem dX5_bestOil_10 : decode cX5_bestOil 10 = .ok (.if_icmp .ge 27, 3) := by decide +kernel
theorem dX5_bestOil_13 : decode cX5_bestOil 13 = .ok (.aload_n 0, 1) := by decide +kernel
theorem dX5_bestOil_14 : decode cX5_bestOil 14 = .ok (.iload_n 3, 1) := by decide +kernel
theorem dX5_bestOil_15 : decode cX5_bestOil 15 = .ok (.invokevirtual 191, 3) := by decide +kernel
theorem dX5_bestOil_18 : decode cX5_bestOil 18 = .ok (.istore 4, 2) := by decide +kernel
theorem dX5_bestOil_20 : decode cX5_bestOil 20 = .ok (.iload 4, 2) := by decide +kernel
theorem dX5_bestOil_22 : decode cX5_bestOil 22 = .ok (.iload_n 2, 1) := by decide +kernel
theorem dX5_bestOil_23 : decode cX5_bestOil 23 = .ok (.if_icmp .ge 8, 3) := by decide +kernel
theorem dX5_bestOil_26 : decode cX5_bestOil 26 = .ok (.iload 4, 2) := by decide +kernel
theorem dX5_bestOil_28 : decode cX5_bestOil 28 = .ok (.istore_n 2, 1) := by decide +kernel
theorem dX5_bestOil_29 : decode cX5_bestOil 29 = .ok (.iload_n 3, 1) := by decide +kernel
theorem dX5_bestOil_30 : decode cX5_bestOil 30 = .ok (.istore_n 1, 1) := by decide +kernel
theorem dX5_bestOil_31 : decode cX5_bestOil 31 = .ok (.iinc 3 1, 3) := by decide +kernel
theorem dX5_bestOil_34 : decode cX5_bestOil 34 = .ok (.goto (-26), 3) := by decide +kernel
theorem dX5_bestOil_37 : decode cX5_bestOil 37 = .ok (.iload_n 1, 1) := by decide +kernel
theorem dX5_bestOil_38 : decode cX5_bestOil 38 = .ok (.ireturn, 1) := by decide +kernel
theorem dX5_errorAfterOil_0 : decode cX5_errorAfterOil 0 = .ok (.aload_n 0, 1) := by decide +kernel
theorem dX5_errorAfterOil_1 : decode cX5_errorAfterOil 1 = .ok (.getfield 16, 3) := by decide +kernel
theorem dX5_errorAfterOil_4 : decode cX5_errorAfterOil 4 = .ok (.aload_n 0, 1) := by decide +kernel
theorem dX5_errorAfterOil_5 : decode cX5_errorAfterOil 5 = .ok (.getfield 10, 3) := by decide +kernel
theorem dX5_errorAfterOil_8 : decode cX5_errorAfterOil 8 = .ok (.invokevirtual 185, 3) := by decide +kernel
theorem dX5_errorAfterOil_11 : decode cX5_errorAfterOil 11 = .ok (.aload_n 0, 1) := by decide +kernel
theorem dX5_errorAfterOil_12 : decode cX5_errorAfterOil 12 = .ok (.getfield 16, 3) := by decide +kernel
theorem dX5_errorAfterOil_15 : decode cX5_errorAfterOil 15 = .ok (.iload_n 1, 1) := by decide +kernel
theorem dX5_errorAfterOil_16 : decode cX5_errorAfterOil 16 = .ok (.invokevirtual 58, 3) := by decide +kernel
theorem dX5_errorAfterOil_19 : decode cX5_errorAfterOil 19 = .ok (.astore_n 2, 1) := by decide +kernel
theorem dX5_errorAfterOil_20 : decode cX5_errorAfterOil 20 = .ok (.aload_n 2, 1) := by decide +kernel
theorem dX5_errorAfterOil_21 : decode cX5_errorAfterOil 21 = .ok (.ifnull 7, 3) := by decide +kernel
theorem dX5_errorAfterOil_24 : decode cX5_errorAfterOil 24 = .ok (.aload_n 2, 1) := by decide +kernel
theorem dX5_errorAfterOil_25 : decode cX5_errorAfterOil 25 = .ok (.invokevirtual 71, 3) := by decide +kernel
theorem dX5_errorAfterOil_28 : decode cX5_errorAfterOil 28 = .ok (.aload_n 0, 1) := by decide +kernel
theorem dX5_errorAfterOil_29 : decode cX5_errorAfterOil 29 = .ok (.getfield 16, 3) := by decide +kernel
theorem dX5_errorAfterOil_32 : decode cX5_errorAfterOil 32 = .ok (.sipush 1440, 3) := by decide +kernel
theorem dX5_errorAfterOil_35 : decode cX5_errorAfterOil 35 = .ok (.invokevirtual 92, 3) := by decide +kernel
theorem dX5_errorAfterOil_38 : decode cX5_errorAfterOil 38 = .ok (.pop, 1) := by decide +kernel
theorem dX5_errorAfterOil_39 : decode cX5_errorAfterOil 39 = .ok (.aload_n 0, 1) := by decide +kernel
theorem dX5_errorAfterOil_40 : decode cX5_errorAfterOil 40 = .ok (.getfield 16, 3) := by decide +kernel
theorem dX5_errorAfterOil_43 : decode cX5_errorAfterOil 43 = .ok (.invokevirtual 194, 3) := by decide +kernel
theorem dX5_errorAfterOil_46 : decode cX5_errorAfterOil 46 = .ok (.ireturn, 1) := by decide +kernel
theorem dX5_append_0 : decode cX5_append 0 = .ok (.iload_n 1, 1) := by decide +kernel
theorem dX5_append_1 : decode cX5_append 1 = .ok (.bipush 33, 2) := by decide +kernel
theorem dX5_append_3 : decode cX5_append 3 = .ok (.bipush 126, 2) := by decide +kernel
theorem dX5_append_5 : decode cX5_append 5 = .ok (.invokestatic 47, 3) := by decide +kernel
theorem dX5_append_8 : decode cX5_append 8 = .ok (.ifCond .ne 7, 3) := by decide +kernel
theorem dX5_append_11 : decode cX5_append 11 = .ok (.sipush (-1002), 3) := by decide +kernel
theorem dX5_append_14 : decode cX5_append 14 = .ok (.ireturn, 1) := by decide +kernel
theorem dX5_append_15 : decode cX5_append 15 = .ok (.aload_n 0, 1) := by decide +kernel
theorem dX5_append_16 : decode cX5_append 16 = .ok (.getfield 32, 3) := by decide +kernel
theorem dX5_append_19 : decode cX5_append 19 = .ok (.getfield 197, 3) := by decide +kernel
theorem dX5_append_22 : decode cX5_append 22 = .ok (.bipush 60, 2) := by decide +kernel
theorem dX5_append_24 : decode cX5_append 24 = .ok (.if_icmp .lt 7, 3) := by decide +kernel
theorem dX5_append_27 : decode cX5_append 27 = .ok (.sipush (-1004), 3) := by decide +kernel
theorem dX5_append_30 : decode cX5_append 30 = .ok (.ireturn, 1) := by decide +kernel
theorem dX5_append_31 : decode cX5_append 31 = .ok (.aload_n 0, 1) := by decide +kernel
theorem dX5_append_32 : decode cX5_append 32 = .ok (.getfield 32, 3) := by decide +kernel
theorem dX5_append_35 : decode cX5_append 35 = .ok (.iload_n 1, 1) := by decide +kernel
theorem dX5_append_36 : decode cX5_append 36 = .ok (.i2c, 1) := by decide +kernel
theorem dX5_append_37 : decode cX5_append 37 = .ok (.invokevirtual 200, 3) := by decide +kernel
theorem dX5_append_40 : decode cX5_append 40 = .ok (.aload_n 0, 1) := by decide +kernel
theorem dX5_append_41 : decode cX5_append 41 = .ok (.getfield 32, 3) := by decide +kernel
theorem dX5_append_44 : decode cX5_append 44 = .ok (.getfield 197, 3) := by decide +kernel
theorem dX5_append_47 : decode cX5_append 47 = .ok (.ireturn, 1) := by decide +kernel
theorem dX5_clearText_0 : decode cX5_clearText 0 = .ok (.aload_n 0, 1) := by decide +kernel
theorem dX5_clearText_1 : decode cX5_clearText 1 = .ok (.getfield 32, 3) := by decide +kernel
theorem dX5_clearText_4 : decode cX5_clearText 4 = .ok (.getfield 197, 3) := by decide +kernel
theorem dX5_clearText_7 : decode cX5_clearText 7 = .ok (.istore_n 1, 1) := by decide +kernel
theorem dX5_clearText_8 : decode cX5_clearText 8 = .ok (.aload_n 0, 1) := by decide +kernel
theorem dX5_clearText_9 : decode cX5_clearText 9 = .ok (.getfield 32, 3) := by decide +kernel
theorem dX5_clearText_12 : decode cX5_clearText 12 = .ok (.iconst 0, 1) := by decide +kernel
theorem dX5_clearText_13 : decode cX5_clearText 13 = .ok (.putfield 197, 3) := by decide +kernel
theorem dX5_clearText_16 : decode cX5_clearText 16 = .ok (.iload_n 1, 1) := by decide +kernel
theorem dX5_clearText_17 : decode cX5_clearText 17 = .ok (.ireturn, 1) := by decide +kernel
theorem dX5_errorPosition_0 : decode cX5_errorPosition 0 = .ok (.aload_n 0, 1) := by decide +kernel
theorem dX5_errorPosition_1 : decode cX5_errorPosition 1 = .ok (.getfield 32, 3) := by decide +kernel
theorem dX5_errorPosition_4 : decode cX5_errorPosition 4 = .ok (.invokevirtual 203, 3) := by decide +kernel
theorem dX5_errorPosition_7 : decode cX5_errorPosition 7 = .ok (.ireturn, 1) := by decide +kernel
theorem dX5_work_0 : decode cX5_work 0 = .ok (.aload_n 0, 1) := by decide +kernel
theorem dX5_work_1 : decode cX5_work 1 = .ok (.getfield 32, 3) := by decide +kernel
theorem dX5_work_4 : decode cX5_work 4 = .ok (.invokevirtual 203, 3) := by decide +kernel
theorem dX5_work_7 : decode cX5_work 7 = .ok (.sipush (-1000), 3) := by decide +kernel
theorem dX5_work_10 : decode cX5_work 10 = .ok (.if_icmp .eq 7, 3) := by decide +kernel
theorem dX5_work_13 : decode cX5_work 13 = .ok (.sipush (-1005), 3) := by decide +kernel
theorem dX5_work_16 : decode cX5_work 16 = .ok (.ireturn, 1) := by decide +kernel
theorem dX5_work_17 : decode cX5_work 17 = .ok (.aload_n 0, 1) := by decide +kernel
theorem dX5_work_18 : decode cX5_work 18 = .ok (.getfield 25, 3) := by decide +kernel
theorem dX5_work_21 : decode cX5_work 21 = .ok (.aload_n 0, 1) := by decide +kernel
theorem dX5_work_22 : decode cX5_work 22 = .ok (.getfield 10, 3) := by decide +kernel
theorem dX5_work_25 : decode cX5_work 25 = .ok (.invokevirtual 51, 3) := by decide +kernel
theorem dX5_work_28 : decode cX5_work 28 = .ok (.aload_n 0, 1) := by decide +kernel
theorem dX5_work_29 : decode cX5_work 29 = .ok (.getfield 32, 3) := by decide +kernel
theorem dX5_work_32 : decode cX5_work 32 = .ok (.invokevirtual 206, 3) := by decide +kernel
theorem dX5_work_35 : decode cX5_work 35 = .ok (.iconst 0, 1) := by decide +kernel
theorem dX5_work_36 : decode cX5_work 36 = .ok (.istore_n 1, 1) := by decide +kernel
theorem dX5_work_37 : decode cX5_work 37 = .ok (.iload_n 1, 1) := by decide +kernel
theorem dX5_work_38 : decode cX5_work 38 = .ok (.bipush 60, 2) := by decide +kernel
theorem dX5_work_40 : decode cX5_work 40 = .ok (.if_icmp .ge 36, 3) := by decide +kernel
theorem dX5_work_43 : decode cX5_work 43 = .ok (.aload_n 0, 1) := by decide +kernel
theorem dX5_work_44 : decode cX5_work 44 = .ok (.getfield 32, 3) := by decide +kernel
theorem dX5_work_47 : decode cX5_work 47 = .ok (.invokevirtual 209, 3) := by decide +kernel
theorem dX5_work_50 : decode cX5_work 50 = .ok (.ifCond .eq 26, 3) := by decide +kernel
theorem dX5_work_53 : decode cX5_work 53 = .ok (.aload_n 0, 1) := by decide +kernel
theorem dX5_work_54 : decode cX5_work 54 = .ok (.invokevirtual 213, 3) := by decide +kernel
theorem dX5_work_57 : decode cX5_work 57 = .ok (.ifCond .eq 19, 3) := by decide +kernel
theorem dX5_work_60 : decode cX5_work 60 = .ok (.iinc 1 1, 3) := by decide +kernel
theorem dX5_work_63 : decode cX5_work 63 = .ok (.aload_n 0, 1) := by decide +kernel
theorem dX5_work_64 : decode cX5_work 64 = .ok (.getfield 32, 3) := by decide +kernel
theorem dX5_work_67 : decode cX5_work 67 = .ok (.bipush 59, 2) := by decide +kernel
theorem dX5_work_69 : decode cX5_work 69 = .ok (.invokevirtual 216, 3) := by decide +kernel
theorem dX5_work_72 : decode cX5_work 72 = .ok (.pop, 1) := by decide +kernel
theorem dX5_work_73 : decode cX5_work 73 = .ok (.goto (-36), 3) := by decide +kernel
theorem dX5_work_76 : decode cX5_work 76 = .ok (.aload_n 0, 1) := by decide +kernel
theorem dX5_work_77 : decode cX5_work 77 = .ok (.getfield 32, 3) := by decide +kernel
theorem dX5_work_80 : decode cX5_work 80 = .ok (.iconst 0, 1) := by decide +kernel
theorem dX5_work_81 : decode cX5_work 81 = .ok (.putfield 197, 3) := by decide +kernel
theorem dX5_work_84 : decode cX5_work 84 = .ok (.iload_n 1, 1) := by decide +kernel
theorem dX5_work_85 : decode cX5_work 85 = .ok (.ireturn, 1) := by decide +kernel
theorem dX5_doWork_0 : decode cX5_doWork 0 = .ok (.aload_n 0, 1) := by decide +kernel
theorem dX5_doWork_1 : decode cX5_doWork 1 = .ok (.getfield 32, 3) := by decide +kernel
theorem dX5_doWork_4 : decode cX5_doWork 4 = .ok (.getfield 220, 3) := by decide +kernel
theorem dX5_doWork_7 : decode cX5_doWork 7 = .ok (.lookupswitch 116 #[(107, 25), (119, 80)], 25) := by decide +kernel
theorem dX5_doWork_32 : decode cX5_doWork 32 = .ok (.aload_n 0, 1) := by decide +kernel
theorem dX5_doWork_33 : decode cX5_doWork 33 = .ok (.getfield 10, 3) := by decide +kernel
theorem dX5_doWork_36 : decode cX5_doWork 36 = .ok (.getfield 95, 3) := by decide +kernel
theorem dX5_doWork_39 : decode cX5_doWork 39 = .ok (.aload_n 0, 1) := by decide +kernel
theorem dX5_doWork_40 : decode cX5_doWork 40 = .ok (.getfield 32, 3) := by decide +kernel
theorem dX5_doWork_43 : decode cX5_doWork 43 = .ok (.getfield 223, 3) := by decide +kernel
theorem dX5_doWork_46 : decode cX5_doWork 46 = .ok (.aload_n 0, 1) := by decide +kernel
theorem dX5_doWork_47 : decode cX5_doWork 47 = .ok (.getfield 32, 3) := by decide +kernel
theorem dX5_doWork_50 : decode cX5_doWork 50 = .ok (.getfield 226, 3) := by decide +kernel
theorem dX5_doWork_53 : decode cX5_doWork 53 = .ok (.invokevirtual 99, 3) := by decide +kernel
theorem dX5_doWork_56 : decode cX5_doWork 56 = .ok (.ifCond .eq 5, 3) := by decide +kernel
theorem dX5_doWork_59 : decode cX5_doWork 59 = .ok (.iconst 0, 1) := by decide +kernel
theorem dX5_doWork_60 : decode cX5_doWork 60 = .ok (.ireturn, 1) := by decide +kernel
theorem dX5_doWork_61 : decode cX5_doWork 61 = .ok (.aload_n 0, 1) := by decide +kernel
theorem dX5_doWork_62 : decode cX5_doWork 62 = .ok (.getfield 10, 3) := by decide +kernel
theorem dX5_doWork_65 : decode cX5_doWork 65 = .ok (.getfield 95, 3) := by decide +kernel
theorem dX5_doWork_68 : decode cX5_doWork 68 = .ok (.aload_n 0, 1) := by decide +kernel
theorem dX5_doWork_69 : decode cX5_doWork 69 = .ok (.getfield 32, 3) := by decide +kernel
theorem dX5_doWork_72 : decode cX5_doWork 72 = .ok (.getfield 223, 3) := by decide +kernel
theorem dX5_doWork_75 : decode cX5_doWork 75 = .ok (.aload_n 0, 1) := by decide +kernel
theorem dX5_doWork_76 : decode cX5_doWork 76 = .ok (.getfield 32, 3) := by decide +kernel
theorem dX5_doWork_79 : decode cX5_doWork 79 = .ok (.getfield 226, 3) := by decide +kernel
theorem dX5_doWork_82 : decode cX5_doWork 82 = .ok (.invokevirtual 104, 3) := by decide +kernel
theorem dX5_doWork_85 : decode cX5_doWork 85 = .ok (.iconst 1, 1) := by decide +kernel
theorem dX5_doWork_86 : decode cX5_doWork 86 = .ok (.ireturn, 1) := by decide +kernel
theorem dX5_doWork_87 : decode cX5_doWork 87 = .ok (.aload_n 0, 1) := by decide +kernel
theorem dX5_doWork_88 : decode cX5_doWork 88 = .ok (.getfield 10, 3) := by decide +kernel
theorem dX5_doWork_91 : decode cX5_doWork 91 = .ok (.aload_n 0, 1) := by decide +kernel
theorem dX5_doWork_92 : decode cX5_doWork 92 = .ok (.getfield 32, 3) := by decide +kernel
theorem dX5_doWork_95 : decode cX5_doWork 95 = .ok (.getfield 226, 3) := by decide +kernel
theorem dX5_doWork_98 : decode cX5_doWork 98 = .ok (.invokevirtual 88, 3) := by decide +kernel
theorem dX5_doWork_101 : decode cX5_doWork 101 = .ok (.ifCond .eq 5, 3) := by decide +kernel
theorem dX5_doWork_104 : decode cX5_doWork 104 = .ok (.iconst 0, 1) := by decide +kernel
theorem dX5_doWork_105 : decode cX5_doWork 105 = .ok (.ireturn, 1) := by decide +kernel
theorem dX5_doWork_106 : decode cX5_doWork 106 = .ok (.aload_n 0, 1) := by decide +kernel
theorem dX5_doWork_107 : decode cX5_doWork 107 = .ok (.getfield 10, 3) := by decide +kernel
theorem dX5_doWork_110 : decode cX5_doWork 110 = .ok (.aload_n 0, 1) := by decide +kernel
theorem dX5_doWork_111 : decode cX5_doWork 111 = .ok (.getfield 32, 3) := by decide +kernel
theorem dX5_doWork_114 : decode cX5_doWork 114 = .ok (.getfield 226, 3) := by decide +kernel
theorem dX5_doWork_117 : decode cX5_doWork 117 = .ok (.invokevirtual 92, 3) := by decide +kernel
theorem dX5_doWork_120 : decode cX5_doWork 120 = .ok (.pop, 1) := by decide +kernel
theorem dX5_doWork_121 : decode cX5_doWork 121 = .ok (.iconst 1, 1) := by decide +kernel
theorem dX5_doWork_122 : decode cX5_doWork 122 = .ok (.ireturn, 1) := by decide +kernel
theorem dX5_doWork_123 : decode cX5_doWork 123 = .ok (.aload_n 0, 1) := by decide +kernel
theorem dX5_doWork_124 : decode cX5_doWork 124 = .ok (.aload_n 0, 1) := by decide +kernel
theorem dX5_doWork_125 : decode cX5_doWork 125 = .ok (.getfield 10, 3) := by decide +kernel
theorem dX5_doWork_128 : decode cX5_doWork 128 = .ok (.aload_n 0, 1) := by decide +kernel
theorem dX5_doWork_129 : decode cX5_doWork 129 = .ok (.getfield 32, 3) := by decide +kernel
theorem dX5_doWork_132 : decode cX5_doWork 132 = .ok (.getfield 229, 3) := by decide +kernel
theorem dX5_doWork_135 : decode cX5_doWork 135 = .ok (.invokevirtual 58, 3) := by decide +kernel
theorem dX5_doWork_138 : decode cX5_doWork 138 = .ok (.invokevirtual 232, 3) := by decide +kernel
theorem dX5_doWork_141 : decode cX5_doWork 141 = .ok (.ireturn, 1) := by decide +kernel
theorem dX5_workOnFace_0 : decode cX5_workOnFace 0 = .ok (.aload_n 1, 1) := by decide +kernel
theorem dX5_workOnFace_1 : decode cX5_workOnFace 1 = .ok (.ifnonnull 5, 3) := by decide +kernel
theorem dX5_workOnFace_4 : decode cX5_workOnFace 4 = .ok (.iconst 0, 1) := by decide +kernel
theorem dX5_workOnFace_5 : decode cX5_workOnFace 5 = .ok (.ireturn, 1) := by decide +kernel
theorem dX5_workOnFace_6 : decode cX5_workOnFace 6 = .ok (.aload_n 0, 1) := by decide +kernel
theorem dX5_workOnFace_7 : decode cX5_workOnFace 7 = .ok (.getfield 32, 3) := by decide +kernel
theorem dX5_workOnFace_10 : decode cX5_workOnFace 10 = .ok (.getfield 220, 3) := by decide +kernel
theorem dX5_workOnFace_13 : decode cX5_workOnFace 13 = .ok (.lookupswitch 76 #[(98, 58), (102, 35), (111, 52)], 35) := by decide +kernel
theorem dX5_workOnFace_48 : decode cX5_workOnFace 48 = .ok (.aload_n 1, 1) := by decide +kernel
theorem dX5_workOnFace_49 : decode cX5_workOnFace 49 = .ok (.aload_n 0, 1) := by decide +kernel
theorem dX5_workOnFace_50 : decode cX5_workOnFace 50 = .ok (.getfield 32, 3) := by decide +kernel
theorem dX5_workOnFace_53 : decode cX5_workOnFace 53 = .ok (.getfield 223, 3) := by decide +kernel
theorem dX5_workOnFace_56 : decode cX5_workOnFace 56 = .ok (.sipush 720, 3) := by decide +kernel
theorem dX5_workOnFace_59 : decode cX5_workOnFace 59 = .ok (.irem, 1) := by decide +kernel
theorem dX5_workOnFace_60 : decode cX5_workOnFace 60 = .ok (.putfield 77, 3) := by decide +kernel
theorem dX5_workOnFace_63 : decode cX5_workOnFace 63 = .ok (.iconst 1, 1) := by decide +kernel
theorem dX5_workOnFace_64 : decode cX5_workOnFace 64 = .ok (.ireturn, 1) := by decide +kernel
theorem dX5_workOnFace_65 : decode cX5_workOnFace 65 = .ok (.aload_n 1, 1) := by decide +kernel
theorem dX5_workOnFace_66 : decode cX5_workOnFace 66 = .ok (.invokevirtual 71, 3) := by decide +kernel
theorem dX5_workOnFace_69 : decode cX5_workOnFace 69 = .ok (.iconst 1, 1) := by decide +kernel
theorem dX5_workOnFace_70 : decode cX5_workOnFace 70 = .ok (.ireturn, 1) := by decide +kernel
theorem dX5_workOnFace_71 : decode cX5_workOnFace 71 = .ok (.aload_n 1, 1) := by decide +kernel
theorem dX5_workOnFace_72 : decode cX5_workOnFace 72 = .ok (.aload_n 1, 1) := by decide +kernel
theorem dX5_workOnFace_73 : decode cX5_workOnFace 73 = .ok (.getfield 84, 3) := by decide +kernel
theorem dX5_workOnFace_76 : decode cX5_workOnFace 76 = .ok (.ifCond .ne 7, 3) := by decide +kernel
theorem dX5_workOnFace_79 : decode cX5_workOnFace 79 = .ok (.iconst 1, 1) := by decide +kernel
theorem dX5_workOnFace_80 : decode cX5_workOnFace 80 = .ok (.goto 4, 3) := by decide +kernel
theorem dX5_workOnFace_83 : decode cX5_workOnFace 83 = .ok (.iconst 0, 1) := by decide +kernel
theorem dX5_workOnFace_84 : decode cX5_workOnFace 84 = .ok (.putfield 84, 3) := by decide +kernel
theorem dX5_workOnFace_87 : decode cX5_workOnFace 87 = .ok (.iconst 1, 1) := by decide +kernel
theorem dX5_workOnFace_88 : decode cX5_workOnFace 88 = .ok (.ireturn, 1) := by decide +kernel
theorem dX5_workOnFace_89 : decode cX5_workOnFace 89 = .ok (.iconst 0, 1) := by decide +kernel
theorem dX5_workOnFace_90 : decode cX5_workOnFace 90 = .ok (.ireturn, 1) := by decide +kernel
theorem dX5_undo_0 : decode cX5_undo 0 = .ok (.aload_n 0, 1) := by decide +kernel
theorem dX5_undo_1 : decode cX5_undo 1 = .ok (.getfield 25, 3) := by decide +kernel
theorem dX5_undo_4 : decode cX5_undo 4 = .ok (.getfield 236, 3) := by decide +kernel
theorem dX5_undo_7 : decode cX5_undo 7 = .ok (.ifCond .ne 7, 3) := by decide +kernel
theorem dX5_undo_10 : decode cX5_undo 10 = .ok (.sipush (-1003), 3) := by decide +kernel
theorem dX5_undo_13 : decode cX5_undo 13 = .ok (.ireturn, 1) := by decide +kernel
theorem dX5_undo_14 : decode cX5_undo 14 = .ok (.aload_n 0, 1) := by decide +kernel
theorem dX5_undo_15 : decode cX5_undo 15 = .ok (.getfield 25, 3) := by decide +kernel
theorem dX5_undo_18 : decode cX5_undo 18 = .ok (.aload_n 0, 1) := by decide +kernel
theorem dX5_undo_19 : decode cX5_undo 19 = .ok (.getfield 10, 3) := by decide +kernel
theorem dX5_undo_22 : decode cX5_undo 22 = .ok (.invokevirtual 237, 3) := by decide +kernel
theorem dX5_undo_25 : decode cX5_undo 25 = .ok (.aload_n 0, 1) := by decide +kernel
theorem dX5_undo_26 : decode cX5_undo 26 = .ok (.getfield 25, 3) := by decide +kernel
theorem dX5_undo_29 : decode cX5_undo 29 = .ok (.getfield 236, 3) := by decide +kernel
theorem dX5_undo_32 : decode cX5_undo 32 = .ok (.ireturn, 1) := by decide +kernel
theorem dX5_save_0 : decode cX5_save 0 = .ok (.aload_n 0, 1) := by decide +kernel
theorem dX5_save_1 : decode cX5_save 1 = .ok (.getfield 19, 3) := by decide +kernel
theorem dX5_save_4 : decode cX5_save 4 = .ok (.aload_n 0, 1) := by decide +kernel
theorem dX5_save_5 : decode cX5_save 5 = .ok (.getfield 10, 3) := by decide +kernel
theorem dX5_save_8 : decode cX5_save 8 = .ok (.invokevirtual 185, 3) := by decide +kernel
theorem dX5_save_11 : decode cX5_save 11 = .ok (.aload_n 0, 1) := by decide +kernel
theorem dX5_save_12 : decode cX5_save 12 = .ok (.iconst 1, 1) := by decide +kernel
theorem dX5_save_13 : decode cX5_save 13 = .ok (.putfield 240, 3) := by decide +kernel
theorem dX5_save_16 : decode cX5_save 16 = .ok (.aload_n 0, 1) := by decide +kernel
theorem dX5_save_17 : decode cX5_save 17 = .ok (.getfield 10, 3) := by decide +kernel
theorem dX5_save_20 : decode cX5_save 20 = .ok (.getfield 142, 3) := by decide +kernel
theorem dX5_save_23 : decode cX5_save 23 = .ok (.ireturn, 1) := by decide +kernel
theorem dX5_restore_0 : decode cX5_restore 0 = .ok (.aload_n 0, 1) := by decide +kernel
theorem dX5_restore_1 : decode cX5_restore 1 = .ok (.getfield 240, 3) := by decide +kernel
theorem dX5_restore_4 : decode cX5_restore 4 = .ok (.ifCond .ne 7, 3) := by decide +kernel
theorem dX5_restore_7 : decode cX5_restore 7 = .ok (.sipush (-1003), 3) := by decide +kernel
theorem dX5_restore_10 : decode cX5_restore 10 = .ok (.ireturn, 1) := by decide +kernel
theorem dX5_restore_11 : decode cX5_restore 11 = .ok (.aload_n 0, 1) := by decide +kernel
theorem dX5_restore_12 : decode cX5_restore 12 = .ok (.getfield 25, 3) := by decide +kernel
theorem dX5_restore_15 : decode cX5_restore 15 = .ok (.aload_n 0, 1) := by decide +kernel
theorem dX5_restore_16 : decode cX5_restore 16 = .ok (.getfield 10, 3) := by decide +kernel
theorem dX5_restore_19 : decode cX5_restore 19 = .ok (.invokevirtual 51, 3) := by decide +kernel
theorem dX5_restore_22 : decode cX5_restore 22 = .ok (.aload_n 0, 1) := by decide +kernel
theorem dX5_restore_23 : decode cX5_restore 23 = .ok (.getfield 10, 3) := by decide +kernel
theorem dX5_restore_26 : decode cX5_restore 26 = .ok (.aload_n 0, 1) := by decide +kernel
theorem dX5_restore_27 : decode cX5_restore 27 = .ok (.getfield 19, 3) := by decide +kernel
theorem dX5_restore_30 : decode cX5_restore 30 = .ok (.invokevirtual 185, 3) := by decide +kernel
theorem dX5_restore_33 : decode cX5_restore 33 = .ok (.aload_n 0, 1) := by decide +kernel
theorem dX5_restore_34 : decode cX5_restore 34 = .ok (.getfield 10, 3) := by decide +kernel
theorem dX5_restore_37 : decode cX5_restore 37 = .ok (.getfield 142, 3) := by decide +kernel
theorem dX5_restore_40 : decode cX5_restore 40 = .ok (.ireturn, 1) := by decide +kernel
theorem dX5_isWithin_0 : decode cX5_isWithin 0 = .ok (.iload_n 0, 1) := by decide +kernel
theorem dX5_isWithin_1 : decode cX5_isWithin 1 = .ok (.iload_n 1, 1) := by decide +kernel
theorem dX5_isWithin_2 : decode cX5_isWithin 2 = .ok (.if_icmp .lt 12, 3) := by decide +kernel
theorem dX5_isWithin_5 : decode cX5_isWithin 5 = .ok (.iload_n 0, 1) := by decide +kernel
theorem dX5_isWithin_6 : decode cX5_isWithin 6 = .ok (.iload_n 2, 1) := by decide +kernel
theorem dX5_isWithin_7 : decode cX5_isWithin 7 = .ok (.if_icmp .gt 7, 3) := by decide +kernel
theorem dX5_isWithin_10 : decode cX5_isWithin 10 = .ok (.iconst 1, 1) := by decide +kernel
theorem dX5_isWithin_11 : decode cX5_isWithin 11 = .ok (.goto 4, 3) := by decide +kernel
theorem dX5_isWithin_14 : decode cX5_isWithin 14 = .ok (.iconst 0, 1) := by decide +kernel
theorem dX5_isWithin_15 : decode cX5_isWithin 15 = .ok (.ireturn, 1) := by decide +kernel
theorem dX5_isSetting_0 : decode cX5_isSetting 0 = .ok (.iload_n 0, 1) := by decide +kernel
theorem dX5_isSetting_1 : decode cX5_isSetting 1 = .ok (.iconst 0, 1) := by decide +kernel
theorem dX5_isSetting_2 : decode cX5_isSetting 2 = .ok (.iconst 2, 1) := by decide +kernel
theorem dX5_isSetting_3 : decode cX5_isSetting 3 = .ok (.invokestatic 47, 3) := by decide +kernel
theorem dX5_isSetting_6 : decode cX5_isSetting 6 = .ok (.ireturn, 1) := by decide +kernel
theorem dX5_distance_0 : decode cX5_distance 0 = .ok (.iload_n 0, 1) := by decide +kernel
theorem dX5_distance_1 : decode cX5_distance 1 = .ok (.iload_n 1, 1) := by decide +kernel
theorem dX5_distance_2 : decode cX5_distance 2 = .ok (.isub, 1) := by decide +kernel
theorem dX5_distance_3 : decode cX5_distance 3 = .ok (.invokestatic 243, 3) := by decide +kernel
theorem dX5_distance_6 : decode cX5_distance 6 = .ok (.istore_n 2, 1) := by decide +kernel
theorem dX5_distance_7 : decode cX5_distance 7 = .ok (.iload_n 2, 1) := by decide +kernel
theorem dX5_distance_8 : decode cX5_distance 8 = .ok (.sipush 720, 3) := by decide +kernel
theorem dX5_distance_11 : decode cX5_distance 11 = .ok (.iload_n 2, 1) := by decide +kernel
theorem dX5_distance_12 : decode cX5_distance 12 = .ok (.isub, 1) := by decide +kernel
theorem dX5_distance_13 : decode cX5_distance 13 = .ok (.invokestatic 248, 3) := by decide +kernel
theorem dX5_distance_16 : decode cX5_distance 16 = .ok (.ireturn, 1) := by decide +kernel
theorem dX5_strikesAt_0 : decode cX5_strikesAt 0 = .ok (.iload_n 0, 1) := by decide +kernel
theorem dX5_strikesAt_1 : decode cX5_strikesAt 1 = .ok (.bipush 60, 2) := by decide +kernel
theorem dX5_strikesAt_3 : decode cX5_strikesAt 3 = .ok (.if_icmp .ge 8, 3) := by decide +kernel
theorem dX5_strikesAt_6 : decode cX5_strikesAt 6 = .ok (.bipush 12, 2) := by decide +kernel
theorem dX5_strikesAt_8 : decode cX5_strikesAt 8 = .ok (.goto 7, 3) := by decide +kernel
theorem dX5_strikesAt_11 : decode cX5_strikesAt 11 = .ok (.iload_n 0, 1) := by decide +kernel
theorem dX5_strikesAt_12 : decode cX5_strikesAt 12 = .ok (.bipush 60, 2) := by decide +kernel
theorem dX5_strikesAt_14 : decode cX5_strikesAt 14 = .ok (.idiv, 1) := by decide +kernel
theorem dX5_strikesAt_15 : decode cX5_strikesAt 15 = .ok (.ireturn, 1) := by decide +kernel
theorem dX6_init_0 : decode cX6_init 0 = .ok (.aload_n 0, 1) := by decide +kernel
theorem dX6_init_1 : decode cX6_init 1 = .ok (.invokespecial 1, 3) := by decide +kernel
theorem dX6_init_4 : decode cX6_init 4 = .ok (.aload_n 0, 1) := by decide +kernel
theorem dX6_init_5 : decode cX6_init 5 = .ok (.bipush 48, 2) := by decide +kernel
theorem dX6_init_7 : decode cX6_init 7 = .ok (.newarray .int, 2) := by decide +kernel
theorem dX6_init_9 : decode cX6_init 9 = .ok (.putfield 7, 3) := by decide +kernel
theorem dX6_init_12 : decode cX6_init 12 = .ok (.aload_n 0, 1) := by decide +kernel
theorem dX6_init_13 : decode cX6_init 13 = .ok (.sipush 240, 3) := by decide +kernel
theorem dX6_init_16 : decode cX6_init 16 = .ok (.newarray .int, 2) := by decide +kernel
theorem dX6_init_18 : decode cX6_init 18 = .ok (.putfield 13, 3) := by decide +kernel
theorem dX6_init_21 : decode cX6_init 21 = .ok (.aload_n 0, 1) := by decide +kernel
theorem dX6_init_22 : decode cX6_init 22 = .ok (.bipush 48, 2) := by decide +kernel
theorem dX6_init_24 : decode cX6_init 24 = .ok (.newarray .int, 2) := by decide +kernel
theorem dX6_init_26 : decode cX6_init 26 = .ok (.putfield 16, 3) := by decide +kernel
theorem dX6_init_29 : decode cX6_init 29 = .ok (.aload_n 0, 1) := by decide +kernel
theorem dX6_init_30 : decode cX6_init 30 = .ok (.bipush 48, 2) := by decide +kernel
theorem dX6_init_32 : decode cX6_init 32 = .ok (.newarray .int, 2) := by decide +kernel
theorem dX6_init_34 : decode cX6_init 34 = .ok (.putfield 19, 3) := by decide +kernel
theorem dX6_init_37 : decode cX6_init 37 = .ok (.aload_n 0, 1) := by decide +kernel
theorem dX6_init_38 : decode cX6_init 38 = .ok (.bipush 60, 2) := by decide +kernel
theorem dX6_init_40 : decode cX6_init 40 = .ok (.newarray .char, 2) := by decide +kernel
theorem dX6_init_42 : decode cX6_init 42 = .ok (.putfield 22, 3) := by decide +kernel
theorem dX6_init_45 : decode cX6_init 45 = .ok (.aload_n 0, 1) := by decide +kernel
theorem dX6_init_46 : decode cX6_init 46 = .ok (.bipush 63, 2) := by decide +kernel
theorem dX6_init_48 : decode cX6_init 48 = .ok (.newarray .int, 2) := by decide +kernel
theorem dX6_init_50 : decode cX6_init 50 = .ok (.putfield 26, 3) := by decide +kernel
theorem dX6_init_53 : decode cX6_init 53 = .ok (.aload_n 0, 1) := by decide +kernel
theorem dX6_init_54 : decode cX6_init 54 = .ok (.getfield 7, 3) := by decide +kernel
theorem dX6_init_57 : decode cX6_init 57 = .ok (.iconst 1, 1) := by decide +kernel
theorem dX6_init_58 : decode cX6_init 58 = .ok (.iconst 3, 1) := by decide +kernel
theorem dX6_init_59 : decode cX6_init 59 = .ok (.iastore, 1) := by decide +kernel
theorem dX6_init_60 : decode cX6_init 60 = .ok (.aload_n 0, 1) := by decide +kernel
theorem dX6_init_61 : decode cX6_init 61 = .ok (.getfield 7, 3) := by decide +kernel
theorem dX6_init_64 : decode cX6_init 64 = .ok (.iconst 2, 1) := by decide +kernel
theorem dX6_init_65 : decode cX6_init 65 = .ok (.iconst 1, 1) := by decide +kernel
theorem dX6_init_66 : decode cX6_init 66 = .ok (.iastore, 1) := by decide +kernel
theorem dX6_init_67 : decode cX6_init 67 = .ok (.aload_n 0, 1) := by decide +kernel
theorem dX6_init_68 : decode cX6_init 68 = .ok (.getfield 7, 3) := by decide +kernel
theorem dX6_init_71 : decode cX6_init 71 = .ok (.iconst 3, 1) := by decide +kernel
theorem dX6_init_72 : decode cX6_init 72 = .ok (.sipush 600, 3) := by decide +kernel
theorem dX6_init_75 : decode cX6_init 75 = .ok (.iastore, 1) := by decide +kernel
theorem dX6_init_76 : decode cX6_init 76 = .ok (.iconst 0, 1) := by decide +kernel
theorem dX6_init_77 : decode cX6_init 77 = .ok (.istore_n 1, 1) := by decide +kernel
theorem dX6_init_78 : decode cX6_init 78 = .ok (.iload_n 1, 1) := by decide +kernel
theorem dX6_init_79 : decode cX6_init 79 = .ok (.iconst 4, 1) := by decide +kernel
theorem dX6_init_80 : decode cX6_init 80 = .ok (.if_icmp .ge 22, 3) := by decide +kernel
theorem dX6_init_83 : decode cX6_init 83 = .ok (.aload_n 0, 1) := by decide +kernel
theorem dX6_init_84 : decode cX6_init 84 = .ok (.iload_n 1, 1) := by decide +kernel
theorem dX6_init_85 : decode cX6_init 85 = .ok (.iconst 1, 1) := by decide +kernel
theorem dX6_init_86 : decode cX6_init 86 = .ok (.bipush 20, 2) := by decide +kernel
theorem dX6_init_88 : decode cX6_init 88 = .ok (.bipush 10, 2) := by decide +kernel
theorem dX6_init_90 : decode cX6_init 90 = .ok (.iload_n 1, 1) := by decide +kernel
theorem dX6_init_91 : decode cX6_init 91 = .ok (.imul, 1) := by decide +kernel
theorem dX6_init_92 : decode cX6_init 92 = .ok (.iadd, 1) := by decide +kernel
theorem dX6_init_93 : decode cX6_init 93 = .ok (.invokevirtual 29, 3) := by decide +kernel
theorem dX6_init_96 : decode cX6_init 96 = .ok (.iinc 1 1, 3) := by decide +kernel
theorem dX6_init_99 : decode cX6_init 99 = .ok (.goto (-21), 3) := by decide +kernel
theorem dX6_init_102 : decode cX6_init 102 = .ok (.aload_n 0, 1) := by decide +kernel
theorem dX6_init_103 : decode cX6_init 103 = .ok (.iconst 0, 1) := by decide +kernel
theorem dX6_init_104 : decode cX6_init 104 = .ok (.iconst 5, 1) := by decide +kernel
theorem dX6_init_105 : decode cX6_init 105 = .ok (.iconst 1, 1) := by decide +kernel
theorem dX6_init_106 : decode cX6_init 106 = .ok (.invokevirtual 29, 3) := by decide +kernel
theorem dX6_init_109 : decode cX6_init 109 = .ok (.return_, 1) := by decide +kernel
theorem dX6_in_0 : decode cX6_in 0 = .ok (.iload_n 0, 1) := by decide +kernel
theorem dX6_in_1 : decode cX6_in 1 = .ok (.iload_n 1, 1) := by decide +kernel
theorem dX6_in_2 : decode cX6_in 2 = .ok (.if_icmp .lt 12, 3) := by decide +kernel
theorem dX6_in_5 : decode cX6_in 5 = .ok (.iload_n 0, 1) := by decide +kernel
theorem dX6_in_6 : decode cX6_in 6 = .ok (.iload_n 2, 1) := by decide +kernel
theorem dX6_in_7 : decode cX6_in 7 = .ok (.if_icmp .gt 7, 3) := by decide +kernel
theorem dX6_in_10 : decode cX6_in 10 = .ok (.iconst 1, 1) := by decide +kernel
theorem dX6_in_11 : decode cX6_in 11 = .ok (.goto 4, 3) := by decide +kernel
theorem dX6_in_14 : decode cX6_in 14 = .ok (.iconst 0, 1) := by decide +kernel
theorem dX6_in_15 : decode cX6_in 15 = .ok (.ireturn, 1) := by decide +kernel
theorem dX6_isFace_0 : decode cX6_isFace 0 = .ok (.iload_n 0, 1) := by decide +kernel
theorem dX6_isFace_1 : decode cX6_isFace 1 = .ok (.iconst 0, 1) := by decide +kernel
theorem dX6_isFace_2 : decode cX6_isFace 2 = .ok (.iconst 3, 1) := by decide +kernel
theorem dX6_isFace_3 : decode cX6_isFace 3 = .ok (.invokestatic 33, 3) := by decide +kernel
theorem dX6_isFace_6 : decode cX6_isFace 6 = .ok (.ireturn, 1) := by decide +kernel
theorem dX6_of_0 : decode cX6_of 0 = .ok (.aload_n 0, 1) := by decide +kernel
theorem dX6_of_1 : decode cX6_of 1 = .ok (.getfield 7, 3) := by decide +kernel
theorem dX6_of_4 : decode cX6_of 4 = .ok (.bipush 8, 2) := by decide +kernel
theorem dX6_of_6 : decode cX6_of 6 = .ok (.bipush 7, 2) := by decide +kernel
theorem dX6_of_8 : decode cX6_of 8 = .ok (.iload_n 1, 1) := by decide +kernel
theorem dX6_of_9 : decode cX6_of 9 = .ok (.imul, 1) := by decide +kernel
theorem dX6_of_10 : decode cX6_of 10 = .ok (.iadd, 1) := by decide +kernel
theorem dX6_of_11 : decode cX6_of 11 = .ok (.iload_n 2, 1) := by decide +kernel
theorem dX6_of_12 : decode cX6_of 12 = .ok (.iadd, 1) := by decide +kernel
theorem dX6_of_13 : decode cX6_of 13 = .ok (.iaload, 1) := by decide +kernel
theorem dX6_of_14 : decode cX6_of 14 = .ok (.ireturn, 1) := by decide +kernel
theorem dX6_lays_0 : decode cX6_lays 0 = .ok (.aload_n 0, 1) := by decide +kernel
theorem dX6_lays_1 : decode cX6_lays 1 = .ok (.getfield 7, 3) := by decide +kernel
theorem dX6_lays_4 : decode cX6_lays 4 = .ok (.bipush 8, 2) := by decide +kernel
theorem dX6_lays_6 : decode cX6_lays 6 = .ok (.bipush 7, 2) := by decide +kernel
theorem dX6_lays_8 : decode cX6_lays 8 = .ok (.iload_n 1, 1) := by decide +kernel
theorem dX6_lays_9 : decode cX6_lays 9 = .ok (.imul, 1) := by decide +kernel
theorem dX6_lays_10 : decode cX6_lays 10 = .ok (.iadd, 1) := by decide +kernel
theorem dX6_lays_11 : decode cX6_lays 11 = .ok (.iload_n 2, 1) := by decide +kernel
theorem dX6_lays_12 : decode cX6_lays 12 = .ok (.iadd, 1) := by decide +kernel
theorem dX6_lays_13 : decode cX6_lays 13 = .ok (.iload_n 3, 1) := by decide +kernel
theorem dX6_lays_14 : decode cX6_lays 14 = .ok (.iastore, 1) := by decide +kernel
theorem dX6_lays_15 : decode cX6_lays 15 = .ok (.return_, 1) := by decide +kernel
theorem dX6_distance_0 : decode cX6_distance 0 = .ok (.iload_n 0, 1) := by decide +kernel
theorem dX6_distance_1 : decode cX6_distance 1 = .ok (.iload_n 1, 1) := by decide +kernel
theorem dX6_distance_2 : decode cX6_distance 2 = .ok (.isub, 1) := by decide +kernel
theorem dX6_distance_3 : decode cX6_distance 3 = .ok (.sipush 720, 3) := by decide +kernel
theorem dX6_distance_6 : decode cX6_distance 6 = .ok (.iadd, 1) := by decide +kernel
theorem dX6_distance_7 : decode cX6_distance 7 = .ok (.sipush 720, 3) := by decide +kernel
theorem dX6_distance_10 : decode cX6_distance 10 = .ok (.irem, 1) := by decide +kernel
theorem dX6_distance_11 : decode cX6_distance 11 = .ok (.istore_n 2, 1) := by decide +kernel
theorem dX6_distance_12 : decode cX6_distance 12 = .ok (.iload_n 2, 1) := by decide +kernel
theorem dX6_distance_13 : decode cX6_distance 13 = .ok (.sipush 360, 3) := by decide +kernel
theorem dX6_distance_16 : decode cX6_distance 16 = .ok (.if_icmp .gt 7, 3) := by decide +kernel
theorem dX6_distance_19 : decode cX6_distance 19 = .ok (.iload_n 2, 1) := by decide +kernel
theorem dX6_distance_20 : decode cX6_distance 20 = .ok (.goto 8, 3) := by decide +kernel
theorem dX6_distance_23 : decode cX6_distance 23 = .ok (.sipush 720, 3) := by decide +kernel
theorem dX6_distance_26 : decode cX6_distance 26 = .ok (.iload_n 2, 1) := by decide +kernel
theorem dX6_distance_27 : decode cX6_distance 27 = .ok (.isub, 1) := by decide +kernel
theorem dX6_distance_28 : decode cX6_distance 28 = .ok (.ireturn, 1) := by decide +kernel
theorem dX6_record_0 : decode cX6_record 0 = .ok (.aload_n 0, 1) := by decide +kernel
theorem dX6_record_1 : decode cX6_record 1 = .ok (.getfield 37, 3) := by decide +kernel
theorem dX6_record_4 : decode cX6_record 4 = .ok (.iconst 5, 1) := by decide +kernel
theorem dX6_record_5 : decode cX6_record 5 = .ok (.if_icmp .ne 43, 3) := by decide +kernel
theorem dX6_record_8 : decode cX6_record 8 = .ok (.iconst 0, 1) := by decide +kernel
theorem dX6_record_9 : decode cX6_record 9 = .ok (.istore_n 1, 1) := by decide +kernel
theorem dX6_record_10 : decode cX6_record 10 = .ok (.iload_n 1, 1) := by decide +kernel
theorem dX6_record_11 : decode cX6_record 11 = .ok (.sipush 192, 3) := by decide +kernel
theorem dX6_record_14 : decode cX6_record 14 = .ok (.if_icmp .ge 24, 3) := by decide +kernel
theorem dX6_record_17 : decode cX6_record 17 = .ok (.aload_n 0, 1) := by decide +kernel
theorem dX6_record_18 : decode cX6_record 18 = .ok (.getfield 13, 3) := by decide +kernel
theorem dX6_record_21 : decode cX6_record 21 = .ok (.iload_n 1, 1) := by decide +kernel
theorem dX6_record_22 : decode cX6_record 22 = .ok (.aload_n 0, 1) := by decide +kernel
theorem dX6_record_23 : decode cX6_record 23 = .ok (.getfield 13, 3) := by decide +kernel
theorem dX6_record_26 : decode cX6_record 26 = .ok (.iload_n 1, 1) := by decide +kernel
theorem dX6_record_27 : decode cX6_record 27 = .ok (.bipush 48, 2) := by decide +kernel
theorem dX6_record_29 : decode cX6_record 29 = .ok (.iadd, 1) := by decide +kernel
theorem dX6_record_30 : decode cX6_record 30 = .ok (.iaload, 1) := by decide +kernel
theorem dX6_record_31 : decode cX6_record 31 = .ok (.iastore, 1) := by decide +kernel
theorem dX6_record_32 : decode cX6_record 32 = .ok (.iinc 1 1, 3) := by decide +kernel
theorem dX6_record_35 : decode cX6_record 35 = .ok (.goto (-25), 3) := by decide +kernel
theorem dX6_record_38 : decode cX6_record 38 = .ok (.aload_n 0, 1) := by decide +kernel
theorem dX6_record_39 : decode cX6_record 39 = .ok (.dup, 1) := by decide +kernel
theorem dX6_record_40 : decode cX6_record 40 = .ok (.getfield 37, 3) := by decide +kernel
theorem dX6_record_43 : decode cX6_record 43 = .ok (.iconst 1, 1) := by decide +kernel
theorem dX6_record_44 : decode cX6_record 44 = .ok (.isub, 1) := by decide +kernel
theorem dX6_record_45 : decode cX6_record 45 = .ok (.putfield 37, 3) := by decide +kernel
theorem dX6_record_48 : decode cX6_record 48 = .ok (.iconst 0, 1) := by decide +kernel
theorem dX6_record_49 : decode cX6_record 49 = .ok (.istore_n 1, 1) := by decide +kernel
theorem dX6_record_50 : decode cX6_record 50 = .ok (.iload_n 1, 1) := by decide +kernel
theorem dX6_record_51 : decode cX6_record 51 = .ok (.bipush 48, 2) := by decide +kernel
theorem dX6_record_53 : decode cX6_record 53 = .ok (.if_icmp .ge 29, 3) := by decide +kernel
theorem dX6_record_56 : decode cX6_record 56 = .ok (.aload_n 0, 1) := by decide +kernel
theorem dX6_record_57 : decode cX6_record 57 = .ok (.getfield 13, 3) := by decide +kernel
theorem dX6_record_60 : decode cX6_record 60 = .ok (.aload_n 0, 1) := by decide +kernel
theorem dX6_record_61 : decode cX6_record 61 = .ok (.getfield 37, 3) := by decide +kernel
theorem dX6_record_64 : decode cX6_record 64 = .ok (.bipush 48, 2) := by decide +kernel
theorem dX6_record_66 : decode cX6_record 66 = .ok (.imul, 1) := by decide +kernel
theorem dX6_record_67 : decode cX6_record 67 = .ok (.iload_n 1, 1) := by decide +kernel
theorem dX6_record_68 : decode cX6_record 68 = .ok (.iadd, 1) := by decide +kernel
theorem dX6_record_69 : decode cX6_record 69 = .ok (.aload_n 0, 1) := by decide +kernel
theorem dX6_record_70 : decode cX6_record 70 = .ok (.getfield 7, 3) := by decide +kernel
theorem dX6_record_73 : decode cX6_record 73 = .ok (.iload_n 1, 1) := by decide +kernel
theorem dX6_record_74 : decode cX6_record 74 = .ok (.iaload, 1) := by decide +kernel
theorem dX6_record_75 : decode cX6_record 75 = .ok (.iastore, 1) := by decide +kernel
theorem dX6_record_76 : decode cX6_record 76 = .ok (.iinc 1 1, 3) := by decide +kernel
theorem dX6_record_79 : decode cX6_record 79 = .ok (.goto (-29), 3) := by decide +kernel
theorem dX6_record_82 : decode cX6_record 82 = .ok (.aload_n 0, 1) := by decide +kernel
theorem dX6_record_83 : decode cX6_record 83 = .ok (.dup, 1) := by decide +kernel
theorem dX6_record_84 : decode cX6_record 84 = .ok (.getfield 37, 3) := by decide +kernel
theorem dX6_record_87 : decode cX6_record 87 = .ok (.iconst 1, 1) := by decide +kernel
theorem dX6_record_88 : decode cX6_record 88 = .ok (.iadd, 1) := by decide +kernel
theorem dX6_record_89 : decode cX6_record 89 = .ok (.putfield 37, 3) := by decide +kernel
theorem dX6_record_92 : decode cX6_record 92 = .ok (.return_, 1) := by decide +kernel
theorem dX6_undo_0 : decode cX6_undo 0 = .ok (.aload_n 0, 1) := by decide +kernel
theorem dX6_undo_1 : decode cX6_undo 1 = .ok (.getfield 37, 3) := by decide +kernel
theorem dX6_undo_4 : decode cX6_undo 4 = .ok (.ifCond .ne 7, 3) := by decide +kernel
theorem dX6_undo_7 : decode cX6_undo 7 = .ok (.sipush (-1003), 3) := by decide +kernel
theorem dX6_undo_10 : decode cX6_undo 10 = .ok (.ireturn, 1) := by decide +kernel
theorem dX6_undo_11 : decode cX6_undo 11 = .ok (.aload_n 0, 1) := by decide +kernel
theorem dX6_undo_12 : decode cX6_undo 12 = .ok (.dup, 1) := by decide +kernel
theorem dX6_undo_13 : decode cX6_undo 13 = .ok (.getfield 37, 3) := by decide +kernel
theorem dX6_undo_16 : decode cX6_undo 16 = .ok (.iconst 1, 1) := by decide +kernel
theorem dX6_undo_17 : decode cX6_undo 17 = .ok (.isub, 1) := by decide +kernel
theorem dX6_undo_18 : decode cX6_undo 18 = .ok (.putfield 37, 3) := by decide +kernel
theorem dX6_undo_21 : decode cX6_undo 21 = .ok (.iconst 0, 1) := by decide +kernel
theorem dX6_undo_22 : decode cX6_undo 22 = .ok (.istore_n 1, 1) := by decide +kernel
theorem dX6_undo_23 : decode cX6_undo 23 = .ok (.iload_n 1, 1) := by decide +kernel
theorem dX6_undo_24 : decode cX6_undo 24 = .ok (.bipush 48, 2) := by decide +kernel
theorem dX6_undo_26 : decode cX6_undo 26 = .ok (.if_icmp .ge 29, 3) := by decide +kernel
theorem dX6_undo_29 : decode cX6_undo 29 = .ok (.aload_n 0, 1) := by decide +kernel
theorem dX6_undo_30 : decode cX6_undo 30 = .ok (.getfield 7, 3) := by decide +kernel
theorem dX6_undo_33 : decode cX6_undo 33 = .ok (.iload_n 1, 1) := by decide +kernel
theorem dX6_undo_34 : decode cX6_undo 34 = .ok (.aload_n 0, 1) := by decide +kernel
theorem dX6_undo_35 : decode cX6_undo 35 = .ok (.getfield 13, 3) := by decide +kernel
theorem dX6_undo_38 : decode cX6_undo 38 = .ok (.aload_n 0, 1) := by decide +kernel
theorem dX6_undo_39 : decode cX6_undo 39 = .ok (.getfield 37, 3) := by decide +kernel
theorem dX6_undo_42 : decode cX6_undo 42 = .ok (.bipush 48, 2) := by decide +kernel
theorem dX6_undo_44 : decode cX6_undo 44 = .ok (.imul, 1) := by decide +kernel
theorem dX6_undo_45 : decode cX6_undo 45 = .ok (.iload_n 1, 1) := by decide +kernel
theorem dX6_undo_46 : decode cX6_undo 46 = .ok (.iadd, 1) := by decide +kernel
theorem dX6_undo_47 : decode cX6_undo 47 = .ok (.iaload, 1) := by decide +kernel
theorem dX6_undo_48 : decode cX6_undo 48 = .ok (.iastore, 1) := by decide +kernel
theorem dX6_undo_49 : decode cX6_undo 49 = .ok (.iinc 1 1, 3) := by decide +kernel
theorem dX6_undo_52 : decode cX6_undo 52 = .ok (.goto (-29), 3) := by decide +kernel
theorem dX6_undo_55 : decode cX6_undo 55 = .ok (.aload_n 0, 1) := by decide +kernel
theorem dX6_undo_56 : decode cX6_undo 56 = .ok (.getfield 37, 3) := by decide +kernel
theorem dX6_undo_59 : decode cX6_undo 59 = .ok (.ireturn, 1) := by decide +kernel
theorem dX6_save_0 : decode cX6_save 0 = .ok (.aload_n 0, 1) := by decide +kernel
theorem dX6_save_1 : decode cX6_save 1 = .ok (.iconst 1, 1) := by decide +kernel
theorem dX6_save_2 : decode cX6_save 2 = .ok (.putfield 41, 3) := by decide +kernel
theorem dX6_save_5 : decode cX6_save 5 = .ok (.iconst 0, 1) := by decide +kernel
theorem dX6_save_6 : decode cX6_save 6 = .ok (.istore_n 1, 1) := by decide +kernel
theorem dX6_save_7 : decode cX6_save 7 = .ok (.iload_n 1, 1) := by decide +kernel
theorem dX6_save_8 : decode cX6_save 8 = .ok (.bipush 48, 2) := by decide +kernel
theorem dX6_save_10 : decode cX6_save 10 = .ok (.if_icmp .ge 21, 3) := by decide +kernel
theorem dX6_save_13 : decode cX6_save 13 = .ok (.aload_n 0, 1) := by decide +kernel
theorem dX6_save_14 : decode cX6_save 14 = .ok (.getfield 16, 3) := by decide +kernel
theorem dX6_save_17 : decode cX6_save 17 = .ok (.iload_n 1, 1) := by decide +kernel
theorem dX6_save_18 : decode cX6_save 18 = .ok (.aload_n 0, 1) := by decide +kernel
theorem dX6_save_19 : decode cX6_save 19 = .ok (.getfield 7, 3) := by decide +kernel
theorem dX6_save_22 : decode cX6_save 22 = .ok (.iload_n 1, 1) := by decide +kernel
theorem dX6_save_23 : decode cX6_save 23 = .ok (.iaload, 1) := by decide +kernel
theorem dX6_save_24 : decode cX6_save 24 = .ok (.iastore, 1) := by decide +kernel
theorem dX6_save_25 : decode cX6_save 25 = .ok (.iinc 1 1, 3) := by decide +kernel
theorem dX6_save_28 : decode cX6_save 28 = .ok (.goto (-21), 3) := by decide +kernel
theorem dX6_save_31 : decode cX6_save 31 = .ok (.aload_n 0, 1) := by decide +kernel
theorem dX6_save_32 : decode cX6_save 32 = .ok (.getfield 7, 3) := by decide +kernel
theorem dX6_save_35 : decode cX6_save 35 = .ok (.iconst 0, 1) := by decide +kernel
theorem dX6_save_36 : decode cX6_save 36 = .ok (.iaload, 1) := by decide +kernel
theorem dX6_save_37 : decode cX6_save 37 = .ok (.ireturn, 1) := by decide +kernel
theorem dX6_restore_0 : decode cX6_restore 0 = .ok (.aload_n 0, 1) := by decide +kernel
theorem dX6_restore_1 : decode cX6_restore 1 = .ok (.getfield 41, 3) := by decide +kernel
theorem dX6_restore_4 : decode cX6_restore 4 = .ok (.ifCond .ne 7, 3) := by decide +kernel
theorem dX6_restore_7 : decode cX6_restore 7 = .ok (.sipush (-1003), 3) := by decide +kernel
theorem dX6_restore_10 : decode cX6_restore 10 = .ok (.ireturn, 1) := by decide +kernel
theorem dX6_restore_11 : decode cX6_restore 11 = .ok (.aload_n 0, 1) := by decide +kernel
theorem dX6_restore_12 : decode cX6_restore 12 = .ok (.invokevirtual 45, 3) := by decide +kernel
theorem dX6_restore_15 : decode cX6_restore 15 = .ok (.iconst 0, 1) := by decide +kernel
theorem dX6_restore_16 : decode cX6_restore 16 = .ok (.istore_n 1, 1) := by decide +kernel
theorem dX6_restore_17 : decode cX6_restore 17 = .ok (.iload_n 1, 1) := by decide +kernel
theorem dX6_restore_18 : decode cX6_restore 18 = .ok (.bipush 48, 2) := by decide +kernel
theorem dX6_restore_20 : decode cX6_restore 20 = .ok (.if_icmp .ge 21, 3) := by decide +kernel
theorem dX6_restore_23 : decode cX6_restore 23 = .ok (.aload_n 0, 1) := by decide +kernel
theorem dX6_restore_24 : decode cX6_restore 24 = .ok (.getfield 7, 3) := by decide +kernel
theorem dX6_restore_27 : decode cX6_restore 27 = .ok (.iload_n 1, 1) := by decide +kernel
theorem dX6_restore_28 : decode cX6_restore 28 = .ok (.aload_n 0, 1) := by decide +kernel
theorem dX6_restore_29 : decode cX6_restore 29 = .ok (.getfield 16, 3) := by decide +kernel
theorem dX6_restore_32 : decode cX6_restore 32 = .ok (.iload_n 1, 1) := by decide +kernel
theorem dX6_restore_33 : decode cX6_restore 33 = .ok (.iaload, 1) := by decide +kernel
theorem dX6_restore_34 : decode cX6_restore 34 = .ok (.iastore, 1) := by decide +kernel
theorem dX6_restore_35 : decode cX6_restore 35 = .ok (.iinc 1 1, 3) := by decide +kernel
theorem dX6_restore_38 : decode cX6_restore 38 = .ok (.goto (-21), 3) := by decide +kernel
theorem dX6_restore_41 : decode cX6_restore 41 = .ok (.aload_n 0, 1) := by decide +kernel
theorem dX6_restore_42 : decode cX6_restore 42 = .ok (.getfield 7, 3) := by decide +kernel
theorem dX6_restore_45 : decode cX6_restore 45 = .ok (.iconst 0, 1) := by decide +kernel
theorem dX6_restore_46 : decode cX6_restore 46 = .ok (.iaload, 1) := by decide +kernel
theorem dX6_restore_47 : decode cX6_restore 47 = .ok (.ireturn, 1) := by decide +kernel
theorem dX6_putAside_0 : decode cX6_putAside 0 = .ok (.iconst 0, 1) := by decide +kernel
theorem dX6_putAside_1 : decode cX6_putAside 1 = .ok (.istore_n 1, 1) := by decide +kernel
theorem dX6_putAside_2 : decode cX6_putAside 2 = .ok (.iload_n 1, 1) := by decide +kernel
theorem dX6_putAside_3 : decode cX6_putAside 3 = .ok (.bipush 48, 2) := by decide +kernel
theorem dX6_putAside_5 : decode cX6_putAside 5 = .ok (.if_icmp .ge 21, 3) := by decide +kernel
theorem dX6_putAside_8 : decode cX6_putAside 8 = .ok (.aload_n 0, 1) := by decide +kernel
theorem dX6_putAside_9 : decode cX6_putAside 9 = .ok (.getfield 19, 3) := by decide +kernel
theorem dX6_putAside_12 : decode cX6_putAside 12 = .ok (.iload_n 1, 1) := by decide +kernel
theorem dX6_putAside_13 : decode cX6_putAside 13 = .ok (.aload_n 0, 1) := by decide +kernel
theorem dX6_putAside_14 : decode cX6_putAside 14 = .ok (.getfield 7, 3) := by decide +kernel
theorem dX6_putAside_17 : decode cX6_putAside 17 = .ok (.iload_n 1, 1) := by decide +kernel
theorem dX6_putAside_18 : decode cX6_putAside 18 = .ok (.iaload, 1) := by decide +kernel
theorem dX6_putAside_19 : decode cX6_putAside 19 = .ok (.iastore, 1) := by decide +kernel
theorem dX6_putAside_20 : decode cX6_putAside 20 = .ok (.iinc 1 1, 3) := by decide +kernel
theorem dX6_putAside_23 : decode cX6_putAside 23 = .ok (.goto (-21), 3) := by decide +kernel
theorem dX6_putAside_26 : decode cX6_putAside 26 = .ok (.return_, 1) := by decide +kernel
theorem dX6_takeBack_0 : decode cX6_takeBack 0 = .ok (.iconst 0, 1) := by decide +kernel
theorem dX6_takeBack_1 : decode cX6_takeBack 1 = .ok (.istore_n 1, 1) := by decide +kernel
theorem dX6_takeBack_2 : decode cX6_takeBack 2 = .ok (.iload_n 1, 1) := by decide +kernel
theorem dX6_takeBack_3 : decode cX6_takeBack 3 = .ok (.bipush 48, 2) := by decide +kernel
theorem dX6_takeBack_5 : decode cX6_takeBack 5 = .ok (.if_icmp .ge 21, 3) := by decide +kernel
theorem dX6_takeBack_8 : decode cX6_takeBack 8 = .ok (.aload_n 0, 1) := by decide +kernel
theorem dX6_takeBack_9 : decode cX6_takeBack 9 = .ok (.getfield 7, 3) := by decide +kernel
theorem dX6_takeBack_12 : decode cX6_takeBack 12 = .ok (.iload_n 1, 1) := by decide +kernel
theorem dX6_takeBack_13 : decode cX6_takeBack 13 = .ok (.aload_n 0, 1) := by decide +kernel
theorem dX6_takeBack_14 : decode cX6_takeBack 14 = .ok (.getfield 19, 3) := by decide +kernel
theorem dX6_takeBack_17 : decode cX6_takeBack 17 = .ok (.iload_n 1, 1) := by decide +kernel
theorem dX6_takeBack_18 : decode cX6_takeBack 18 = .ok (.iaload, 1) := by decide +kernel
theorem dX6_takeBack_19 : decode cX6_takeBack 19 = .ok (.iastore, 1) := by decide +kernel
theorem dX6_takeBack_20 : decode cX6_takeBack 20 = .ok (.iinc 1 1, 3) := by decide +kernel
theorem dX6_takeBack_23 : decode cX6_takeBack 23 = .ok (.goto (-21), 3) := by decide +kernel
theorem dX6_takeBack_26 : decode cX6_takeBack 26 = .ok (.return_, 1) := by decide +kernel
theorem dX6_isInRange_0 : decode cX6_isInRange 0 = .ok (.iload_n 0, 1) := by decide +kernel
theorem dX6_isInRange_1 : decode cX6_isInRange 1 = .ok (.ifCond .ne 13, 3) := by decide +kernel
theorem dX6_isInRange_4 : decode cX6_isInRange 4 = .ok (.iload_n 1, 1) := by decide +kernel
theorem dX6_isInRange_5 : decode cX6_isInRange 5 = .ok (.iconst 1, 1) := by decide +kernel
theorem dX6_isInRange_6 : decode cX6_isInRange 6 = .ok (.bipush 9, 2) := by decide +kernel
theorem dX6_isInRange_8 : decode cX6_isInRange 8 = .ok (.invokestatic 33, 3) := by decide +kernel
theorem dX6_isInRange_11 : decode cX6_isInRange 11 = .ok (.goto 40, 3) := by decide +kernel
theorem dX6_isInRange_14 : decode cX6_isInRange 14 = .ok (.iload_n 0, 1) := by decide +kernel
theorem dX6_isInRange_15 : decode cX6_isInRange 15 = .ok (.iconst 1, 1) := by decide +kernel
theorem dX6_isInRange_16 : decode cX6_isInRange 16 = .ok (.if_icmp .ne 13, 3) := by decide +kernel
theorem dX6_isInRange_19 : decode cX6_isInRange 19 = .ok (.iload_n 1, 1) := by decide +kernel
theorem dX6_isInRange_20 : decode cX6_isInRange 20 = .ok (.iconst 0, 1) := by decide +kernel
theorem dX6_isInRange_21 : decode cX6_isInRange 21 = .ok (.bipush 60, 2) := by decide +kernel
theorem dX6_isInRange_23 : decode cX6_isInRange 23 = .ok (.invokestatic 33, 3) := by decide +kernel
theorem dX6_isInRange_26 : decode cX6_isInRange 26 = .ok (.goto 25, 3) := by decide +kernel
theorem dX6_isInRange_29 : decode cX6_isInRange 29 = .ok (.iload_n 0, 1) := by decide +kernel
theorem dX6_isInRange_30 : decode cX6_isInRange 30 = .ok (.iconst 2, 1) := by decide +kernel
theorem dX6_isInRange_31 : decode cX6_isInRange 31 = .ok (.if_icmp .ne 19, 3) := by decide +kernel
theorem dX6_isInRange_34 : decode cX6_isInRange 34 = .ok (.iload_n 1, 1) := by decide +kernel
theorem dX6_isInRange_35 : decode cX6_isInRange 35 = .ok (.bipush 100, 2) := by decide +kernel
theorem dX6_isInRange_37 : decode cX6_isInRange 37 = .ok (.sipush 5000, 3) := by decide +kernel
theorem dX6_isInRange_40 : decode cX6_isInRange 40 = .ok (.invokestatic 33, 3) := by decide +kernel
theorem dX6_isInRange_43 : decode cX6_isInRange 43 = .ok (.ifCond .eq 7, 3) := by decide +kernel
theorem dX6_isInRange_46 : decode cX6_isInRange 46 = .ok (.iconst 1, 1) := by decide +kernel
theorem dX6_isInRange_47 : decode cX6_isInRange 47 = .ok (.goto 4, 3) := by decide +kernel
theorem dX6_isInRange_50 : decode cX6_isInRange 50 = .ok (.iconst 0, 1) := by decide +kernel
theorem dX6_isInRange_51 : decode cX6_isInRange 51 = .ok (.ireturn, 1) := by decide +kernel
theorem dX6_set_0 : decode cX6_set 0 = .ok (.iload_n 1, 1) := by decide +kernel
theorem dX6_set_1 : decode cX6_set 1 = .ok (.iload_n 2, 1) := by decide +kernel
theorem dX6_set_2 : decode cX6_set 2 = .ok (.invokestatic 48, 3) := by decide +kernel
theorem dX6_set_5 : decode cX6_set 5 = .ok (.ifCond .ne 7, 3) := by decide +kernel
theorem dX6_set_8 : decode cX6_set 8 = .ok (.sipush (-1002), 3) := by decide +kernel
theorem dX6_set_11 : decode cX6_set 11 = .ok (.ireturn, 1) := by decide +kernel
theorem dX6_set_12 : decode cX6_set 12 = .ok (.aload_n 0, 1) := by decide +kernel
theorem dX6_set_13 : decode cX6_set 13 = .ok (.invokevirtual 45, 3) := by decide +kernel
theorem dX6_set_16 : decode cX6_set 16 = .ok (.aload_n 0, 1) := by decide +kernel
theorem dX6_set_17 : decode cX6_set 17 = .ok (.getfield 7, 3) := by decide +kernel
theorem dX6_set_20 : decode cX6_set 20 = .ok (.iconst 1, 1) := by decide +kernel
theorem dX6_set_21 : decode cX6_set 21 = .ok (.iload_n 1, 1) := by decide +kernel
theorem dX6_set_22 : decode cX6_set 22 = .ok (.iadd, 1) := by decide +kernel
theorem dX6_set_23 : decode cX6_set 23 = .ok (.iaload, 1) := by decide +kernel
theorem dX6_set_24 : decode cX6_set 24 = .ok (.istore_n 3, 1) := by decide +kernel
theorem dX6_set_25 : decode cX6_set 25 = .ok (.aload_n 0, 1) := by decide +kernel
theorem dX6_set_26 : decode cX6_set 26 = .ok (.getfield 7, 3) := by decide +kernel
theorem dX6_set_29 : decode cX6_set 29 = .ok (.iconst 1, 1) := by decide +kernel
theorem dX6_set_30 : decode cX6_set 30 = .ok (.iload_n 1, 1) := by decide +kernel
theorem dX6_set_31 : decode cX6_set 31 = .ok (.iadd, 1) := by decide +kernel
theorem dX6_set_32 : decode cX6_set 32 = .ok (.iload_n 2, 1) := by decide +kernel
theorem dX6_set_33 : decode cX6_set 33 = .ok (.iastore, 1) := by decide +kernel
theorem dX6_set_34 : decode cX6_set 34 = .ok (.iload_n 3, 1) := by decide +kernel
theorem dX6_set_35 : decode cX6_set 35 = .ok (.ireturn, 1) := by decide +kernel
theorem dX6_setting_0 : decode cX6_setting 0 = .ok (.iload_n 1, 1) := by decide +kernel
theorem dX6_setting_1 : decode cX6_setting 1 = .ok (.iconst 0, 1) := by decide +kernel
theorem dX6_setting_2 : decode cX6_setting 2 = .ok (.iconst 2, 1) := by decide +kernel
theorem dX6_setting_3 : decode cX6_setting 3 = .ok (.invokestatic 33, 3) := by decide +kernel
theorem dX6_setting_6 : decode cX6_setting 6 = .ok (.ifCond .eq 14, 3) := by decide +kernel
theorem dX6_setting_9 : decode cX6_setting 9 = .ok (.aload_n 0, 1) := by decide +kernel
theorem dX6_setting_10 : decode cX6_setting 10 = .ok (.getfield 7, 3) := by decide +kernel
theorem dX6_setting_13 : decode cX6_setting 13 = .ok (.iconst 1, 1) := by decide +kernel
theorem dX6_setting_14 : decode cX6_setting 14 = .ok (.iload_n 1, 1) := by decide +kernel
theorem dX6_setting_15 : decode cX6_setting 15 = .ok (.iadd, 1) := by decide +kernel
theorem dX6_setting_16 : decode cX6_setting 16 = .ok (.iaload, 1) := by decide +kernel
theorem dX6_setting_17 : decode cX6_setting 17 = .ok (.goto 6, 3) := by decide +kernel
theorem dX6_setting_20 : decode cX6_setting 20 = .ok (.sipush (-1002), 3) := by decide +kernel
theorem dX6_setting_23 : decode cX6_setting 23 = .ok (.ireturn, 1) := by decide +kernel
theorem dX6_gear_0 : decode cX6_gear 0 = .ok (.iload_n 1, 1) := by decide +kernel
theorem dX6_gear_1 : decode cX6_gear 1 = .ok (.invokestatic 52, 3) := by decide +kernel
theorem dX6_gear_4 : decode cX6_gear 4 = .ok (.ifCond .ne 7, 3) := by decide +kernel
theorem dX6_gear_7 : decode cX6_gear 7 = .ok (.sipush (-1001), 3) := by decide +kernel
theorem dX6_gear_10 : decode cX6_gear 10 = .ok (.ireturn, 1) := by decide +kernel
theorem dX6_gear_11 : decode cX6_gear 11 = .ok (.iload_n 2, 1) := by decide +kernel
theorem dX6_gear_12 : decode cX6_gear 12 = .ok (.bipush 10, 2) := by decide +kernel
theorem dX6_gear_14 : decode cX6_gear 14 = .ok (.bipush 60, 2) := by decide +kernel
theorem dX6_gear_16 : decode cX6_gear 16 = .ok (.invokestatic 33, 3) := by decide +kernel
theorem dX6_gear_19 : decode cX6_gear 19 = .ok (.ifCond .ne 7, 3) := by decide +kernel
theorem dX6_gear_22 : decode cX6_gear 22 = .ok (.sipush (-1002), 3) := by decide +kernel
theorem dX6_gear_25 : decode cX6_gear 25 = .ok (.ireturn, 1) := by decide +kernel
theorem dX6_gear_26 : decode cX6_gear 26 = .ok (.aload_n 0, 1) := by decide +kernel
theorem dX6_gear_27 : decode cX6_gear 27 = .ok (.invokevirtual 45, 3) := by decide +kernel
theorem dX6_gear_30 : decode cX6_gear 30 = .ok (.aload_n 0, 1) := by decide +kernel
theorem dX6_gear_31 : decode cX6_gear 31 = .ok (.iload_n 1, 1) := by decide +kernel
theorem dX6_gear_32 : decode cX6_gear 32 = .ok (.iconst 1, 1) := by decide +kernel
theorem dX6_gear_33 : decode cX6_gear 33 = .ok (.invokevirtual 56, 3) := by decide +kernel
theorem dX6_gear_36 : decode cX6_gear 36 = .ok (.istore_n 3, 1) := by decide +kernel
theorem dX6_gear_37 : decode cX6_gear 37 = .ok (.aload_n 0, 1) := by decide +kernel
theorem dX6_gear_38 : decode cX6_gear 38 = .ok (.iload_n 1, 1) := by decide +kernel
theorem dX6_gear_39 : decode cX6_gear 39 = .ok (.iconst 1, 1) := by decide +kernel
theorem dX6_gear_40 : decode cX6_gear 40 = .ok (.iload_n 2, 1) := by decide +kernel
theorem dX6_gear_41 : decode cX6_gear 41 = .ok (.invokevirtual 29, 3) := by decide +kernel
theorem dX6_gear_44 : decode cX6_gear 44 = .ok (.aload_n 0, 1) := by decide +kernel
theorem dX6_gear_45 : decode cX6_gear 45 = .ok (.iload_n 1, 1) := by decide +kernel
theorem dX6_gear_46 : decode cX6_gear 46 = .ok (.iconst 2, 1) := by decide +kernel
theorem dX6_gear_47 : decode cX6_gear 47 = .ok (.iconst 0, 1) := by decide +kernel
theorem dX6_gear_48 : decode cX6_gear 48 = .ok (.invokevirtual 29, 3) := by decide +kernel
theorem dX6_gear_51 : decode cX6_gear 51 = .ok (.iload_n 3, 1) := by decide +kernel
theorem dX6_gear_52 : decode cX6_gear 52 = .ok (.ireturn, 1) := by decide +kernel
theorem dX6_oils_0 : decode cX6_oils 0 = .ok (.aload_n 0, 1) := by decide +kernel
theorem dX6_oils_1 : decode cX6_oils 1 = .ok (.iload_n 1, 1) := by decide +kernel
theorem dX6_oils_2 : decode cX6_oils 2 = .ok (.iconst 3, 1) := by decide +kernel
theorem dX6_oils_3 : decode cX6_oils 3 = .ok (.aload_n 0, 1) := by decide +kernel
theorem dX6_oils_4 : decode cX6_oils 4 = .ok (.iload_n 1, 1) := by decide +kernel
theorem dX6_oils_5 : decode cX6_oils 5 = .ok (.iconst 3, 1) := by decide +kernel
theorem dX6_oils_6 : decode cX6_oils 6 = .ok (.invokevirtual 56, 3) := by decide +kernel
theorem dX6_oils_9 : decode cX6_oils 9 = .ok (.ifCond .le 14, 3) := by decide +kernel
theorem dX6_oils_12 : decode cX6_oils 12 = .ok (.aload_n 0, 1) := by decide +kernel
theorem dX6_oils_13 : decode cX6_oils 13 = .ok (.iload_n 1, 1) := by decide +kernel
theorem dX6_oils_14 : decode cX6_oils 14 = .ok (.iconst 3, 1) := by decide +kernel
theorem dX6_oils_15 : decode cX6_oils 15 = .ok (.invokevirtual 56, 3) := by decide +kernel
theorem dX6_oils_18 : decode cX6_oils 18 = .ok (.iconst 1, 1) := by decide +kernel
theorem dX6_oils_19 : decode cX6_oils 19 = .ok (.isub, 1) := by decide +kernel
theorem dX6_oils_20 : decode cX6_oils 20 = .ok (.goto 4, 3) := by decide +kernel
theorem dX6_oils_23 : decode cX6_oils 23 = .ok (.iconst 0, 1) := by decide +kernel
theorem dX6_oils_24 : decode cX6_oils 24 = .ok (.invokevirtual 29, 3) := by decide +kernel
theorem dX6_oils_27 : decode cX6_oils 27 = .ok (.aload_n 0, 1) := by decide +kernel
theorem dX6_oils_28 : decode cX6_oils 28 = .ok (.iload_n 1, 1) := by decide +kernel
theorem dX6_oils_29 : decode cX6_oils 29 = .ok (.iconst 2, 1) := by decide +kernel
theorem dX6_oils_30 : decode cX6_oils 30 = .ok (.iconst 0, 1) := by decide +kernel
theorem dX6_oils_31 : decode cX6_oils 31 = .ok (.invokevirtual 29, 3) := by decide +kernel
theorem dX6_oils_34 : decode cX6_oils 34 = .ok (.aload_n 0, 1) := by decide +kernel
theorem dX6_oils_35 : decode cX6_oils 35 = .ok (.iload_n 1, 1) := by decide +kernel
theorem dX6_oils_36 : decode cX6_oils 36 = .ok (.iconst 3, 1) := by decide +kernel
theorem dX6_oils_37 : decode cX6_oils 37 = .ok (.invokevirtual 56, 3) := by decide +kernel
theorem dX6_oils_40 : decode cX6_oils 40 = .ok (.ireturn, 1) := by decide +kernel
theorem dX6_oil_0 : decode cX6_oil 0 = .ok (.iload_n 1, 1) := by decide +kernel
theorem dX6_oil_1 : decode cX6_oil 1 = .ok (.invokestatic 52, 3) := by decide +kernel
theorem dX6_oil_4 : decode cX6_oil 4 = .ok (.ifCond .ne 7, 3) := by decide +kernel
theorem dX6_oil_7 : decode cX6_oil 7 = .ok (.sipush (-1001), 3) := by decide +kernel
theorem dX6_oil_10 : decode cX6_oil 10 = .ok (.ireturn, 1) := by decide +kernel
theorem dX6_oil_11 : decode cX6_oil 11 = .ok (.aload_n 0, 1) := by decide +kernel
theorem dX6_oil_12 : decode cX6_oil 12 = .ok (.invokevirtual 45, 3) := by decide +kernel
theorem dX6_oil_15 : decode cX6_oil 15 = .ok (.aload_n 0, 1) := by decide +kernel
theorem dX6_oil_16 : decode cX6_oil 16 = .ok (.iload_n 1, 1) := by decide +kernel
theorem dX6_oil_17 : decode cX6_oil 17 = .ok (.invokevirtual 60, 3) := by decide +kernel
theorem dX6_oil_20 : decode cX6_oil 20 = .ok (.ireturn, 1) := by decide +kernel
theorem dX6_dials_0 : decode cX6_dials 0 = .ok (.aload_n 0, 1) := by decide +kernel
theorem dX6_dials_1 : decode cX6_dials 1 = .ok (.iload_n 1, 1) := by decide +kernel
theorem dX6_dials_2 : decode cX6_dials 2 = .ok (.iconst 0, 1) := by decide +kernel
