theorem dX6_dials_3 : decode cX6_dials 3 = .ok (.invokevirtual 56, 3) := by decide +kernel
theorem dX6_dials_6 : decode cX6_dials 6 = .ok (.iload_n 2, 1) := by decide +kernel
theorem dX6_dials_7 : decode cX6_dials 7 = .ok (.invokestatic 64, 3) := by decide +kernel
theorem dX6_dials_10 : decode cX6_dials 10 = .ok (.istore_n 3, 1) := by decide +kernel
theorem dX6_dials_11 : decode cX6_dials 11 = .ok (.aload_n 0, 1) := by decide +kernel
theorem dX6_dials_12 : decode cX6_dials 12 = .ok (.iload_n 1, 1) := by decide +kernel
theorem dX6_dials_13 : decode cX6_dials 13 = .ok (.iconst 0, 1) := by decide +kernel
theorem dX6_dials_14 : decode cX6_dials 14 = .ok (.iload_n 2, 1) := by decide +kernel
theorem dX6_dials_15 : decode cX6_dials 15 = .ok (.invokevirtual 29, 3) := by decide +kernel
theorem dX6_dials_18 : decode cX6_dials 18 = .ok (.iload_n 3, 1) := by decide +kernel
theorem dX6_dials_19 : decode cX6_dials 19 = .ok (.ireturn, 1) := by decide +kernel
theorem dX6_dial_0 : decode cX6_dial 0 = .ok (.iload_n 1, 1) := by decide +kernel
theorem dX6_dial_1 : decode cX6_dial 1 = .ok (.invokestatic 52, 3) := by decide +kernel
theorem dX6_dial_4 : decode cX6_dial 4 = .ok (.ifCond .ne 7, 3) := by decide +kernel
theorem dX6_dial_7 : decode cX6_dial 7 = .ok (.sipush (-1001), 3) := by decide +kernel
theorem dX6_dial_10 : decode cX6_dial 10 = .ok (.ireturn, 1) := by decide +kernel
theorem dX6_dial_11 : decode cX6_dial 11 = .ok (.iload_n 2, 1) := by decide +kernel
theorem dX6_dial_12 : decode cX6_dial 12 = .ok (.iconst 0, 1) := by decide +kernel
theorem dX6_dial_13 : decode cX6_dial 13 = .ok (.sipush 719, 3) := by decide +kernel
theorem dX6_dial_16 : decode cX6_dial 16 = .ok (.invokestatic 33, 3) := by decide +kernel
theorem dX6_dial_19 : decode cX6_dial 19 = .ok (.ifCond .ne 7, 3) := by decide +kernel
theorem dX6_dial_22 : decode cX6_dial 22 = .ok (.sipush (-1002), 3) := by decide +kernel
theorem dX6_dial_25 : decode cX6_dial 25 = .ok (.ireturn, 1) := by decide +kernel
theorem dX6_dial_26 : decode cX6_dial 26 = .ok (.aload_n 0, 1) := by decide +kernel
theorem dX6_dial_27 : decode cX6_dial 27 = .ok (.invokevirtual 45, 3) := by decide +kernel
theorem dX6_dial_30 : decode cX6_dial 30 = .ok (.aload_n 0, 1) := by decide +kernel
theorem dX6_dial_31 : decode cX6_dial 31 = .ok (.iload_n 1, 1) := by decide +kernel
theorem dX6_dial_32 : decode cX6_dial 32 = .ok (.iload_n 2, 1) := by decide +kernel
theorem dX6_dial_33 : decode cX6_dial 33 = .ok (.invokevirtual 67, 3) := by decide +kernel
theorem dX6_dial_36 : decode cX6_dial 36 = .ok (.ireturn, 1) := by decide +kernel
theorem dX6_hangs_0 : decode cX6_hangs 0 = .ok (.aload_n 0, 1) := by decide +kernel
theorem dX6_hangs_1 : decode cX6_hangs 1 = .ok (.iload_n 1, 1) := by decide +kernel
theorem dX6_hangs_2 : decode cX6_hangs 2 = .ok (.iconst 5, 1) := by decide +kernel
theorem dX6_hangs_3 : decode cX6_hangs 3 = .ok (.iconst 1, 1) := by decide +kernel
theorem dX6_hangs_4 : decode cX6_hangs 4 = .ok (.aload_n 0, 1) := by decide +kernel
theorem dX6_hangs_5 : decode cX6_hangs 5 = .ok (.iload_n 1, 1) := by decide +kernel
theorem dX6_hangs_6 : decode cX6_hangs 6 = .ok (.iconst 5, 1) := by decide +kernel
theorem dX6_hangs_7 : decode cX6_hangs 7 = .ok (.invokevirtual 56, 3) := by decide +kernel
theorem dX6_hangs_10 : decode cX6_hangs 10 = .ok (.isub, 1) := by decide +kernel
theorem dX6_hangs_11 : decode cX6_hangs 11 = .ok (.invokevirtual 29, 3) := by decide +kernel
theorem dX6_hangs_14 : decode cX6_hangs 14 = .ok (.aload_n 0, 1) := by decide +kernel
theorem dX6_hangs_15 : decode cX6_hangs 15 = .ok (.iload_n 1, 1) := by decide +kernel
theorem dX6_hangs_16 : decode cX6_hangs 16 = .ok (.iconst 5, 1) := by decide +kernel
theorem dX6_hangs_17 : decode cX6_hangs 17 = .ok (.invokevirtual 56, 3) := by decide +kernel
theorem dX6_hangs_20 : decode cX6_hangs 20 = .ok (.ireturn, 1) := by decide +kernel
theorem dX6_bell_0 : decode cX6_bell 0 = .ok (.iload_n 1, 1) := by decide +kernel
theorem dX6_bell_1 : decode cX6_bell 1 = .ok (.invokestatic 52, 3) := by decide +kernel
theorem dX6_bell_4 : decode cX6_bell 4 = .ok (.ifCond .ne 7, 3) := by decide +kernel
theorem dX6_bell_7 : decode cX6_bell 7 = .ok (.sipush (-1001), 3) := by decide +kernel
theorem dX6_bell_10 : decode cX6_bell 10 = .ok (.ireturn, 1) := by decide +kernel
theorem dX6_bell_11 : decode cX6_bell 11 = .ok (.aload_n 0, 1) := by decide +kernel
theorem dX6_bell_12 : decode cX6_bell 12 = .ok (.invokevirtual 45, 3) := by decide +kernel
theorem dX6_bell_15 : decode cX6_bell 15 = .ok (.aload_n 0, 1) := by decide +kernel
theorem dX6_bell_16 : decode cX6_bell 16 = .ok (.iload_n 1, 1) := by decide +kernel
theorem dX6_bell_17 : decode cX6_bell 17 = .ok (.invokevirtual 70, 3) := by decide +kernel
theorem dX6_bell_20 : decode cX6_bell 20 = .ok (.ireturn, 1) := by decide +kernel
theorem dX6_strikesAt_0 : decode cX6_strikesAt 0 = .ok (.iload_n 0, 1) := by decide +kernel
theorem dX6_strikesAt_1 : decode cX6_strikesAt 1 = .ok (.bipush 60, 2) := by decide +kernel
theorem dX6_strikesAt_3 : decode cX6_strikesAt 3 = .ok (.irem, 1) := by decide +kernel
theorem dX6_strikesAt_4 : decode cX6_strikesAt 4 = .ok (.ifCond .le 7, 3) := by decide +kernel
theorem dX6_strikesAt_7 : decode cX6_strikesAt 7 = .ok (.iconst 0, 1) := by decide +kernel
theorem dX6_strikesAt_8 : decode cX6_strikesAt 8 = .ok (.goto 16, 3) := by decide +kernel
theorem dX6_strikesAt_11 : decode cX6_strikesAt 11 = .ok (.iload_n 0, 1) := by decide +kernel
theorem dX6_strikesAt_12 : decode cX6_strikesAt 12 = .ok (.ifCond .ne 8, 3) := by decide +kernel
theorem dX6_strikesAt_15 : decode cX6_strikesAt 15 = .ok (.bipush 12, 2) := by decide +kernel
theorem dX6_strikesAt_17 : decode cX6_strikesAt 17 = .ok (.goto 7, 3) := by decide +kernel
theorem dX6_strikesAt_20 : decode cX6_strikesAt 20 = .ok (.iload_n 0, 1) := by decide +kernel
theorem dX6_strikesAt_21 : decode cX6_strikesAt 21 = .ok (.bipush 60, 2) := by decide +kernel
theorem dX6_strikesAt_23 : decode cX6_strikesAt 23 = .ok (.idiv, 1) := by decide +kernel
theorem dX6_strikesAt_24 : decode cX6_strikesAt 24 = .ok (.ireturn, 1) := by decide +kernel
theorem dX6_turns_0 : decode cX6_turns 0 = .ok (.aload_n 0, 1) := by decide +kernel
theorem dX6_turns_1 : decode cX6_turns 1 = .ok (.iload_n 1, 1) := by decide +kernel
theorem dX6_turns_2 : decode cX6_turns 2 = .ok (.iconst 2, 1) := by decide +kernel
theorem dX6_turns_3 : decode cX6_turns 3 = .ok (.invokevirtual 56, 3) := by decide +kernel
theorem dX6_turns_6 : decode cX6_turns 6 = .ok (.aload_n 0, 1) := by decide +kernel
theorem dX6_turns_7 : decode cX6_turns 7 = .ok (.getfield 7, 3) := by decide +kernel
theorem dX6_turns_10 : decode cX6_turns 10 = .ok (.iconst 1, 1) := by decide +kernel
theorem dX6_turns_11 : decode cX6_turns 11 = .ok (.iaload, 1) := by decide +kernel
theorem dX6_turns_12 : decode cX6_turns 12 = .ok (.iadd, 1) := by decide +kernel
theorem dX6_turns_13 : decode cX6_turns 13 = .ok (.aload_n 0, 1) := by decide +kernel
theorem dX6_turns_14 : decode cX6_turns 14 = .ok (.iload_n 1, 1) := by decide +kernel
theorem dX6_turns_15 : decode cX6_turns 15 = .ok (.iconst 3, 1) := by decide +kernel
theorem dX6_turns_16 : decode cX6_turns 16 = .ok (.invokevirtual 56, 3) := by decide +kernel
theorem dX6_turns_19 : decode cX6_turns 19 = .ok (.iadd, 1) := by decide +kernel
theorem dX6_turns_20 : decode cX6_turns 20 = .ok (.istore_n 2, 1) := by decide +kernel
theorem dX6_turns_21 : decode cX6_turns 21 = .ok (.bipush 10, 2) := by decide +kernel
theorem dX6_turns_23 : decode cX6_turns 23 = .ok (.aload_n 0, 1) := by decide +kernel
theorem dX6_turns_24 : decode cX6_turns 24 = .ok (.iload_n 1, 1) := by decide +kernel
theorem dX6_turns_25 : decode cX6_turns 25 = .ok (.iconst 1, 1) := by decide +kernel
theorem dX6_turns_26 : decode cX6_turns 26 = .ok (.invokevirtual 56, 3) := by decide +kernel
theorem dX6_turns_29 : decode cX6_turns 29 = .ok (.imul, 1) := by decide +kernel
theorem dX6_turns_30 : decode cX6_turns 30 = .ok (.istore_n 3, 1) := by decide +kernel
theorem dX6_turns_31 : decode cX6_turns 31 = .ok (.iload_n 2, 1) := by decide +kernel
theorem dX6_turns_32 : decode cX6_turns 32 = .ok (.iload_n 3, 1) := by decide +kernel
theorem dX6_turns_33 : decode cX6_turns 33 = .ok (.if_icmp .lt 64, 3) := by decide +kernel
theorem dX6_turns_36 : decode cX6_turns 36 = .ok (.aload_n 0, 1) := by decide +kernel
theorem dX6_turns_37 : decode cX6_turns 37 = .ok (.iload_n 1, 1) := by decide +kernel
theorem dX6_turns_38 : decode cX6_turns 38 = .ok (.iconst 2, 1) := by decide +kernel
theorem dX6_turns_39 : decode cX6_turns 39 = .ok (.iload_n 2, 1) := by decide +kernel
theorem dX6_turns_40 : decode cX6_turns 40 = .ok (.iload_n 3, 1) := by decide +kernel
theorem dX6_turns_41 : decode cX6_turns 41 = .ok (.isub, 1) := by decide +kernel
theorem dX6_turns_42 : decode cX6_turns 42 = .ok (.invokevirtual 29, 3) := by decide +kernel
theorem dX6_turns_45 : decode cX6_turns 45 = .ok (.aload_n 0, 1) := by decide +kernel
theorem dX6_turns_46 : decode cX6_turns 46 = .ok (.iload_n 1, 1) := by decide +kernel
theorem dX6_turns_47 : decode cX6_turns 47 = .ok (.iconst 4, 1) := by decide +kernel
theorem dX6_turns_48 : decode cX6_turns 48 = .ok (.aload_n 0, 1) := by decide +kernel
theorem dX6_turns_49 : decode cX6_turns 49 = .ok (.iload_n 1, 1) := by decide +kernel
theorem dX6_turns_50 : decode cX6_turns 50 = .ok (.iconst 4, 1) := by decide +kernel
theorem dX6_turns_51 : decode cX6_turns 51 = .ok (.invokevirtual 56, 3) := by decide +kernel
theorem dX6_turns_54 : decode cX6_turns 54 = .ok (.iconst 1, 1) := by decide +kernel
theorem dX6_turns_55 : decode cX6_turns 55 = .ok (.iadd, 1) := by decide +kernel
theorem dX6_turns_56 : decode cX6_turns 56 = .ok (.invokevirtual 29, 3) := by decide +kernel
theorem dX6_turns_59 : decode cX6_turns 59 = .ok (.aload_n 0, 1) := by decide +kernel
theorem dX6_turns_60 : decode cX6_turns 60 = .ok (.iload_n 1, 1) := by decide +kernel
theorem dX6_turns_61 : decode cX6_turns 61 = .ok (.iconst 4, 1) := by decide +kernel
theorem dX6_turns_62 : decode cX6_turns 62 = .ok (.invokevirtual 56, 3) := by decide +kernel
theorem dX6_turns_65 : decode cX6_turns 65 = .ok (.iconst 3, 1) := by decide +kernel
theorem dX6_turns_66 : decode cX6_turns 66 = .ok (.irem, 1) := by decide +kernel
theorem dX6_turns_67 : decode cX6_turns 67 = .ok (.ifCond .ne 28, 3) := by decide +kernel
theorem dX6_turns_70 : decode cX6_turns 70 = .ok (.aload_n 0, 1) := by decide +kernel
theorem dX6_turns_71 : decode cX6_turns 71 = .ok (.iload_n 1, 1) := by decide +kernel
theorem dX6_turns_72 : decode cX6_turns 72 = .ok (.iconst 3, 1) := by decide +kernel
theorem dX6_turns_73 : decode cX6_turns 73 = .ok (.invokevirtual 56, 3) := by decide +kernel
theorem dX6_turns_76 : decode cX6_turns 76 = .ok (.bipush 9, 2) := by decide +kernel
theorem dX6_turns_78 : decode cX6_turns 78 = .ok (.if_icmp .ge 17, 3) := by decide +kernel
theorem dX6_turns_81 : decode cX6_turns 81 = .ok (.aload_n 0, 1) := by decide +kernel
theorem dX6_turns_82 : decode cX6_turns 82 = .ok (.iload_n 1, 1) := by decide +kernel
theorem dX6_turns_83 : decode cX6_turns 83 = .ok (.iconst 3, 1) := by decide +kernel
theorem dX6_turns_84 : decode cX6_turns 84 = .ok (.aload_n 0, 1) := by decide +kernel
theorem dX6_turns_85 : decode cX6_turns 85 = .ok (.iload_n 1, 1) := by decide +kernel
theorem dX6_turns_86 : decode cX6_turns 86 = .ok (.iconst 3, 1) := by decide +kernel
theorem dX6_turns_87 : decode cX6_turns 87 = .ok (.invokevirtual 56, 3) := by decide +kernel
theorem dX6_turns_90 : decode cX6_turns 90 = .ok (.iconst 1, 1) := by decide +kernel
theorem dX6_turns_91 : decode cX6_turns 91 = .ok (.iadd, 1) := by decide +kernel
theorem dX6_turns_92 : decode cX6_turns 92 = .ok (.invokevirtual 29, 3) := by decide +kernel
theorem dX6_turns_95 : decode cX6_turns 95 = .ok (.iconst 0, 1) := by decide +kernel
theorem dX6_turns_96 : decode cX6_turns 96 = .ok (.ireturn, 1) := by decide +kernel
theorem dX6_turns_97 : decode cX6_turns 97 = .ok (.aload_n 0, 1) := by decide +kernel
theorem dX6_turns_98 : decode cX6_turns 98 = .ok (.iload_n 1, 1) := by decide +kernel
theorem dX6_turns_99 : decode cX6_turns 99 = .ok (.iconst 2, 1) := by decide +kernel
theorem dX6_turns_100 : decode cX6_turns 100 = .ok (.iload_n 2, 1) := by decide +kernel
theorem dX6_turns_101 : decode cX6_turns 101 = .ok (.invokevirtual 29, 3) := by decide +kernel
theorem dX6_turns_104 : decode cX6_turns 104 = .ok (.aload_n 0, 1) := by decide +kernel
theorem dX6_turns_105 : decode cX6_turns 105 = .ok (.iload_n 1, 1) := by decide +kernel
theorem dX6_turns_106 : decode cX6_turns 106 = .ok (.iconst 0, 1) := by decide +kernel
theorem dX6_turns_107 : decode cX6_turns 107 = .ok (.aload_n 0, 1) := by decide +kernel
theorem dX6_turns_108 : decode cX6_turns 108 = .ok (.iload_n 1, 1) := by decide +kernel
theorem dX6_turns_109 : decode cX6_turns 109 = .ok (.iconst 0, 1) := by decide +kernel
theorem dX6_turns_110 : decode cX6_turns 110 = .ok (.invokevirtual 56, 3) := by decide +kernel
theorem dX6_turns_113 : decode cX6_turns 113 = .ok (.iconst 1, 1) := by decide +kernel
theorem dX6_turns_114 : decode cX6_turns 114 = .ok (.iadd, 1) := by decide +kernel
theorem dX6_turns_115 : decode cX6_turns 115 = .ok (.sipush 720, 3) := by decide +kernel
theorem dX6_turns_118 : decode cX6_turns 118 = .ok (.irem, 1) := by decide +kernel
theorem dX6_turns_119 : decode cX6_turns 119 = .ok (.invokevirtual 29, 3) := by decide +kernel
theorem dX6_turns_122 : decode cX6_turns 122 = .ok (.aload_n 0, 1) := by decide +kernel
theorem dX6_turns_123 : decode cX6_turns 123 = .ok (.iload_n 1, 1) := by decide +kernel
theorem dX6_turns_124 : decode cX6_turns 124 = .ok (.iconst 5, 1) := by decide +kernel
theorem dX6_turns_125 : decode cX6_turns 125 = .ok (.invokevirtual 56, 3) := by decide +kernel
theorem dX6_turns_128 : decode cX6_turns 128 = .ok (.iconst 1, 1) := by decide +kernel
theorem dX6_turns_129 : decode cX6_turns 129 = .ok (.if_icmp .ne 15, 3) := by decide +kernel
theorem dX6_turns_132 : decode cX6_turns 132 = .ok (.aload_n 0, 1) := by decide +kernel
theorem dX6_turns_133 : decode cX6_turns 133 = .ok (.iload_n 1, 1) := by decide +kernel
theorem dX6_turns_134 : decode cX6_turns 134 = .ok (.iconst 0, 1) := by decide +kernel
theorem dX6_turns_135 : decode cX6_turns 135 = .ok (.invokevirtual 56, 3) := by decide +kernel
theorem dX6_turns_138 : decode cX6_turns 138 = .ok (.invokestatic 73, 3) := by decide +kernel
theorem dX6_turns_141 : decode cX6_turns 141 = .ok (.goto 4, 3) := by decide +kernel
theorem dX6_turns_144 : decode cX6_turns 144 = .ok (.iconst 0, 1) := by decide +kernel
theorem dX6_turns_145 : decode cX6_turns 145 = .ok (.istore 4, 2) := by decide +kernel
theorem dX6_turns_147 : decode cX6_turns 147 = .ok (.aload_n 0, 1) := by decide +kernel
theorem dX6_turns_148 : decode cX6_turns 148 = .ok (.iload_n 1, 1) := by decide +kernel
theorem dX6_turns_149 : decode cX6_turns 149 = .ok (.bipush 6, 2) := by decide +kernel
theorem dX6_turns_151 : decode cX6_turns 151 = .ok (.aload_n 0, 1) := by decide +kernel
theorem dX6_turns_152 : decode cX6_turns 152 = .ok (.iload_n 1, 1) := by decide +kernel
theorem dX6_turns_153 : decode cX6_turns 153 = .ok (.bipush 6, 2) := by decide +kernel
theorem dX6_turns_155 : decode cX6_turns 155 = .ok (.invokevirtual 56, 3) := by decide +kernel
theorem dX6_turns_158 : decode cX6_turns 158 = .ok (.iload 4, 2) := by decide +kernel
theorem dX6_turns_160 : decode cX6_turns 160 = .ok (.iadd, 1) := by decide +kernel
theorem dX6_turns_161 : decode cX6_turns 161 = .ok (.invokevirtual 29, 3) := by decide +kernel
theorem dX6_turns_164 : decode cX6_turns 164 = .ok (.iload 4, 2) := by decide +kernel
theorem dX6_turns_166 : decode cX6_turns 166 = .ok (.ireturn, 1) := by decide +kernel
theorem dX6_minuteOfDay_0 : decode cX6_minuteOfDay 0 = .ok (.aload_n 0, 1) := by decide +kernel
theorem dX6_minuteOfDay_1 : decode cX6_minuteOfDay 1 = .ok (.getfield 7, 3) := by decide +kernel
theorem dX6_minuteOfDay_4 : decode cX6_minuteOfDay 4 = .ok (.iconst 0, 1) := by decide +kernel
theorem dX6_minuteOfDay_5 : decode cX6_minuteOfDay 5 = .ok (.iaload, 1) := by decide +kernel
theorem dX6_minuteOfDay_6 : decode cX6_minuteOfDay 6 = .ok (.sipush 1440, 3) := by decide +kernel
theorem dX6_minuteOfDay_9 : decode cX6_minuteOfDay 9 = .ok (.irem, 1) := by decide +kernel
theorem dX6_minuteOfDay_10 : decode cX6_minuteOfDay 10 = .ok (.ireturn, 1) := by decide +kernel
theorem dX6_minute_0 : decode cX6_minute 0 = .ok (.aload_n 0, 1) := by decide +kernel
theorem dX6_minute_1 : decode cX6_minute 1 = .ok (.getfield 7, 3) := by decide +kernel
theorem dX6_minute_4 : decode cX6_minute 4 = .ok (.iconst 0, 1) := by decide +kernel
theorem dX6_minute_5 : decode cX6_minute 5 = .ok (.dup2, 1) := by decide +kernel
theorem dX6_minute_6 : decode cX6_minute 6 = .ok (.iaload, 1) := by decide +kernel
theorem dX6_minute_7 : decode cX6_minute 7 = .ok (.iconst 1, 1) := by decide +kernel
theorem dX6_minute_8 : decode cX6_minute 8 = .ok (.iadd, 1) := by decide +kernel
theorem dX6_minute_9 : decode cX6_minute 9 = .ok (.iastore, 1) := by decide +kernel
theorem dX6_minute_10 : decode cX6_minute 10 = .ok (.iconst 0, 1) := by decide +kernel
theorem dX6_minute_11 : decode cX6_minute 11 = .ok (.istore_n 1, 1) := by decide +kernel
theorem dX6_minute_12 : decode cX6_minute 12 = .ok (.iconst 0, 1) := by decide +kernel
theorem dX6_minute_13 : decode cX6_minute 13 = .ok (.istore_n 2, 1) := by decide +kernel
theorem dX6_minute_14 : decode cX6_minute 14 = .ok (.iload_n 2, 1) := by decide +kernel
theorem dX6_minute_15 : decode cX6_minute 15 = .ok (.iconst 4, 1) := by decide +kernel
theorem dX6_minute_16 : decode cX6_minute 16 = .ok (.if_icmp .ge 17, 3) := by decide +kernel
theorem dX6_minute_19 : decode cX6_minute 19 = .ok (.iload_n 1, 1) := by decide +kernel
theorem dX6_minute_20 : decode cX6_minute 20 = .ok (.aload_n 0, 1) := by decide +kernel
theorem dX6_minute_21 : decode cX6_minute 21 = .ok (.iload_n 2, 1) := by decide +kernel
theorem dX6_minute_22 : decode cX6_minute 22 = .ok (.invokevirtual 76, 3) := by decide +kernel
theorem dX6_minute_25 : decode cX6_minute 25 = .ok (.iadd, 1) := by decide +kernel
theorem dX6_minute_26 : decode cX6_minute 26 = .ok (.istore_n 1, 1) := by decide +kernel
theorem dX6_minute_27 : decode cX6_minute 27 = .ok (.iinc 2 1, 3) := by decide +kernel
theorem dX6_minute_30 : decode cX6_minute 30 = .ok (.goto (-16), 3) := by decide +kernel
theorem dX6_minute_33 : decode cX6_minute 33 = .ok (.aload_n 0, 1) := by decide +kernel
theorem dX6_minute_34 : decode cX6_minute 34 = .ok (.getfield 7, 3) := by decide +kernel
theorem dX6_minute_37 : decode cX6_minute 37 = .ok (.iconst 4, 1) := by decide +kernel
theorem dX6_minute_38 : decode cX6_minute 38 = .ok (.dup2, 1) := by decide +kernel
theorem dX6_minute_39 : decode cX6_minute 39 = .ok (.iaload, 1) := by decide +kernel
theorem dX6_minute_40 : decode cX6_minute 40 = .ok (.aload_n 0, 1) := by decide +kernel
theorem dX6_minute_41 : decode cX6_minute 41 = .ok (.getfield 7, 3) := by decide +kernel
theorem dX6_minute_44 : decode cX6_minute 44 = .ok (.iconst 1, 1) := by decide +kernel
theorem dX6_minute_45 : decode cX6_minute 45 = .ok (.iaload, 1) := by decide +kernel
theorem dX6_minute_46 : decode cX6_minute 46 = .ok (.iadd, 1) := by decide +kernel
theorem dX6_minute_47 : decode cX6_minute 47 = .ok (.iastore, 1) := by decide +kernel
theorem dX6_minute_48 : decode cX6_minute 48 = .ok (.iconst 0, 1) := by decide +kernel
theorem dX6_minute_49 : decode cX6_minute 49 = .ok (.istore_n 2, 1) := by decide +kernel
theorem dX6_minute_50 : decode cX6_minute 50 = .ok (.iload_n 2, 1) := by decide +kernel
theorem dX6_minute_51 : decode cX6_minute 51 = .ok (.iconst 4, 1) := by decide +kernel
theorem dX6_minute_52 : decode cX6_minute 52 = .ok (.if_icmp .ge 24, 3) := by decide +kernel
theorem dX6_minute_55 : decode cX6_minute 55 = .ok (.aload_n 0, 1) := by decide +kernel
theorem dX6_minute_56 : decode cX6_minute 56 = .ok (.getfield 7, 3) := by decide +kernel
theorem dX6_minute_59 : decode cX6_minute 59 = .ok (.iconst 4, 1) := by decide +kernel
theorem dX6_minute_60 : decode cX6_minute 60 = .ok (.dup2, 1) := by decide +kernel
theorem dX6_minute_61 : decode cX6_minute 61 = .ok (.iaload, 1) := by decide +kernel
theorem dX6_minute_62 : decode cX6_minute 62 = .ok (.aload_n 0, 1) := by decide +kernel
theorem dX6_minute_63 : decode cX6_minute 63 = .ok (.iload_n 2, 1) := by decide +kernel
theorem dX6_minute_64 : decode cX6_minute 64 = .ok (.iconst 3, 1) := by decide +kernel
theorem dX6_minute_65 : decode cX6_minute 65 = .ok (.invokevirtual 56, 3) := by decide +kernel
theorem dX6_minute_68 : decode cX6_minute 68 = .ok (.iadd, 1) := by decide +kernel
theorem dX6_minute_69 : decode cX6_minute 69 = .ok (.iastore, 1) := by decide +kernel
theorem dX6_minute_70 : decode cX6_minute 70 = .ok (.iinc 2 1, 3) := by decide +kernel
theorem dX6_minute_73 : decode cX6_minute 73 = .ok (.goto (-23), 3) := by decide +kernel
theorem dX6_minute_76 : decode cX6_minute 76 = .ok (.aload_n 0, 1) := by decide +kernel
theorem dX6_minute_77 : decode cX6_minute 77 = .ok (.getfield 7, 3) := by decide +kernel
theorem dX6_minute_80 : decode cX6_minute 80 = .ok (.iconst 4, 1) := by decide +kernel
theorem dX6_minute_81 : decode cX6_minute 81 = .ok (.iaload, 1) := by decide +kernel
theorem dX6_minute_82 : decode cX6_minute 82 = .ok (.aload_n 0, 1) := by decide +kernel
theorem dX6_minute_83 : decode cX6_minute 83 = .ok (.getfield 7, 3) := by decide +kernel
theorem dX6_minute_86 : decode cX6_minute 86 = .ok (.iconst 3, 1) := by decide +kernel
theorem dX6_minute_87 : decode cX6_minute 87 = .ok (.iaload, 1) := by decide +kernel
theorem dX6_minute_88 : decode cX6_minute 88 = .ok (.if_icmp .lt 55, 3) := by decide +kernel
theorem dX6_minute_91 : decode cX6_minute 91 = .ok (.aload_n 0, 1) := by decide +kernel
theorem dX6_minute_92 : decode cX6_minute 92 = .ok (.getfield 7, 3) := by decide +kernel
theorem dX6_minute_95 : decode cX6_minute 95 = .ok (.iconst 4, 1) := by decide +kernel
theorem dX6_minute_96 : decode cX6_minute 96 = .ok (.iconst 0, 1) := by decide +kernel
theorem dX6_minute_97 : decode cX6_minute 97 = .ok (.iastore, 1) := by decide +kernel
theorem dX6_minute_98 : decode cX6_minute 98 = .ok (.aload_n 0, 1) := by decide +kernel
theorem dX6_minute_99 : decode cX6_minute 99 = .ok (.getfield 7, 3) := by decide +kernel
theorem dX6_minute_102 : decode cX6_minute 102 = .ok (.iconst 5, 1) := by decide +kernel
theorem dX6_minute_103 : decode cX6_minute 103 = .ok (.dup2, 1) := by decide +kernel
theorem dX6_minute_104 : decode cX6_minute 104 = .ok (.iaload, 1) := by decide +kernel
theorem dX6_minute_105 : decode cX6_minute 105 = .ok (.iconst 1, 1) := by decide +kernel
theorem dX6_minute_106 : decode cX6_minute 106 = .ok (.iadd, 1) := by decide +kernel
theorem dX6_minute_107 : decode cX6_minute 107 = .ok (.iastore, 1) := by decide +kernel
theorem dX6_minute_108 : decode cX6_minute 108 = .ok (.iconst 0, 1) := by decide +kernel
theorem dX6_minute_109 : decode cX6_minute 109 = .ok (.istore_n 2, 1) := by decide +kernel
theorem dX6_minute_110 : decode cX6_minute 110 = .ok (.iload_n 2, 1) := by decide +kernel
theorem dX6_minute_111 : decode cX6_minute 111 = .ok (.iconst 4, 1) := by decide +kernel
theorem dX6_minute_112 : decode cX6_minute 112 = .ok (.if_icmp .ge 31, 3) := by decide +kernel
theorem dX6_minute_115 : decode cX6_minute 115 = .ok (.aload_n 0, 1) := by decide +kernel
theorem dX6_minute_116 : decode cX6_minute 116 = .ok (.iload_n 2, 1) := by decide +kernel
theorem dX6_minute_117 : decode cX6_minute 117 = .ok (.iconst 0, 1) := by decide +kernel
theorem dX6_minute_118 : decode cX6_minute 118 = .ok (.aload_n 0, 1) := by decide +kernel
theorem dX6_minute_119 : decode cX6_minute 119 = .ok (.iload_n 2, 1) := by decide +kernel
theorem dX6_minute_120 : decode cX6_minute 120 = .ok (.iconst 0, 1) := by decide +kernel
theorem dX6_minute_121 : decode cX6_minute 121 = .ok (.invokevirtual 56, 3) := by decide +kernel
theorem dX6_minute_124 : decode cX6_minute 124 = .ok (.sipush 720, 3) := by decide +kernel
theorem dX6_minute_127 : decode cX6_minute 127 = .ok (.iadd, 1) := by decide +kernel
theorem dX6_minute_128 : decode cX6_minute 128 = .ok (.iconst 1, 1) := by decide +kernel
theorem dX6_minute_129 : decode cX6_minute 129 = .ok (.isub, 1) := by decide +kernel
theorem dX6_minute_130 : decode cX6_minute 130 = .ok (.sipush 720, 3) := by decide +kernel
theorem dX6_minute_133 : decode cX6_minute 133 = .ok (.irem, 1) := by decide +kernel
theorem dX6_minute_134 : decode cX6_minute 134 = .ok (.invokevirtual 29, 3) := by decide +kernel
theorem dX6_minute_137 : decode cX6_minute 137 = .ok (.iinc 2 1, 3) := by decide +kernel
theorem dX6_minute_140 : decode cX6_minute 140 = .ok (.goto (-30), 3) := by decide +kernel
theorem dX6_minute_143 : decode cX6_minute 143 = .ok (.aload_n 0, 1) := by decide +kernel
theorem dX6_minute_144 : decode cX6_minute 144 = .ok (.invokevirtual 79, 3) := by decide +kernel
theorem dX6_minute_147 : decode cX6_minute 147 = .ok (.sipush 720, 3) := by decide +kernel
theorem dX6_minute_150 : decode cX6_minute 150 = .ok (.if_icmp .ne 18, 3) := by decide +kernel
theorem dX6_minute_153 : decode cX6_minute 153 = .ok (.aload_n 0, 1) := by decide +kernel
theorem dX6_minute_154 : decode cX6_minute 154 = .ok (.getfield 7, 3) := by decide +kernel
theorem dX6_minute_157 : decode cX6_minute 157 = .ok (.bipush 7, 2) := by decide +kernel
theorem dX6_minute_159 : decode cX6_minute 159 = .ok (.iaload, 1) := by decide +kernel
theorem dX6_minute_160 : decode cX6_minute 160 = .ok (.ifCond .le 8, 3) := by decide +kernel
theorem dX6_minute_163 : decode cX6_minute 163 = .ok (.aload_n 0, 1) := by decide +kernel
theorem dX6_minute_164 : decode cX6_minute 164 = .ok (.invokevirtual 83, 3) := by decide +kernel
theorem dX6_minute_167 : decode cX6_minute 167 = .ok (.pop, 1) := by decide +kernel
theorem dX6_minute_168 : decode cX6_minute 168 = .ok (.iload_n 1, 1) := by decide +kernel
theorem dX6_minute_169 : decode cX6_minute 169 = .ok (.ireturn, 1) := by decide +kernel
theorem dX6_passes_0 : decode cX6_passes 0 = .ok (.iconst 0, 1) := by decide +kernel
theorem dX6_passes_1 : decode cX6_passes 1 = .ok (.istore_n 2, 1) := by decide +kernel
theorem dX6_passes_2 : decode cX6_passes 2 = .ok (.iconst 0, 1) := by decide +kernel
theorem dX6_passes_3 : decode cX6_passes 3 = .ok (.istore_n 3, 1) := by decide +kernel
theorem dX6_passes_4 : decode cX6_passes 4 = .ok (.iload_n 3, 1) := by decide +kernel
theorem dX6_passes_5 : decode cX6_passes 5 = .ok (.iload_n 1, 1) := by decide +kernel
theorem dX6_passes_6 : decode cX6_passes 6 = .ok (.if_icmp .ge 16, 3) := by decide +kernel
theorem dX6_passes_9 : decode cX6_passes 9 = .ok (.iload_n 2, 1) := by decide +kernel
theorem dX6_passes_10 : decode cX6_passes 10 = .ok (.aload_n 0, 1) := by decide +kernel
theorem dX6_passes_11 : decode cX6_passes 11 = .ok (.invokevirtual 86, 3) := by decide +kernel
theorem dX6_passes_14 : decode cX6_passes 14 = .ok (.iadd, 1) := by decide +kernel
theorem dX6_passes_15 : decode cX6_passes 15 = .ok (.istore_n 2, 1) := by decide +kernel
theorem dX6_passes_16 : decode cX6_passes 16 = .ok (.iinc 3 1, 3) := by decide +kernel
theorem dX6_passes_19 : decode cX6_passes 19 = .ok (.goto (-15), 3) := by decide +kernel
theorem dX6_passes_22 : decode cX6_passes 22 = .ok (.iload_n 2, 1) := by decide +kernel
theorem dX6_passes_23 : decode cX6_passes 23 = .ok (.ireturn, 1) := by decide +kernel
theorem dX6_whyNotPass_0 : decode cX6_whyNotPass 0 = .ok (.iload_n 1, 1) := by decide +kernel
theorem dX6_whyNotPass_1 : decode cX6_whyNotPass 1 = .ok (.iconst 1, 1) := by decide +kernel
theorem dX6_whyNotPass_2 : decode cX6_whyNotPass 2 = .ok (.sipush 2000, 3) := by decide +kernel
theorem dX6_whyNotPass_5 : decode cX6_whyNotPass 5 = .ok (.invokestatic 33, 3) := by decide +kernel
theorem dX6_whyNotPass_8 : decode cX6_whyNotPass 8 = .ok (.ifCond .ne 9, 3) := by decide +kernel
theorem dX6_whyNotPass_11 : decode cX6_whyNotPass 11 = .ok (.sipush (-1002), 3) := by decide +kernel
theorem dX6_whyNotPass_14 : decode cX6_whyNotPass 14 = .ok (.goto 23, 3) := by decide +kernel
theorem dX6_whyNotPass_17 : decode cX6_whyNotPass 17 = .ok (.aload_n 0, 1) := by decide +kernel
theorem dX6_whyNotPass_18 : decode cX6_whyNotPass 18 = .ok (.getfield 7, 3) := by decide +kernel
theorem dX6_whyNotPass_21 : decode cX6_whyNotPass 21 = .ok (.iconst 0, 1) := by decide +kernel
theorem dX6_whyNotPass_22 : decode cX6_whyNotPass 22 = .ok (.iaload, 1) := by decide +kernel
theorem dX6_whyNotPass_23 : decode cX6_whyNotPass 23 = .ok (.iload_n 1, 1) := by decide +kernel
theorem dX6_whyNotPass_24 : decode cX6_whyNotPass 24 = .ok (.iadd, 1) := by decide +kernel
theorem dX6_whyNotPass_25 : decode cX6_whyNotPass 25 = .ok (.ldc 89, 2) := by decide +kernel
theorem dX6_whyNotPass_27 : decode cX6_whyNotPass 27 = .ok (.if_icmp .le 9, 3) := by decide +kernel
theorem dX6_whyNotPass_30 : decode cX6_whyNotPass 30 = .ok (.sipush (-1004), 3) := by decide +kernel
theorem dX6_whyNotPass_33 : decode cX6_whyNotPass 33 = .ok (.goto 4, 3) := by decide +kernel
theorem dX6_whyNotPass_36 : decode cX6_whyNotPass 36 = .ok (.iconst 0, 1) := by decide +kernel
theorem dX6_whyNotPass_37 : decode cX6_whyNotPass 37 = .ok (.ireturn, 1) := by decide +kernel
theorem dX6_pass_0 : decode cX6_pass 0 = .ok (.aload_n 0, 1) := by decide +kernel
theorem dX6_pass_1 : decode cX6_pass 1 = .ok (.iload_n 1, 1) := by decide +kernel
theorem dX6_pass_2 : decode cX6_pass 2 = .ok (.invokevirtual 90, 3) := by decide +kernel
theorem dX6_pass_5 : decode cX6_pass 5 = .ok (.istore_n 2, 1) := by decide +kernel
theorem dX6_pass_6 : decode cX6_pass 6 = .ok (.iload_n 2, 1) := by decide +kernel
theorem dX6_pass_7 : decode cX6_pass 7 = .ok (.ifCond .ge 5, 3) := by decide +kernel
theorem dX6_pass_10 : decode cX6_pass 10 = .ok (.iload_n 2, 1) := by decide +kernel
theorem dX6_pass_11 : decode cX6_pass 11 = .ok (.ireturn, 1) := by decide +kernel
theorem dX6_pass_12 : decode cX6_pass 12 = .ok (.aload_n 0, 1) := by decide +kernel
theorem dX6_pass_13 : decode cX6_pass 13 = .ok (.invokevirtual 45, 3) := by decide +kernel
theorem dX6_pass_16 : decode cX6_pass 16 = .ok (.aload_n 0, 1) := by decide +kernel
theorem dX6_pass_17 : decode cX6_pass 17 = .ok (.iload_n 1, 1) := by decide +kernel
theorem dX6_pass_18 : decode cX6_pass 18 = .ok (.invokevirtual 93, 3) := by decide +kernel
theorem dX6_pass_21 : decode cX6_pass 21 = .ok (.ireturn, 1) := by decide +kernel
theorem dX6_startOf_0 : decode cX6_startOf 0 = .ok (.aload_n 0, 1) := by decide +kernel
theorem dX6_startOf_1 : decode cX6_startOf 1 = .ok (.getfield 7, 3) := by decide +kernel
theorem dX6_startOf_4 : decode cX6_startOf 4 = .ok (.bipush 36, 2) := by decide +kernel
theorem dX6_startOf_6 : decode cX6_startOf 6 = .ok (.iconst 2, 1) := by decide +kernel
theorem dX6_startOf_7 : decode cX6_startOf 7 = .ok (.iload_n 1, 1) := by decide +kernel
theorem dX6_startOf_8 : decode cX6_startOf 8 = .ok (.imul, 1) := by decide +kernel
theorem dX6_startOf_9 : decode cX6_startOf 9 = .ok (.iadd, 1) := by decide +kernel
theorem dX6_startOf_10 : decode cX6_startOf 10 = .ok (.iaload, 1) := by decide +kernel
theorem dX6_startOf_11 : decode cX6_startOf 11 = .ok (.ireturn, 1) := by decide +kernel
theorem dX6_wrongOf_0 : decode cX6_wrongOf 0 = .ok (.aload_n 0, 1) := by decide +kernel
theorem dX6_wrongOf_1 : decode cX6_wrongOf 1 = .ok (.getfield 7, 3) := by decide +kernel
theorem dX6_wrongOf_4 : decode cX6_wrongOf 4 = .ok (.bipush 36, 2) := by decide +kernel
theorem dX6_wrongOf_6 : decode cX6_wrongOf 6 = .ok (.iconst 2, 1) := by decide +kernel
theorem dX6_wrongOf_7 : decode cX6_wrongOf 7 = .ok (.iload_n 1, 1) := by decide +kernel
theorem dX6_wrongOf_8 : decode cX6_wrongOf 8 = .ok (.imul, 1) := by decide +kernel
theorem dX6_wrongOf_9 : decode cX6_wrongOf 9 = .ok (.iadd, 1) := by decide +kernel
theorem dX6_wrongOf_10 : decode cX6_wrongOf 10 = .ok (.iconst 1, 1) := by decide +kernel
theorem dX6_wrongOf_11 : decode cX6_wrongOf 11 = .ok (.iadd, 1) := by decide +kernel
theorem dX6_wrongOf_12 : decode cX6_wrongOf 12 = .ok (.iaload, 1) := by decide +kernel
theorem dX6_wrongOf_13 : decode cX6_wrongOf 13 = .ok (.ireturn, 1) := by decide +kernel
theorem dX6_keeperBy_0 : decode cX6_keeperBy 0 = .ok (.sipush (-1000), 3) := by decide +kernel
theorem dX6_keeperBy_3 : decode cX6_keeperBy 3 = .ok (.istore_n 2, 1) := by decide +kernel
theorem dX6_keeperBy_4 : decode cX6_keeperBy 4 = .ok (.iconst 0, 1) := by decide +kernel
theorem dX6_keeperBy_5 : decode cX6_keeperBy 5 = .ok (.istore_n 3, 1) := by decide +kernel
theorem dX6_keeperBy_6 : decode cX6_keeperBy 6 = .ok (.iload_n 3, 1) := by decide +kernel
theorem dX6_keeperBy_7 : decode cX6_keeperBy 7 = .ok (.aload_n 0, 1) := by decide +kernel
theorem dX6_keeperBy_8 : decode cX6_keeperBy 8 = .ok (.getfield 7, 3) := by decide +kernel
theorem dX6_keeperBy_11 : decode cX6_keeperBy 11 = .ok (.bipush 7, 2) := by decide +kernel
theorem dX6_keeperBy_13 : decode cX6_keeperBy 13 = .ok (.iaload, 1) := by decide +kernel
theorem dX6_keeperBy_14 : decode cX6_keeperBy 14 = .ok (.if_icmp .ge 24, 3) := by decide +kernel
theorem dX6_keeperBy_17 : decode cX6_keeperBy 17 = .ok (.aload_n 0, 1) := by decide +kernel
theorem dX6_keeperBy_18 : decode cX6_keeperBy 18 = .ok (.iload_n 3, 1) := by decide +kernel
theorem dX6_keeperBy_19 : decode cX6_keeperBy 19 = .ok (.invokevirtual 96, 3) := by decide +kernel
theorem dX6_keeperBy_22 : decode cX6_keeperBy 22 = .ok (.iload_n 1, 1) := by decide +kernel
theorem dX6_keeperBy_23 : decode cX6_keeperBy 23 = .ok (.if_icmp .ne 7, 3) := by decide +kernel
theorem dX6_keeperBy_26 : decode cX6_keeperBy 26 = .ok (.iload_n 3, 1) := by decide +kernel
theorem dX6_keeperBy_27 : decode cX6_keeperBy 27 = .ok (.goto 4, 3) := by decide +kernel
theorem dX6_keeperBy_30 : decode cX6_keeperBy 30 = .ok (.iload_n 2, 1) := by decide +kernel
theorem dX6_keeperBy_31 : decode cX6_keeperBy 31 = .ok (.istore_n 2, 1) := by decide +kernel
theorem dX6_keeperBy_32 : decode cX6_keeperBy 32 = .ok (.iinc 3 1, 3) := by decide +kernel
theorem dX6_keeperBy_35 : decode cX6_keeperBy 35 = .ok (.goto (-29), 3) := by decide +kernel
theorem dX6_keeperBy_38 : decode cX6_keeperBy 38 = .ok (.iload_n 2, 1) := by decide +kernel
theorem dX6_keeperBy_39 : decode cX6_keeperBy 39 = .ok (.ireturn, 1) := by decide +kernel
theorem dX6_since_0 : decode cX6_since 0 = .ok (.iload_n 2, 1) := by decide +kernel
theorem dX6_since_1 : decode cX6_since 1 = .ok (.aload_n 0, 1) := by decide +kernel
theorem dX6_since_2 : decode cX6_since 2 = .ok (.iload_n 1, 1) := by decide +kernel
theorem dX6_since_3 : decode cX6_since 3 = .ok (.invokevirtual 96, 3) := by decide +kernel
theorem dX6_since_6 : decode cX6_since 6 = .ok (.isub, 1) := by decide +kernel
theorem dX6_since_7 : decode cX6_since 7 = .ok (.sipush 1440, 3) := by decide +kernel
theorem dX6_since_10 : decode cX6_since 10 = .ok (.iadd, 1) := by decide +kernel
theorem dX6_since_11 : decode cX6_since 11 = .ok (.sipush 1440, 3) := by decide +kernel
theorem dX6_since_14 : decode cX6_since 14 = .ok (.irem, 1) := by decide +kernel
theorem dX6_since_15 : decode cX6_since 15 = .ok (.ireturn, 1) := by decide +kernel
theorem dX6_onWatch_0 : decode cX6_onWatch 0 = .ok (.sipush (-1000), 3) := by decide +kernel
theorem dX6_onWatch_3 : decode cX6_onWatch 3 = .ok (.istore_n 2, 1) := by decide +kernel
theorem dX6_onWatch_4 : decode cX6_onWatch 4 = .ok (.iconst 0, 1) := by decide +kernel
theorem dX6_onWatch_5 : decode cX6_onWatch 5 = .ok (.istore_n 3, 1) := by decide +kernel
theorem dX6_onWatch_6 : decode cX6_onWatch 6 = .ok (.iload_n 3, 1) := by decide +kernel
theorem dX6_onWatch_7 : decode cX6_onWatch 7 = .ok (.aload_n 0, 1) := by decide +kernel
theorem dX6_onWatch_8 : decode cX6_onWatch 8 = .ok (.getfield 7, 3) := by decide +kernel
theorem dX6_onWatch_11 : decode cX6_onWatch 11 = .ok (.bipush 7, 2) := by decide +kernel
theorem dX6_onWatch_13 : decode cX6_onWatch 13 = .ok (.iaload, 1) := by decide +kernel
theorem dX6_onWatch_14 : decode cX6_onWatch 14 = .ok (.if_icmp .ge 37, 3) := by decide +kernel
theorem dX6_onWatch_17 : decode cX6_onWatch 17 = .ok (.iload_n 2, 1) := by decide +kernel
theorem dX6_onWatch_18 : decode cX6_onWatch 18 = .ok (.sipush (-1000), 3) := by decide +kernel
theorem dX6_onWatch_21 : decode cX6_onWatch 21 = .ok (.if_icmp .eq 18, 3) := by decide +kernel
theorem dX6_onWatch_24 : decode cX6_onWatch 24 = .ok (.aload_n 0, 1) := by decide +kernel
theorem dX6_onWatch_25 : decode cX6_onWatch 25 = .ok (.iload_n 3, 1) := by decide +kernel
theorem dX6_onWatch_26 : decode cX6_onWatch 26 = .ok (.iload_n 1, 1) := by decide +kernel
theorem dX6_onWatch_27 : decode cX6_onWatch 27 = .ok (.invokevirtual 99, 3) := by decide +kernel
theorem dX6_onWatch_30 : decode cX6_onWatch 30 = .ok (.aload_n 0, 1) := by decide +kernel
theorem dX6_onWatch_31 : decode cX6_onWatch 31 = .ok (.iload_n 2, 1) := by decide +kernel
theorem dX6_onWatch_32 : decode cX6_onWatch 32 = .ok (.iload_n 1, 1) := by decide +kernel
theorem dX6_onWatch_33 : decode cX6_onWatch 33 = .ok (.invokevirtual 99, 3) := by decide +kernel
theorem dX6_onWatch_36 : decode cX6_onWatch 36 = .ok (.if_icmp .ge 7, 3) := by decide +kernel
theorem dX6_onWatch_39 : decode cX6_onWatch 39 = .ok (.iload_n 3, 1) := by decide +kernel
theorem dX6_onWatch_40 : decode cX6_onWatch 40 = .ok (.goto 4, 3) := by decide +kernel
theorem dX6_onWatch_43 : decode cX6_onWatch 43 = .ok (.iload_n 2, 1) := by decide +kernel
theorem dX6_onWatch_44 : decode cX6_onWatch 44 = .ok (.istore_n 2, 1) := by decide +kernel
theorem dX6_onWatch_45 : decode cX6_onWatch 45 = .ok (.iinc 3 1, 3) := by decide +kernel
theorem dX6_onWatch_48 : decode cX6_onWatch 48 = .ok (.goto (-42), 3) := by decide +kernel
theorem dX6_onWatch_51 : decode cX6_onWatch 51 = .ok (.iload_n 2, 1) := by decide +kernel
theorem dX6_onWatch_52 : decode cX6_onWatch 52 = .ok (.ireturn, 1) := by decide +kernel
theorem dX6_whyNotHire_0 : decode cX6_whyNotHire 0 = .ok (.iload_n 1, 1) := by decide +kernel
theorem dX6_whyNotHire_1 : decode cX6_whyNotHire 1 = .ok (.iconst 0, 1) := by decide +kernel
theorem dX6_whyNotHire_2 : decode cX6_whyNotHire 2 = .ok (.sipush 1439, 3) := by decide +kernel
theorem dX6_whyNotHire_5 : decode cX6_whyNotHire 5 = .ok (.invokestatic 33, 3) := by decide +kernel
theorem dX6_whyNotHire_8 : decode cX6_whyNotHire 8 = .ok (.ifCond .eq 14, 3) := by decide +kernel
theorem dX6_whyNotHire_11 : decode cX6_whyNotHire 11 = .ok (.iload_n 2, 1) := by decide +kernel
theorem dX6_whyNotHire_12 : decode cX6_whyNotHire 12 = .ok (.bipush (-30), 2) := by decide +kernel
theorem dX6_whyNotHire_14 : decode cX6_whyNotHire 14 = .ok (.bipush 30, 2) := by decide +kernel
theorem dX6_whyNotHire_16 : decode cX6_whyNotHire 16 = .ok (.invokestatic 33, 3) := by decide +kernel
theorem dX6_whyNotHire_19 : decode cX6_whyNotHire 19 = .ok (.ifCond .ne 7, 3) := by decide +kernel
theorem dX6_whyNotHire_22 : decode cX6_whyNotHire 22 = .ok (.sipush (-1002), 3) := by decide +kernel
theorem dX6_whyNotHire_25 : decode cX6_whyNotHire 25 = .ok (.ireturn, 1) := by decide +kernel
theorem dX6_whyNotHire_26 : decode cX6_whyNotHire 26 = .ok (.aload_n 0, 1) := by decide +kernel
theorem dX6_whyNotHire_27 : decode cX6_whyNotHire 27 = .ok (.iload_n 1, 1) := by decide +kernel
theorem dX6_whyNotHire_28 : decode cX6_whyNotHire 28 = .ok (.invokevirtual 102, 3) := by decide +kernel
theorem dX6_whyNotHire_31 : decode cX6_whyNotHire 31 = .ok (.sipush (-1000), 3) := by decide +kernel
theorem dX6_whyNotHire_34 : decode cX6_whyNotHire 34 = .ok (.if_icmp .eq 9, 3) := by decide +kernel
theorem dX6_whyNotHire_37 : decode cX6_whyNotHire 37 = .ok (.sipush (-1003), 3) := by decide +kernel
theorem dX6_whyNotHire_40 : decode cX6_whyNotHire 40 = .ok (.goto 22, 3) := by decide +kernel
theorem dX6_whyNotHire_43 : decode cX6_whyNotHire 43 = .ok (.aload_n 0, 1) := by decide +kernel
theorem dX6_whyNotHire_44 : decode cX6_whyNotHire 44 = .ok (.getfield 7, 3) := by decide +kernel
theorem dX6_whyNotHire_47 : decode cX6_whyNotHire 47 = .ok (.bipush 7, 2) := by decide +kernel
theorem dX6_whyNotHire_49 : decode cX6_whyNotHire 49 = .ok (.iaload, 1) := by decide +kernel
theorem dX6_whyNotHire_50 : decode cX6_whyNotHire 50 = .ok (.bipush 6, 2) := by decide +kernel
theorem dX6_whyNotHire_52 : decode cX6_whyNotHire 52 = .ok (.if_icmp .ne 9, 3) := by decide +kernel
theorem dX6_whyNotHire_55 : decode cX6_whyNotHire 55 = .ok (.sipush (-1004), 3) := by decide +kernel
theorem dX6_whyNotHire_58 : decode cX6_whyNotHire 58 = .ok (.goto 4, 3) := by decide +kernel
theorem dX6_whyNotHire_61 : decode cX6_whyNotHire 61 = .ok (.iconst 0, 1) := by decide +kernel
theorem dX6_whyNotHire_62 : decode cX6_whyNotHire 62 = .ok (.ireturn, 1) := by decide +kernel
theorem dX6_hires_0 : decode cX6_hires 0 = .ok (.aload_n 0, 1) := by decide +kernel
theorem dX6_hires_1 : decode cX6_hires 1 = .ok (.getfield 7, 3) := by decide +kernel
theorem dX6_hires_4 : decode cX6_hires 4 = .ok (.bipush 36, 2) := by decide +kernel
theorem dX6_hires_6 : decode cX6_hires 6 = .ok (.iconst 2, 1) := by decide +kernel
theorem dX6_hires_7 : decode cX6_hires 7 = .ok (.aload_n 0, 1) := by decide +kernel
theorem dX6_hires_8 : decode cX6_hires 8 = .ok (.getfield 7, 3) := by decide +kernel
theorem dX6_hires_11 : decode cX6_hires 11 = .ok (.bipush 7, 2) := by decide +kernel
theorem dX6_hires_13 : decode cX6_hires 13 = .ok (.iaload, 1) := by decide +kernel
theorem dX6_hires_14 : decode cX6_hires 14 = .ok (.imul, 1) := by decide +kernel
theorem dX6_hires_15 : decode cX6_hires 15 = .ok (.iadd, 1) := by decide +kernel
theorem dX6_hires_16 : decode cX6_hires 16 = .ok (.iload_n 1, 1) := by decide +kernel
theorem dX6_hires_17 : decode cX6_hires 17 = .ok (.iastore, 1) := by decide +kernel
theorem dX6_hires_18 : decode cX6_hires 18 = .ok (.aload_n 0, 1) := by decide +kernel
theorem dX6_hires_19 : decode cX6_hires 19 = .ok (.getfield 7, 3) := by decide +kernel
theorem dX6_hires_22 : decode cX6_hires 22 = .ok (.bipush 36, 2) := by decide +kernel
theorem dX6_hires_24 : decode cX6_hires 24 = .ok (.iconst 2, 1) := by decide +kernel
theorem dX6_hires_25 : decode cX6_hires 25 = .ok (.aload_n 0, 1) := by decide +kernel
theorem dX6_hires_26 : decode cX6_hires 26 = .ok (.getfield 7, 3) := by decide +kernel
theorem dX6_hires_29 : decode cX6_hires 29 = .ok (.bipush 7, 2) := by decide +kernel
theorem dX6_hires_31 : decode cX6_hires 31 = .ok (.iaload, 1) := by decide +kernel
theorem dX6_hires_32 : decode cX6_hires 32 = .ok (.imul, 1) := by decide +kernel
theorem dX6_hires_33 : decode cX6_hires 33 = .ok (.iadd, 1) := by decide +kernel
theorem dX6_hires_34 : decode cX6_hires 34 = .ok (.iconst 1, 1) := by decide +kernel
theorem dX6_hires_35 : decode cX6_hires 35 = .ok (.iadd, 1) := by decide +kernel
theorem dX6_hires_36 : decode cX6_hires 36 = .ok (.iload_n 2, 1) := by decide +kernel
theorem dX6_hires_37 : decode cX6_hires 37 = .ok (.iastore, 1) := by decide +kernel
theorem dX6_hires_38 : decode cX6_hires 38 = .ok (.aload_n 0, 1) := by decide +kernel
theorem dX6_hires_39 : decode cX6_hires 39 = .ok (.getfield 7, 3) := by decide +kernel
theorem dX6_hires_42 : decode cX6_hires 42 = .ok (.bipush 7, 2) := by decide +kernel
theorem dX6_hires_44 : decode cX6_hires 44 = .ok (.dup2, 1) := by decide +kernel
theorem dX6_hires_45 : decode cX6_hires 45 = .ok (.iaload, 1) := by decide +kernel
theorem dX6_hires_46 : decode cX6_hires 46 = .ok (.iconst 1, 1) := by decide +kernel
theorem dX6_hires_47 : decode cX6_hires 47 = .ok (.iadd, 1) := by decide +kernel
theorem dX6_hires_48 : decode cX6_hires 48 = .ok (.iastore, 1) := by decide +kernel
theorem dX6_hires_49 : decode cX6_hires 49 = .ok (.aload_n 0, 1) := by decide +kernel
theorem dX6_hires_50 : decode cX6_hires 50 = .ok (.getfield 7, 3) := by decide +kernel
theorem dX6_hires_53 : decode cX6_hires 53 = .ok (.bipush 7, 2) := by decide +kernel
theorem dX6_hires_55 : decode cX6_hires 55 = .ok (.iaload, 1) := by decide +kernel
theorem dX6_hires_56 : decode cX6_hires 56 = .ok (.ireturn, 1) := by decide +kernel
theorem dX6_hire_0 : decode cX6_hire 0 = .ok (.aload_n 0, 1) := by decide +kernel
theorem dX6_hire_1 : decode cX6_hire 1 = .ok (.iload_n 1, 1) := by decide +kernel
theorem dX6_hire_2 : decode cX6_hire 2 = .ok (.iload_n 2, 1) := by decide +kernel
theorem dX6_hire_3 : decode cX6_hire 3 = .ok (.invokevirtual 105, 3) := by decide +kernel
theorem dX6_hire_6 : decode cX6_hire 6 = .ok (.istore_n 3, 1) := by decide +kernel
theorem dX6_hire_7 : decode cX6_hire 7 = .ok (.iload_n 3, 1) := by decide +kernel
theorem dX6_hire_8 : decode cX6_hire 8 = .ok (.ifCond .ge 5, 3) := by decide +kernel
theorem dX6_hire_11 : decode cX6_hire 11 = .ok (.iload_n 3, 1) := by decide +kernel
theorem dX6_hire_12 : decode cX6_hire 12 = .ok (.ireturn, 1) := by decide +kernel
theorem dX6_hire_13 : decode cX6_hire 13 = .ok (.aload_n 0, 1) := by decide +kernel
theorem dX6_hire_14 : decode cX6_hire 14 = .ok (.invokevirtual 45, 3) := by decide +kernel
theorem dX6_hire_17 : decode cX6_hire 17 = .ok (.aload_n 0, 1) := by decide +kernel
theorem dX6_hire_18 : decode cX6_hire 18 = .ok (.iload_n 1, 1) := by decide +kernel
theorem dX6_hire_19 : decode cX6_hire 19 = .ok (.iload_n 2, 1) := by decide +kernel
theorem dX6_hire_20 : decode cX6_hire 20 = .ok (.invokevirtual 108, 3) := by decide +kernel
theorem dX6_hire_23 : decode cX6_hire 23 = .ok (.ireturn, 1) := by decide +kernel
theorem dX6_dismiss_0 : decode cX6_dismiss 0 = .ok (.aload_n 0, 1) := by decide +kernel
theorem dX6_dismiss_1 : decode cX6_dismiss 1 = .ok (.iload_n 1, 1) := by decide +kernel
theorem dX6_dismiss_2 : decode cX6_dismiss 2 = .ok (.invokevirtual 102, 3) := by decide +kernel
theorem dX6_dismiss_5 : decode cX6_dismiss 5 = .ok (.istore_n 2, 1) := by decide +kernel
theorem dX6_dismiss_6 : decode cX6_dismiss 6 = .ok (.iload_n 2, 1) := by decide +kernel
theorem dX6_dismiss_7 : decode cX6_dismiss 7 = .ok (.sipush (-1000), 3) := by decide +kernel
theorem dX6_dismiss_10 : decode cX6_dismiss 10 = .ok (.if_icmp .ne 7, 3) := by decide +kernel
theorem dX6_dismiss_13 : decode cX6_dismiss 13 = .ok (.sipush (-1001), 3) := by decide +kernel
theorem dX6_dismiss_16 : decode cX6_dismiss 16 = .ok (.ireturn, 1) := by decide +kernel
theorem dX6_dismiss_17 : decode cX6_dismiss 17 = .ok (.aload_n 0, 1) := by decide +kernel
theorem dX6_dismiss_18 : decode cX6_dismiss 18 = .ok (.invokevirtual 45, 3) := by decide +kernel
theorem dX6_dismiss_21 : decode cX6_dismiss 21 = .ok (.aload_n 0, 1) := by decide +kernel
theorem dX6_dismiss_22 : decode cX6_dismiss 22 = .ok (.iload_n 2, 1) := by decide +kernel
theorem dX6_dismiss_23 : decode cX6_dismiss 23 = .ok (.invokevirtual 111, 3) := by decide +kernel
theorem dX6_dismiss_26 : decode cX6_dismiss 26 = .ok (.istore_n 3, 1) := by decide +kernel
theorem dX6_dismiss_27 : decode cX6_dismiss 27 = .ok (.aload_n 0, 1) := by decide +kernel
theorem dX6_dismiss_28 : decode cX6_dismiss 28 = .ok (.getfield 7, 3) := by decide +kernel
theorem dX6_dismiss_31 : decode cX6_dismiss 31 = .ok (.bipush 7, 2) := by decide +kernel
theorem dX6_dismiss_33 : decode cX6_dismiss 33 = .ok (.dup2, 1) := by decide +kernel
theorem dX6_dismiss_34 : decode cX6_dismiss 34 = .ok (.iaload, 1) := by decide +kernel
theorem dX6_dismiss_35 : decode cX6_dismiss 35 = .ok (.iconst 1, 1) := by decide +kernel
theorem dX6_dismiss_36 : decode cX6_dismiss 36 = .ok (.isub, 1) := by decide +kernel
theorem dX6_dismiss_37 : decode cX6_dismiss 37 = .ok (.iastore, 1) := by decide +kernel
theorem dX6_dismiss_38 : decode cX6_dismiss 38 = .ok (.aload_n 0, 1) := by decide +kernel
theorem dX6_dismiss_39 : decode cX6_dismiss 39 = .ok (.getfield 7, 3) := by decide +kernel
theorem dX6_dismiss_42 : decode cX6_dismiss 42 = .ok (.bipush 36, 2) := by decide +kernel
theorem dX6_dismiss_44 : decode cX6_dismiss 44 = .ok (.iconst 2, 1) := by decide +kernel
theorem dX6_dismiss_45 : decode cX6_dismiss 45 = .ok (.iload_n 2, 1) := by decide +kernel
theorem dX6_dismiss_46 : decode cX6_dismiss 46 = .ok (.imul, 1) := by decide +kernel
theorem dX6_dismiss_47 : decode cX6_dismiss 47 = .ok (.iadd, 1) := by decide +kernel
theorem dX6_dismiss_48 : decode cX6_dismiss 48 = .ok (.aload_n 0, 1) := by decide +kernel
theorem dX6_dismiss_49 : decode cX6_dismiss 49 = .ok (.aload_n 0, 1) := by decide +kernel
theorem dX6_dismiss_50 : decode cX6_dismiss 50 = .ok (.getfield 7, 3) := by decide +kernel
theorem dX6_dismiss_53 : decode cX6_dismiss 53 = .ok (.bipush 7, 2) := by decide +kernel
theorem dX6_dismiss_55 : decode cX6_dismiss 55 = .ok (.iaload, 1) := by decide +kernel
theorem dX6_dismiss_56 : decode cX6_dismiss 56 = .ok (.invokevirtual 96, 3) := by decide +kernel
theorem dX6_dismiss_59 : decode cX6_dismiss 59 = .ok (.iastore, 1) := by decide +kernel
theorem dX6_dismiss_60 : decode cX6_dismiss 60 = .ok (.aload_n 0, 1) := by decide +kernel
theorem dX6_dismiss_61 : decode cX6_dismiss 61 = .ok (.getfield 7, 3) := by decide +kernel
theorem dX6_dismiss_64 : decode cX6_dismiss 64 = .ok (.bipush 36, 2) := by decide +kernel
theorem dX6_dismiss_66 : decode cX6_dismiss 66 = .ok (.iconst 2, 1) := by decide +kernel
theorem dX6_dismiss_67 : decode cX6_dismiss 67 = .ok (.iload_n 2, 1) := by decide +kernel
theorem dX6_dismiss_68 : decode cX6_dismiss 68 = .ok (.imul, 1) := by decide +kernel
theorem dX6_dismiss_69 : decode cX6_dismiss 69 = .ok (.iadd, 1) := by decide +kernel
theorem dX6_dismiss_70 : decode cX6_dismiss 70 = .ok (.iconst 1, 1) := by decide +kernel
theorem dX6_dismiss_71 : decode cX6_dismiss 71 = .ok (.iadd, 1) := by decide +kernel
theorem dX6_dismiss_72 : decode cX6_dismiss 72 = .ok (.aload_n 0, 1) := by decide +kernel
theorem dX6_dismiss_73 : decode cX6_dismiss 73 = .ok (.aload_n 0, 1) := by decide +kernel
theorem dX6_dismiss_74 : decode cX6_dismiss 74 = .ok (.getfield 7, 3) := by decide +kernel
theorem dX6_dismiss_77 : decode cX6_dismiss 77 = .ok (.bipush 7, 2) := by decide +kernel
theorem dX6_dismiss_79 : decode cX6_dismiss 79 = .ok (.iaload, 1) := by decide +kernel
theorem dX6_dismiss_80 : decode cX6_dismiss 80 = .ok (.invokevirtual 111, 3) := by decide +kernel
theorem dX6_dismiss_83 : decode cX6_dismiss 83 = .ok (.iastore, 1) := by decide +kernel
theorem dX6_dismiss_84 : decode cX6_dismiss 84 = .ok (.iload_n 3, 1) := by decide +kernel
theorem dX6_dismiss_85 : decode cX6_dismiss 85 = .ok (.ireturn, 1) := by decide +kernel
theorem dX6_timeOf_0 : decode cX6_timeOf 0 = .ok (.aload_n 0, 1) := by decide +kernel
theorem dX6_timeOf_1 : decode cX6_timeOf 1 = .ok (.getfield 7, 3) := by decide +kernel
theorem dX6_timeOf_4 : decode cX6_timeOf 4 = .ok (.iconst 0, 1) := by decide +kernel
theorem dX6_timeOf_5 : decode cX6_timeOf 5 = .ok (.iaload, 1) := by decide +kernel
theorem dX6_timeOf_6 : decode cX6_timeOf 6 = .ok (.sipush 720, 3) := by decide +kernel
theorem dX6_timeOf_9 : decode cX6_timeOf 9 = .ok (.irem, 1) := by decide +kernel
theorem dX6_timeOf_10 : decode cX6_timeOf 10 = .ok (.aload_n 0, 1) := by decide +kernel
theorem dX6_timeOf_11 : decode cX6_timeOf 11 = .ok (.iload_n 1, 1) := by decide +kernel
theorem dX6_timeOf_12 : decode cX6_timeOf 12 = .ok (.invokevirtual 111, 3) := by decide +kernel
theorem dX6_timeOf_15 : decode cX6_timeOf 15 = .ok (.iadd, 1) := by decide +kernel
theorem dX6_timeOf_16 : decode cX6_timeOf 16 = .ok (.sipush 720, 3) := by decide +kernel
theorem dX6_timeOf_19 : decode cX6_timeOf 19 = .ok (.iadd, 1) := by decide +kernel
theorem dX6_timeOf_20 : decode cX6_timeOf 20 = .ok (.sipush 720, 3) := by decide +kernel
theorem dX6_timeOf_23 : decode cX6_timeOf 23 = .ok (.irem, 1) := by decide +kernel
theorem dX6_timeOf_24 : decode cX6_timeOf 24 = .ok (.ireturn, 1) := by decide +kernel
theorem dX6_resets_0 : decode cX6_resets 0 = .ok (.aload_n 0, 1) := by decide +kernel
theorem dX6_resets_1 : decode cX6_resets 1 = .ok (.aload_n 0, 1) := by decide +kernel
theorem dX6_resets_2 : decode cX6_resets 2 = .ok (.aload_n 0, 1) := by decide +kernel
theorem dX6_resets_3 : decode cX6_resets 3 = .ok (.invokevirtual 79, 3) := by decide +kernel
theorem dX6_resets_6 : decode cX6_resets 6 = .ok (.invokevirtual 114, 3) := by decide +kernel
theorem dX6_resets_9 : decode cX6_resets 9 = .ok (.invokevirtual 117, 3) := by decide +kernel
theorem dX6_resets_12 : decode cX6_resets 12 = .ok (.istore_n 1, 1) := by decide +kernel
theorem dX6_resets_13 : decode cX6_resets 13 = .ok (.iconst 0, 1) := by decide +kernel
theorem dX6_resets_14 : decode cX6_resets 14 = .ok (.istore_n 2, 1) := by decide +kernel
theorem dX6_resets_15 : decode cX6_resets 15 = .ok (.iconst 0, 1) := by decide +kernel
theorem dX6_resets_16 : decode cX6_resets 16 = .ok (.istore_n 3, 1) := by decide +kernel
theorem dX6_resets_17 : decode cX6_resets 17 = .ok (.iload_n 3, 1) := by decide +kernel
theorem dX6_resets_18 : decode cX6_resets 18 = .ok (.iconst 4, 1) := by decide +kernel
theorem dX6_resets_19 : decode cX6_resets 19 = .ok (.if_icmp .ge 45, 3) := by decide +kernel
theorem dX6_resets_22 : decode cX6_resets 22 = .ok (.aload_n 0, 1) := by decide +kernel
theorem dX6_resets_23 : decode cX6_resets 23 = .ok (.iload_n 3, 1) := by decide +kernel
theorem dX6_resets_24 : decode cX6_resets 24 = .ok (.iconst 0, 1) := by decide +kernel
theorem dX6_resets_25 : decode cX6_resets 25 = .ok (.invokevirtual 56, 3) := by decide +kernel
theorem dX6_resets_28 : decode cX6_resets 28 = .ok (.iload_n 1, 1) := by decide +kernel
theorem dX6_resets_29 : decode cX6_resets 29 = .ok (.invokestatic 64, 3) := by decide +kernel
theorem dX6_resets_32 : decode cX6_resets 32 = .ok (.aload_n 0, 1) := by decide +kernel
theorem dX6_resets_33 : decode cX6_resets 33 = .ok (.getfield 7, 3) := by decide +kernel
theorem dX6_resets_36 : decode cX6_resets 36 = .ok (.iconst 2, 1) := by decide +kernel
theorem dX6_resets_37 : decode cX6_resets 37 = .ok (.iaload, 1) := by decide +kernel
theorem dX6_resets_38 : decode cX6_resets 38 = .ok (.if_icmp .le 20, 3) := by decide +kernel
theorem dX6_resets_41 : decode cX6_resets 41 = .ok (.aload_n 0, 1) := by decide +kernel
theorem dX6_resets_42 : decode cX6_resets 42 = .ok (.iload_n 3, 1) := by decide +kernel
theorem dX6_resets_43 : decode cX6_resets 43 = .ok (.iconst 0, 1) := by decide +kernel
theorem dX6_resets_44 : decode cX6_resets 44 = .ok (.iload_n 1, 1) := by decide +kernel
theorem dX6_resets_45 : decode cX6_resets 45 = .ok (.invokevirtual 29, 3) := by decide +kernel
theorem dX6_resets_48 : decode cX6_resets 48 = .ok (.aload_n 0, 1) := by decide +kernel
theorem dX6_resets_49 : decode cX6_resets 49 = .ok (.iload_n 3, 1) := by decide +kernel
theorem dX6_resets_50 : decode cX6_resets 50 = .ok (.iconst 2, 1) := by decide +kernel
theorem dX6_resets_51 : decode cX6_resets 51 = .ok (.iconst 0, 1) := by decide +kernel
theorem dX6_resets_52 : decode cX6_resets 52 = .ok (.invokevirtual 29, 3) := by decide +kernel
theorem dX6_resets_55 : decode cX6_resets 55 = .ok (.iinc 2 1, 3) := by decide +kernel
theorem dX6_resets_58 : decode cX6_resets 58 = .ok (.iinc 3 1, 3) := by decide +kernel
theorem dX6_resets_61 : decode cX6_resets 61 = .ok (.goto (-44), 3) := by decide +kernel
theorem dX6_resets_64 : decode cX6_resets 64 = .ok (.aload_n 0, 1) := by decide +kernel
theorem dX6_resets_65 : decode cX6_resets 65 = .ok (.getfield 7, 3) := by decide +kernel
theorem dX6_resets_68 : decode cX6_resets 68 = .ok (.bipush 6, 2) := by decide +kernel
theorem dX6_resets_70 : decode cX6_resets 70 = .ok (.dup2, 1) := by decide +kernel
theorem dX6_resets_71 : decode cX6_resets 71 = .ok (.iaload, 1) := by decide +kernel
theorem dX6_resets_72 : decode cX6_resets 72 = .ok (.iload_n 2, 1) := by decide +kernel
theorem dX6_resets_73 : decode cX6_resets 73 = .ok (.iadd, 1) := by decide +kernel
theorem dX6_resets_74 : decode cX6_resets 74 = .ok (.iastore, 1) := by decide +kernel
theorem dX6_resets_75 : decode cX6_resets 75 = .ok (.iload_n 2, 1) := by decide +kernel
theorem dX6_resets_76 : decode cX6_resets 76 = .ok (.ireturn, 1) := by decide +kernel
theorem dX6_reset_0 : decode cX6_reset 0 = .ok (.aload_n 0, 1) := by decide +kernel
theorem dX6_reset_1 : decode cX6_reset 1 = .ok (.getfield 7, 3) := by decide +kernel
theorem dX6_reset_4 : decode cX6_reset 4 = .ok (.bipush 7, 2) := by decide +kernel
theorem dX6_reset_6 : decode cX6_reset 6 = .ok (.iaload, 1) := by decide +kernel
theorem dX6_reset_7 : decode cX6_reset 7 = .ok (.ifCond .ne 7, 3) := by decide +kernel
theorem dX6_reset_10 : decode cX6_reset 10 = .ok (.sipush (-1003), 3) := by decide +kernel
theorem dX6_reset_13 : decode cX6_reset 13 = .ok (.ireturn, 1) := by decide +kernel
theorem dX6_reset_14 : decode cX6_reset 14 = .ok (.aload_n 0, 1) := by decide +kernel
theorem dX6_reset_15 : decode cX6_reset 15 = .ok (.invokevirtual 45, 3) := by decide +kernel
theorem dX6_reset_18 : decode cX6_reset 18 = .ok (.aload_n 0, 1) := by decide +kernel
theorem dX6_reset_19 : decode cX6_reset 19 = .ok (.invokevirtual 83, 3) := by decide +kernel
theorem dX6_reset_22 : decode cX6_reset 22 = .ok (.ireturn, 1) := by decide +kernel
theorem dX6_keeper_0 : decode cX6_keeper 0 = .ok (.iload_n 1, 1) := by decide +kernel
theorem dX6_keeper_1 : decode cX6_keeper 1 = .ok (.iconst 0, 1) := by decide +kernel
theorem dX6_keeper_2 : decode cX6_keeper 2 = .ok (.sipush 1439, 3) := by decide +kernel
theorem dX6_keeper_5 : decode cX6_keeper 5 = .ok (.invokestatic 33, 3) := by decide +kernel
theorem dX6_keeper_8 : decode cX6_keeper 8 = .ok (.ifCond .eq 12, 3) := by decide +kernel
theorem dX6_keeper_11 : decode cX6_keeper 11 = .ok (.iload_n 2, 1) := by decide +kernel
theorem dX6_keeper_12 : decode cX6_keeper 12 = .ok (.iconst 0, 1) := by decide +kernel
theorem dX6_keeper_13 : decode cX6_keeper 13 = .ok (.iconst 2, 1) := by decide +kernel
theorem dX6_keeper_14 : decode cX6_keeper 14 = .ok (.invokestatic 33, 3) := by decide +kernel
theorem dX6_keeper_17 : decode cX6_keeper 17 = .ok (.ifCond .ne 7, 3) := by decide +kernel
theorem dX6_keeper_20 : decode cX6_keeper 20 = .ok (.sipush (-1002), 3) := by decide +kernel
theorem dX6_keeper_23 : decode cX6_keeper 23 = .ok (.ireturn, 1) := by decide +kernel
theorem dX6_keeper_24 : decode cX6_keeper 24 = .ok (.aload_n 0, 1) := by decide +kernel
theorem dX6_keeper_25 : decode cX6_keeper 25 = .ok (.iload_n 1, 1) := by decide +kernel
theorem dX6_keeper_26 : decode cX6_keeper 26 = .ok (.invokevirtual 114, 3) := by decide +kernel
theorem dX6_keeper_29 : decode cX6_keeper 29 = .ok (.istore_n 3, 1) := by decide +kernel
theorem dX6_keeper_30 : decode cX6_keeper 30 = .ok (.iload_n 3, 1) := by decide +kernel
theorem dX6_keeper_31 : decode cX6_keeper 31 = .ok (.sipush (-1000), 3) := by decide +kernel
theorem dX6_keeper_34 : decode cX6_keeper 34 = .ok (.if_icmp .ne 7, 3) := by decide +kernel
theorem dX6_keeper_37 : decode cX6_keeper 37 = .ok (.sipush (-1000), 3) := by decide +kernel
theorem dX6_keeper_40 : decode cX6_keeper 40 = .ok (.ireturn, 1) := by decide +kernel
theorem dX6_keeper_41 : decode cX6_keeper 41 = .ok (.sipush 1440, 3) := by decide +kernel
theorem dX6_keeper_44 : decode cX6_keeper 44 = .ok (.istore 4, 2) := by decide +kernel
theorem dX6_keeper_46 : decode cX6_keeper 46 = .ok (.iconst 0, 1) := by decide +kernel
theorem dX6_keeper_47 : decode cX6_keeper 47 = .ok (.istore 5, 2) := by decide +kernel
theorem dX6_keeper_49 : decode cX6_keeper 49 = .ok (.iload 5, 2) := by decide +kernel
theorem dX6_keeper_51 : decode cX6_keeper 51 = .ok (.aload_n 0, 1) := by decide +kernel
theorem dX6_keeper_52 : decode cX6_keeper 52 = .ok (.getfield 7, 3) := by decide +kernel
theorem dX6_keeper_55 : decode cX6_keeper 55 = .ok (.bipush 7, 2) := by decide +kernel
theorem dX6_keeper_57 : decode cX6_keeper 57 = .ok (.iaload, 1) := by decide +kernel
theorem dX6_keeper_58 : decode cX6_keeper 58 = .ok (.if_icmp .ge 49, 3) := by decide +kernel
theorem dX6_keeper_61 : decode cX6_keeper 61 = .ok (.aload_n 0, 1) := by decide +kernel
theorem dX6_keeper_62 : decode cX6_keeper 62 = .ok (.iload 5, 2) := by decide +kernel
theorem dX6_keeper_64 : decode cX6_keeper 64 = .ok (.invokevirtual 96, 3) := by decide +kernel
theorem dX6_keeper_67 : decode cX6_keeper 67 = .ok (.iload_n 1, 1) := by decide +kernel
theorem dX6_keeper_68 : decode cX6_keeper 68 = .ok (.isub, 1) := by decide +kernel
theorem dX6_keeper_69 : decode cX6_keeper 69 = .ok (.sipush 1440, 3) := by decide +kernel
theorem dX6_keeper_72 : decode cX6_keeper 72 = .ok (.iadd, 1) := by decide +kernel
theorem dX6_keeper_73 : decode cX6_keeper 73 = .ok (.sipush 1440, 3) := by decide +kernel
theorem dX6_keeper_76 : decode cX6_keeper 76 = .ok (.irem, 1) := by decide +kernel
theorem dX6_keeper_77 : decode cX6_keeper 77 = .ok (.istore 6, 2) := by decide +kernel
theorem dX6_keeper_79 : decode cX6_keeper 79 = .ok (.iload 5, 2) := by decide +kernel
theorem dX6_keeper_81 : decode cX6_keeper 81 = .ok (.iload_n 3, 1) := by decide +kernel
theorem dX6_keeper_82 : decode cX6_keeper 82 = .ok (.if_icmp .eq 15, 3) := by decide +kernel
theorem dX6_keeper_85 : decode cX6_keeper 85 = .ok (.iload 6, 2) := by decide +kernel
theorem dX6_keeper_87 : decode cX6_keeper 87 = .ok (.iload 4, 2) := by decide +kernel
theorem dX6_keeper_89 : decode cX6_keeper 89 = .ok (.if_icmp .ge 8, 3) := by decide +kernel
theorem dX6_keeper_92 : decode cX6_keeper 92 = .ok (.iload 6, 2) := by decide +kernel
theorem dX6_keeper_94 : decode cX6_keeper 94 = .ok (.goto 5, 3) := by decide +kernel
theorem dX6_keeper_97 : decode cX6_keeper 97 = .ok (.iload 4, 2) := by decide +kernel
theorem dX6_keeper_99 : decode cX6_keeper 99 = .ok (.istore 4, 2) := by decide +kernel
theorem dX6_keeper_101 : decode cX6_keeper 101 = .ok (.iinc 5 1, 3) := by decide +kernel
theorem dX6_keeper_104 : decode cX6_keeper 104 = .ok (.goto (-55), 3) := by decide +kernel
theorem dX6_keeper_107 : decode cX6_keeper 107 = .ok (.iload_n 2, 1) := by decide +kernel
theorem dX6_keeper_108 : decode cX6_keeper 108 = .ok (.ifCond .ne 11, 3) := by decide +kernel
theorem dX6_keeper_111 : decode cX6_keeper 111 = .ok (.aload_n 0, 1) := by decide +kernel
theorem dX6_keeper_112 : decode cX6_keeper 112 = .ok (.iload_n 3, 1) := by decide +kernel
theorem dX6_keeper_113 : decode cX6_keeper 113 = .ok (.invokevirtual 96, 3) := by decide +kernel
theorem dX6_keeper_116 : decode cX6_keeper 116 = .ok (.goto 18, 3) := by decide +kernel
theorem dX6_keeper_119 : decode cX6_keeper 119 = .ok (.iload_n 2, 1) := by decide +kernel
theorem dX6_keeper_120 : decode cX6_keeper 120 = .ok (.iconst 1, 1) := by decide +kernel
theorem dX6_keeper_121 : decode cX6_keeper 121 = .ok (.if_icmp .ne 11, 3) := by decide +kernel
theorem dX6_keeper_124 : decode cX6_keeper 124 = .ok (.aload_n 0, 1) := by decide +kernel
theorem dX6_keeper_125 : decode cX6_keeper 125 = .ok (.iload_n 3, 1) := by decide +kernel
theorem dX6_keeper_126 : decode cX6_keeper 126 = .ok (.invokevirtual 111, 3) := by decide +kernel
theorem dX6_keeper_129 : decode cX6_keeper 129 = .ok (.goto 5, 3) := by decide +kernel
theorem dX6_keeper_132 : decode cX6_keeper 132 = .ok (.iload 4, 2) := by decide +kernel
theorem dX6_keeper_134 : decode cX6_keeper 134 = .ok (.ireturn, 1) := by decide +kernel
theorem dX6_keeperTime_0 : decode cX6_keeperTime 0 = .ok (.aload_n 0, 1) := by decide +kernel
theorem dX6_keeperTime_1 : decode cX6_keeperTime 1 = .ok (.getfield 7, 3) := by decide +kernel
theorem dX6_keeperTime_4 : decode cX6_keeperTime 4 = .ok (.bipush 7, 2) := by decide +kernel
theorem dX6_keeperTime_6 : decode cX6_keeperTime 6 = .ok (.iaload, 1) := by decide +kernel
theorem dX6_keeperTime_7 : decode cX6_keeperTime 7 = .ok (.ifCond .ne 9, 3) := by decide +kernel
theorem dX6_keeperTime_10 : decode cX6_keeperTime 10 = .ok (.sipush (-1000), 3) := by decide +kernel
theorem dX6_keeperTime_13 : decode cX6_keeperTime 13 = .ok (.goto 15, 3) := by decide +kernel
theorem dX6_keeperTime_16 : decode cX6_keeperTime 16 = .ok (.aload_n 0, 1) := by decide +kernel
theorem dX6_keeperTime_17 : decode cX6_keeperTime 17 = .ok (.aload_n 0, 1) := by decide +kernel
theorem dX6_keeperTime_18 : decode cX6_keeperTime 18 = .ok (.aload_n 0, 1) := by decide +kernel
theorem dX6_keeperTime_19 : decode cX6_keeperTime 19 = .ok (.invokevirtual 79, 3) := by decide +kernel
theorem dX6_keeperTime_22 : decode cX6_keeperTime 22 = .ok (.invokevirtual 114, 3) := by decide +kernel
theorem dX6_keeperTime_25 : decode cX6_keeperTime 25 = .ok (.invokevirtual 117, 3) := by decide +kernel
theorem dX6_keeperTime_28 : decode cX6_keeperTime 28 = .ok (.ireturn, 1) := by decide +kernel
theorem dX6_face_0 : decode cX6_face 0 = .ok (.iload_n 1, 1) := by decide +kernel
theorem dX6_face_1 : decode cX6_face 1 = .ok (.invokestatic 52, 3) := by decide +kernel
theorem dX6_face_4 : decode cX6_face 4 = .ok (.ifCond .ne 7, 3) := by decide +kernel
theorem dX6_face_7 : decode cX6_face 7 = .ok (.sipush (-1001), 3) := by decide +kernel
theorem dX6_face_10 : decode cX6_face 10 = .ok (.ireturn, 1) := by decide +kernel
theorem dX6_face_11 : decode cX6_face 11 = .ok (.iload_n 2, 1) := by decide +kernel
theorem dX6_face_12 : decode cX6_face 12 = .ok (.bipush 7, 2) := by decide +kernel
theorem dX6_face_14 : decode cX6_face 14 = .ok (.if_icmp .ne 25, 3) := by decide +kernel
theorem dX6_face_17 : decode cX6_face 17 = .ok (.aload_n 0, 1) := by decide +kernel
theorem dX6_face_18 : decode cX6_face 18 = .ok (.iload_n 1, 1) := by decide +kernel
theorem dX6_face_19 : decode cX6_face 19 = .ok (.iconst 0, 1) := by decide +kernel
theorem dX6_face_20 : decode cX6_face 20 = .ok (.invokevirtual 56, 3) := by decide +kernel
theorem dX6_face_23 : decode cX6_face 23 = .ok (.aload_n 0, 1) := by decide +kernel
theorem dX6_face_24 : decode cX6_face 24 = .ok (.getfield 7, 3) := by decide +kernel
theorem dX6_face_27 : decode cX6_face 27 = .ok (.iconst 0, 1) := by decide +kernel
theorem dX6_face_28 : decode cX6_face 28 = .ok (.iaload, 1) := by decide +kernel
theorem dX6_face_29 : decode cX6_face 29 = .ok (.sipush 720, 3) := by decide +kernel
theorem dX6_face_32 : decode cX6_face 32 = .ok (.irem, 1) := by decide +kernel
theorem dX6_face_33 : decode cX6_face 33 = .ok (.invokestatic 64, 3) := by decide +kernel
theorem dX6_face_36 : decode cX6_face 36 = .ok (.goto 25, 3) := by decide +kernel
theorem dX6_face_39 : decode cX6_face 39 = .ok (.iload_n 2, 1) := by decide +kernel
theorem dX6_face_40 : decode cX6_face 40 = .ok (.iconst 0, 1) := by decide +kernel
theorem dX6_face_41 : decode cX6_face 41 = .ok (.bipush 6, 2) := by decide +kernel
theorem dX6_face_43 : decode cX6_face 43 = .ok (.invokestatic 33, 3) := by decide +kernel
theorem dX6_face_46 : decode cX6_face 46 = .ok (.ifCond .eq 12, 3) := by decide +kernel
theorem dX6_face_49 : decode cX6_face 49 = .ok (.aload_n 0, 1) := by decide +kernel
theorem dX6_face_50 : decode cX6_face 50 = .ok (.iload_n 1, 1) := by decide +kernel
theorem dX6_face_51 : decode cX6_face 51 = .ok (.iload_n 2, 1) := by decide +kernel
theorem dX6_face_52 : decode cX6_face 52 = .ok (.invokevirtual 56, 3) := by decide +kernel
theorem dX6_face_55 : decode cX6_face 55 = .ok (.goto 6, 3) := by decide +kernel
theorem dX6_face_58 : decode cX6_face 58 = .ok (.sipush (-1002), 3) := by decide +kernel
theorem dX6_face_61 : decode cX6_face 61 = .ok (.ireturn, 1) := by decide +kernel
theorem dX6_sum_0 : decode cX6_sum 0 = .ok (.iconst 0, 1) := by decide +kernel
theorem dX6_sum_1 : decode cX6_sum 1 = .ok (.istore_n 2, 1) := by decide +kernel
theorem dX6_sum_2 : decode cX6_sum 2 = .ok (.iconst 0, 1) := by decide +kernel
theorem dX6_sum_3 : decode cX6_sum 3 = .ok (.istore_n 3, 1) := by decide +kernel
theorem dX6_sum_4 : decode cX6_sum 4 = .ok (.iload_n 3, 1) := by decide +kernel
theorem dX6_sum_5 : decode cX6_sum 5 = .ok (.iconst 4, 1) := by decide +kernel
theorem dX6_sum_6 : decode cX6_sum 6 = .ok (.if_icmp .ge 18, 3) := by decide +kernel
theorem dX6_sum_9 : decode cX6_sum 9 = .ok (.iload_n 2, 1) := by decide +kernel
theorem dX6_sum_10 : decode cX6_sum 10 = .ok (.aload_n 0, 1) := by decide +kernel
theorem dX6_sum_11 : decode cX6_sum 11 = .ok (.iload_n 3, 1) := by decide +kernel
theorem dX6_sum_12 : decode cX6_sum 12 = .ok (.iload_n 1, 1) := by decide +kernel
theorem dX6_sum_13 : decode cX6_sum 13 = .ok (.invokevirtual 56, 3) := by decide +kernel
theorem dX6_sum_16 : decode cX6_sum 16 = .ok (.iadd, 1) := by decide +kernel
theorem dX6_sum_17 : decode cX6_sum 17 = .ok (.istore_n 2, 1) := by decide +kernel
theorem dX6_sum_18 : decode cX6_sum 18 = .ok (.iinc 3 1, 3) := by decide +kernel
theorem dX6_sum_21 : decode cX6_sum 21 = .ok (.goto (-17), 3) := by decide +kernel
theorem dX6_sum_24 : decode cX6_sum 24 = .ok (.iload_n 2, 1) := by decide +kernel
theorem dX6_sum_25 : decode cX6_sum 25 = .ok (.ireturn, 1) := by decide +kernel
theorem dX6_spread_0 : decode cX6_spread 0 = .ok (.iconst 0, 1) := by decide +kernel
theorem dX6_spread_1 : decode cX6_spread 1 = .ok (.istore_n 1, 1) := by decide +kernel
theorem dX6_spread_2 : decode cX6_spread 2 = .ok (.iconst 0, 1) := by decide +kernel
theorem dX6_spread_3 : decode cX6_spread 3 = .ok (.istore_n 2, 1) := by decide +kernel
theorem dX6_spread_4 : decode cX6_spread 4 = .ok (.iload_n 2, 1) := by decide +kernel
theorem dX6_spread_5 : decode cX6_spread 5 = .ok (.iconst 4, 1) := by decide +kernel
theorem dX6_spread_6 : decode cX6_spread 6 = .ok (.if_icmp .ge 52, 3) := by decide +kernel
theorem dX6_spread_9 : decode cX6_spread 9 = .ok (.iconst 0, 1) := by decide +kernel
theorem dX6_spread_10 : decode cX6_spread 10 = .ok (.istore_n 3, 1) := by decide +kernel
theorem dX6_spread_11 : decode cX6_spread 11 = .ok (.iload_n 3, 1) := by decide +kernel
theorem dX6_spread_12 : decode cX6_spread 12 = .ok (.iload_n 2, 1) := by decide +kernel
theorem dX6_spread_13 : decode cX6_spread 13 = .ok (.if_icmp .ge 39, 3) := by decide +kernel
theorem dX6_spread_16 : decode cX6_spread 16 = .ok (.aload_n 0, 1) := by decide +kernel
theorem dX6_spread_17 : decode cX6_spread 17 = .ok (.iload_n 2, 1) := by decide +kernel
theorem dX6_spread_18 : decode cX6_spread 18 = .ok (.iconst 0, 1) := by decide +kernel
theorem dX6_spread_19 : decode cX6_spread 19 = .ok (.invokevirtual 56, 3) := by decide +kernel
theorem dX6_spread_22 : decode cX6_spread 22 = .ok (.aload_n 0, 1) := by decide +kernel
theorem dX6_spread_23 : decode cX6_spread 23 = .ok (.iload_n 3, 1) := by decide +kernel
theorem dX6_spread_24 : decode cX6_spread 24 = .ok (.iconst 0, 1) := by decide +kernel
theorem dX6_spread_25 : decode cX6_spread 25 = .ok (.invokevirtual 56, 3) := by decide +kernel
theorem dX6_spread_28 : decode cX6_spread 28 = .ok (.invokestatic 64, 3) := by decide +kernel
theorem dX6_spread_31 : decode cX6_spread 31 = .ok (.istore 4, 2) := by decide +kernel
theorem dX6_spread_33 : decode cX6_spread 33 = .ok (.iload 4, 2) := by decide +kernel
theorem dX6_spread_35 : decode cX6_spread 35 = .ok (.iload_n 1, 1) := by decide +kernel
theorem dX6_spread_36 : decode cX6_spread 36 = .ok (.if_icmp .le 8, 3) := by decide +kernel
theorem dX6_spread_39 : decode cX6_spread 39 = .ok (.iload 4, 2) := by decide +kernel
theorem dX6_spread_41 : decode cX6_spread 41 = .ok (.goto 4, 3) := by decide +kernel
theorem dX6_spread_44 : decode cX6_spread 44 = .ok (.iload_n 1, 1) := by decide +kernel
theorem dX6_spread_45 : decode cX6_spread 45 = .ok (.istore_n 1, 1) := by decide +kernel
theorem dX6_spread_46 : decode cX6_spread 46 = .ok (.iinc 3 1, 3) := by decide +kernel
theorem dX6_spread_49 : decode cX6_spread 49 = .ok (.goto (-38), 3) := by decide +kernel
theorem dX6_spread_52 : decode cX6_spread 52 = .ok (.iinc 2 1, 3) := by decide +kernel
theorem dX6_spread_55 : decode cX6_spread 55 = .ok (.goto (-51), 3) := by decide +kernel
theorem dX6_spread_58 : decode cX6_spread 58 = .ok (.iload_n 1, 1) := by decide +kernel
theorem dX6_spread_59 : decode cX6_spread 59 = .ok (.ireturn, 1) := by decide +kernel
theorem dX6_total_0 : decode cX6_total 0 = .ok (.iload_n 1, 1) := by decide +kernel
theorem dX6_total_1 : decode cX6_total 1 = .ok (.tableswitch 111 0 8 #[51, 58, 63, 70, 77, 83, 90, 98, 106], 51) := by decide +kernel
theorem dX6_total_52 : decode cX6_total 52 = .ok (.aload_n 0, 1) := by decide +kernel
theorem dX6_total_53 : decode cX6_total 53 = .ok (.getfield 7, 3) := by decide +kernel
theorem dX6_total_56 : decode cX6_total 56 = .ok (.iconst 0, 1) := by decide +kernel
theorem dX6_total_57 : decode cX6_total 57 = .ok (.iaload, 1) := by decide +kernel
theorem dX6_total_58 : decode cX6_total 58 = .ok (.ireturn, 1) := by decide +kernel
theorem dX6_total_59 : decode cX6_total 59 = .ok (.aload_n 0, 1) := by decide +kernel
theorem dX6_total_60 : decode cX6_total 60 = .ok (.invokevirtual 79, 3) := by decide +kernel
theorem dX6_total_63 : decode cX6_total 63 = .ok (.ireturn, 1) := by decide +kernel
theorem dX6_total_64 : decode cX6_total 64 = .ok (.aload_n 0, 1) := by decide +kernel
theorem dX6_total_65 : decode cX6_total 65 = .ok (.getfield 7, 3) := by decide +kernel
theorem dX6_total_68 : decode cX6_total 68 = .ok (.iconst 4, 1) := by decide +kernel
theorem dX6_total_69 : decode cX6_total 69 = .ok (.iaload, 1) := by decide +kernel
theorem dX6_total_70 : decode cX6_total 70 = .ok (.ireturn, 1) := by decide +kernel
theorem dX6_total_71 : decode cX6_total 71 = .ok (.aload_n 0, 1) := by decide +kernel
theorem dX6_total_72 : decode cX6_total 72 = .ok (.getfield 7, 3) := by decide +kernel
theorem dX6_total_75 : decode cX6_total 75 = .ok (.iconst 5, 1) := by decide +kernel
theorem dX6_total_76 : decode cX6_total 76 = .ok (.iaload, 1) := by decide +kernel
theorem dX6_total_77 : decode cX6_total 77 = .ok (.ireturn, 1) := by decide +kernel
theorem dX6_total_78 : decode cX6_total 78 = .ok (.aload_n 0, 1) := by decide +kernel
theorem dX6_total_79 : decode cX6_total 79 = .ok (.iconst 4, 1) := by decide +kernel
theorem dX6_total_80 : decode cX6_total 80 = .ok (.invokevirtual 120, 3) := by decide +kernel
theorem dX6_total_83 : decode cX6_total 83 = .ok (.ireturn, 1) := by decide +kernel
theorem dX6_total_84 : decode cX6_total 84 = .ok (.aload_n 0, 1) := by decide +kernel
theorem dX6_total_85 : decode cX6_total 85 = .ok (.bipush 6, 2) := by decide +kernel
theorem dX6_total_87 : decode cX6_total 87 = .ok (.invokevirtual 120, 3) := by decide +kernel
theorem dX6_total_90 : decode cX6_total 90 = .ok (.ireturn, 1) := by decide +kernel
theorem dX6_total_91 : decode cX6_total 91 = .ok (.aload_n 0, 1) := by decide +kernel
theorem dX6_total_92 : decode cX6_total 92 = .ok (.getfield 7, 3) := by decide +kernel
theorem dX6_total_95 : decode cX6_total 95 = .ok (.bipush 6, 2) := by decide +kernel
theorem dX6_total_97 : decode cX6_total 97 = .ok (.iaload, 1) := by decide +kernel
theorem dX6_total_98 : decode cX6_total 98 = .ok (.ireturn, 1) := by decide +kernel
theorem dX6_total_99 : decode cX6_total 99 = .ok (.aload_n 0, 1) := by decide +kernel
theorem dX6_total_100 : decode cX6_total 100 = .ok (.getfield 7, 3) := by decide +kernel
theorem dX6_total_103 : decode cX6_total 103 = .ok (.bipush 7, 2) := by decide +kernel
theorem dX6_total_105 : decode cX6_total 105 = .ok (.iaload, 1) := by decide +kernel
theorem dX6_total_106 : decode cX6_total 106 = .ok (.ireturn, 1) := by decide +kernel
theorem dX6_total_107 : decode cX6_total 107 = .ok (.aload_n 0, 1) := by decide +kernel
theorem dX6_total_108 : decode cX6_total 108 = .ok (.invokevirtual 123, 3) := by decide +kernel
theorem dX6_total_111 : decode cX6_total 111 = .ok (.ireturn, 1) := by decide +kernel
theorem dX6_total_112 : decode cX6_total 112 = .ok (.sipush (-1002), 3) := by decide +kernel
theorem dX6_total_115 : decode cX6_total 115 = .ok (.ireturn, 1) := by decide +kernel
theorem dX6_majority_0 : decode cX6_majority 0 = .ok (.iconst 0, 1) := by decide +kernel
theorem dX6_majority_1 : decode cX6_majority 1 = .ok (.istore_n 1, 1) := by decide +kernel
theorem dX6_majority_2 : decode cX6_majority 2 = .ok (.iconst 0, 1) := by decide +kernel
theorem dX6_majority_3 : decode cX6_majority 3 = .ok (.istore_n 2, 1) := by decide +kernel
theorem dX6_majority_4 : decode cX6_majority 4 = .ok (.iconst 0, 1) := by decide +kernel
theorem dX6_majority_5 : decode cX6_majority 5 = .ok (.istore_n 3, 1) := by decide +kernel
theorem dX6_majority_6 : decode cX6_majority 6 = .ok (.iload_n 3, 1) := by decide +kernel
theorem dX6_majority_7 : decode cX6_majority 7 = .ok (.iconst 4, 1) := by decide +kernel
theorem dX6_majority_8 : decode cX6_majority 8 = .ok (.if_icmp .ge 83, 3) := by decide +kernel
theorem dX6_majority_11 : decode cX6_majority 11 = .ok (.iconst 0, 1) := by decide +kernel
theorem dX6_majority_12 : decode cX6_majority 12 = .ok (.istore 4, 2) := by decide +kernel
theorem dX6_majority_14 : decode cX6_majority 14 = .ok (.iconst 0, 1) := by decide +kernel
theorem dX6_majority_15 : decode cX6_majority 15 = .ok (.istore 5, 2) := by decide +kernel
theorem dX6_majority_17 : decode cX6_majority 17 = .ok (.iload 5, 2) := by decide +kernel
theorem dX6_majority_19 : decode cX6_majority 19 = .ok (.iconst 4, 1) := by decide +kernel
theorem dX6_majority_20 : decode cX6_majority 20 = .ok (.if_icmp .ge 35, 3) := by decide +kernel
theorem dX6_majority_23 : decode cX6_majority 23 = .ok (.iload 4, 2) := by decide +kernel
theorem dX6_majority_25 : decode cX6_majority 25 = .ok (.aload_n 0, 1) := by decide +kernel
theorem dX6_majority_26 : decode cX6_majority 26 = .ok (.iload 5, 2) := by decide +kernel
theorem dX6_majority_28 : decode cX6_majority 28 = .ok (.iconst 0, 1) := by decide +kernel
theorem dX6_majority_29 : decode cX6_majority 29 = .ok (.invokevirtual 56, 3) := by decide +kernel
theorem dX6_majority_32 : decode cX6_majority 32 = .ok (.aload_n 0, 1) := by decide +kernel
theorem dX6_majority_33 : decode cX6_majority 33 = .ok (.iload_n 3, 1) := by decide +kernel
theorem dX6_majority_34 : decode cX6_majority 34 = .ok (.iconst 0, 1) := by decide +kernel
theorem dX6_majority_35 : decode cX6_majority 35 = .ok (.invokevirtual 56, 3) := by decide +kernel
theorem dX6_majority_38 : decode cX6_majority 38 = .ok (.if_icmp .ne 7, 3) := by decide +kernel
theorem dX6_majority_41 : decode cX6_majority 41 = .ok (.iconst 1, 1) := by decide +kernel
theorem dX6_majority_42 : decode cX6_majority 42 = .ok (.goto 4, 3) := by decide +kernel
theorem dX6_majority_45 : decode cX6_majority 45 = .ok (.iconst 0, 1) := by decide +kernel
theorem dX6_majority_46 : decode cX6_majority 46 = .ok (.iadd, 1) := by decide +kernel
theorem dX6_majority_47 : decode cX6_majority 47 = .ok (.istore 4, 2) := by decide +kernel
theorem dX6_majority_49 : decode cX6_majority 49 = .ok (.iinc 5 1, 3) := by decide +kernel
theorem dX6_majority_52 : decode cX6_majority 52 = .ok (.goto (-35), 3) := by decide +kernel
theorem dX6_majority_55 : decode cX6_majority 55 = .ok (.iload 4, 2) := by decide +kernel
theorem dX6_majority_57 : decode cX6_majority 57 = .ok (.iload_n 2, 1) := by decide +kernel
theorem dX6_majority_58 : decode cX6_majority 58 = .ok (.if_icmp .le 12, 3) := by decide +kernel
theorem dX6_majority_61 : decode cX6_majority 61 = .ok (.aload_n 0, 1) := by decide +kernel
theorem dX6_majority_62 : decode cX6_majority 62 = .ok (.iload_n 3, 1) := by decide +kernel
theorem dX6_majority_63 : decode cX6_majority 63 = .ok (.iconst 0, 1) := by decide +kernel
theorem dX6_majority_64 : decode cX6_majority 64 = .ok (.invokevirtual 56, 3) := by decide +kernel
theorem dX6_majority_67 : decode cX6_majority 67 = .ok (.goto 4, 3) := by decide +kernel
theorem dX6_majority_70 : decode cX6_majority 70 = .ok (.iload_n 1, 1) := by decide +kernel
theorem dX6_majority_71 : decode cX6_majority 71 = .ok (.istore_n 1, 1) := by decide +kernel
theorem dX6_majority_72 : decode cX6_majority 72 = .ok (.iload 4, 2) := by decide +kernel
theorem dX6_majority_74 : decode cX6_majority 74 = .ok (.iload_n 2, 1) := by decide +kernel
theorem dX6_majority_75 : decode cX6_majority 75 = .ok (.if_icmp .le 8, 3) := by decide +kernel
theorem dX6_majority_78 : decode cX6_majority 78 = .ok (.iload 4, 2) := by decide +kernel
theorem dX6_majority_80 : decode cX6_majority 80 = .ok (.goto 4, 3) := by decide +kernel
theorem dX6_majority_83 : decode cX6_majority 83 = .ok (.iload_n 2, 1) := by decide +kernel
theorem dX6_majority_84 : decode cX6_majority 84 = .ok (.istore_n 2, 1) := by decide +kernel
theorem dX6_majority_85 : decode cX6_majority 85 = .ok (.iinc 3 1, 3) := by decide +kernel
theorem dX6_majority_88 : decode cX6_majority 88 = .ok (.goto (-82), 3) := by decide +kernel
theorem dX6_majority_91 : decode cX6_majority 91 = .ok (.iload_n 1, 1) := by decide +kernel
theorem dX6_majority_92 : decode cX6_majority 92 = .ok (.ireturn, 1) := by decide +kernel
theorem dX6_coming_0 : decode cX6_coming 0 = .ok (.iload_n 1, 1) := by decide +kernel
theorem dX6_coming_1 : decode cX6_coming 1 = .ok (.iconst 0, 1) := by decide +kernel
theorem dX6_coming_2 : decode cX6_coming 2 = .ok (.bipush 23, 2) := by decide +kernel
theorem dX6_coming_4 : decode cX6_coming 4 = .ok (.invokestatic 33, 3) := by decide +kernel
theorem dX6_coming_7 : decode cX6_coming 7 = .ok (.ifCond .eq 12, 3) := by decide +kernel
theorem dX6_coming_10 : decode cX6_coming 10 = .ok (.iload_n 2, 1) := by decide +kernel
theorem dX6_coming_11 : decode cX6_coming 11 = .ok (.iconst 0, 1) := by decide +kernel
theorem dX6_coming_12 : decode cX6_coming 12 = .ok (.iconst 2, 1) := by decide +kernel
theorem dX6_coming_13 : decode cX6_coming 13 = .ok (.invokestatic 33, 3) := by decide +kernel
theorem dX6_coming_16 : decode cX6_coming 16 = .ok (.ifCond .ne 7, 3) := by decide +kernel
theorem dX6_coming_19 : decode cX6_coming 19 = .ok (.sipush (-1002), 3) := by decide +kernel
theorem dX6_coming_22 : decode cX6_coming 22 = .ok (.ireturn, 1) := by decide +kernel
theorem dX6_coming_23 : decode cX6_coming 23 = .ok (.iload_n 1, 1) := by decide +kernel
theorem dX6_coming_24 : decode cX6_coming 24 = .ok (.istore_n 3, 1) := by decide +kernel
theorem dX6_coming_25 : decode cX6_coming 25 = .ok (.iconst 1, 1) := by decide +kernel
theorem dX6_coming_26 : decode cX6_coming 26 = .ok (.istore 4, 2) := by decide +kernel
theorem dX6_coming_28 : decode cX6_coming 28 = .ok (.iload 4, 2) := by decide +kernel
theorem dX6_coming_30 : decode cX6_coming 30 = .ok (.sipush 1440, 3) := by decide +kernel
theorem dX6_coming_33 : decode cX6_coming 33 = .ok (.if_icmp .gt 92, 3) := by decide +kernel
theorem dX6_coming_36 : decode cX6_coming 36 = .ok (.iconst 0, 1) := by decide +kernel
theorem dX6_coming_37 : decode cX6_coming 37 = .ok (.istore 5, 2) := by decide +kernel
theorem dX6_coming_39 : decode cX6_coming 39 = .ok (.iload 5, 2) := by decide +kernel
theorem dX6_coming_41 : decode cX6_coming 41 = .ok (.iconst 4, 1) := by decide +kernel
theorem dX6_coming_42 : decode cX6_coming 42 = .ok (.if_icmp .ge 77, 3) := by decide +kernel
theorem dX6_coming_45 : decode cX6_coming 45 = .ok (.aload_n 0, 1) := by decide +kernel
theorem dX6_coming_46 : decode cX6_coming 46 = .ok (.iload 5, 2) := by decide +kernel
theorem dX6_coming_48 : decode cX6_coming 48 = .ok (.iconst 5, 1) := by decide +kernel
theorem dX6_coming_49 : decode cX6_coming 49 = .ok (.invokevirtual 56, 3) := by decide +kernel
theorem dX6_coming_52 : decode cX6_coming 52 = .ok (.iconst 1, 1) := by decide +kernel
theorem dX6_coming_53 : decode cX6_coming 53 = .ok (.if_icmp .ne 23, 3) := by decide +kernel
theorem dX6_coming_56 : decode cX6_coming 56 = .ok (.aload_n 0, 1) := by decide +kernel
theorem dX6_coming_57 : decode cX6_coming 57 = .ok (.iload 5, 2) := by decide +kernel
theorem dX6_coming_59 : decode cX6_coming 59 = .ok (.iconst 0, 1) := by decide +kernel
theorem dX6_coming_60 : decode cX6_coming 60 = .ok (.invokevirtual 56, 3) := by decide +kernel
theorem dX6_coming_63 : decode cX6_coming 63 = .ok (.iload 4, 2) := by decide +kernel
theorem dX6_coming_65 : decode cX6_coming 65 = .ok (.iadd, 1) := by decide +kernel
theorem dX6_coming_66 : decode cX6_coming 66 = .ok (.sipush 720, 3) := by decide +kernel
theorem dX6_coming_69 : decode cX6_coming 69 = .ok (.irem, 1) := by decide +kernel
theorem dX6_coming_70 : decode cX6_coming 70 = .ok (.invokestatic 73, 3) := by decide +kernel
theorem dX6_coming_73 : decode cX6_coming 73 = .ok (.goto 4, 3) := by decide +kernel
theorem dX6_coming_76 : decode cX6_coming 76 = .ok (.iconst 0, 1) := by decide +kernel
theorem dX6_coming_77 : decode cX6_coming 77 = .ok (.istore 6, 2) := by decide +kernel
theorem dX6_coming_79 : decode cX6_coming 79 = .ok (.iload 6, 2) := by decide +kernel
theorem dX6_coming_81 : decode cX6_coming 81 = .ok (.ifCond .le 32, 3) := by decide +kernel
theorem dX6_coming_84 : decode cX6_coming 84 = .ok (.iload_n 3, 1) := by decide +kernel
theorem dX6_coming_85 : decode cX6_coming 85 = .ok (.ifCond .ne 25, 3) := by decide +kernel
theorem dX6_coming_88 : decode cX6_coming 88 = .ok (.iload_n 2, 1) := by decide +kernel
theorem dX6_coming_89 : decode cX6_coming 89 = .ok (.ifCond .ne 8, 3) := by decide +kernel
theorem dX6_coming_92 : decode cX6_coming 92 = .ok (.iload 5, 2) := by decide +kernel
theorem dX6_coming_94 : decode cX6_coming 94 = .ok (.goto 15, 3) := by decide +kernel
theorem dX6_coming_97 : decode cX6_coming 97 = .ok (.iload_n 2, 1) := by decide +kernel
theorem dX6_coming_98 : decode cX6_coming 98 = .ok (.iconst 1, 1) := by decide +kernel
theorem dX6_coming_99 : decode cX6_coming 99 = .ok (.if_icmp .ne 8, 3) := by decide +kernel
theorem dX6_coming_102 : decode cX6_coming 102 = .ok (.iload 4, 2) := by decide +kernel
theorem dX6_coming_104 : decode cX6_coming 104 = .ok (.goto 5, 3) := by decide +kernel
theorem dX6_coming_107 : decode cX6_coming 107 = .ok (.iload 6, 2) := by decide +kernel
theorem dX6_coming_109 : decode cX6_coming 109 = .ok (.ireturn, 1) := by decide +kernel
theorem dX6_coming_110 : decode cX6_coming 110 = .ok (.iinc 3 (-1), 3) := by decide +kernel
theorem dX6_coming_113 : decode cX6_coming 113 = .ok (.iinc 5 1, 3) := by decide +kernel
theorem dX6_coming_116 : decode cX6_coming 116 = .ok (.goto (-77), 3) := by decide +kernel
theorem dX6_coming_119 : decode cX6_coming 119 = .ok (.iinc 4 1, 3) := by decide +kernel
theorem dX6_coming_122 : decode cX6_coming 122 = .ok (.goto (-94), 3) := by decide +kernel
theorem dX6_coming_125 : decode cX6_coming 125 = .ok (.sipush (-1000), 3) := by decide +kernel
theorem dX6_coming_128 : decode cX6_coming 128 = .ok (.ireturn, 1) := by decide +kernel
theorem dX6_spreadIn_0 : decode cX6_spreadIn 0 = .ok (.iload_n 1, 1) := by decide +kernel
theorem dX6_spreadIn_1 : decode cX6_spreadIn 1 = .ok (.iconst 0, 1) := by decide +kernel
theorem dX6_spreadIn_2 : decode cX6_spreadIn 2 = .ok (.sipush 2000, 3) := by decide +kernel
theorem dX6_spreadIn_5 : decode cX6_spreadIn 5 = .ok (.invokestatic 33, 3) := by decide +kernel
theorem dX6_spreadIn_8 : decode cX6_spreadIn 8 = .ok (.ifCond .ne 7, 3) := by decide +kernel
theorem dX6_spreadIn_11 : decode cX6_spreadIn 11 = .ok (.sipush (-1002), 3) := by decide +kernel
theorem dX6_spreadIn_14 : decode cX6_spreadIn 14 = .ok (.ireturn, 1) := by decide +kernel
theorem dX6_spreadIn_15 : decode cX6_spreadIn 15 = .ok (.aload_n 0, 1) := by decide +kernel
theorem dX6_spreadIn_16 : decode cX6_spreadIn 16 = .ok (.invokevirtual 126, 3) := by decide +kernel
theorem dX6_spreadIn_19 : decode cX6_spreadIn 19 = .ok (.aload_n 0, 1) := by decide +kernel
theorem dX6_spreadIn_20 : decode cX6_spreadIn 20 = .ok (.iload_n 1, 1) := by decide +kernel
theorem dX6_spreadIn_21 : decode cX6_spreadIn 21 = .ok (.invokevirtual 93, 3) := by decide +kernel
theorem dX6_spreadIn_24 : decode cX6_spreadIn 24 = .ok (.pop, 1) := by decide +kernel
theorem dX6_spreadIn_25 : decode cX6_spreadIn 25 = .ok (.aload_n 0, 1) := by decide +kernel
theorem dX6_spreadIn_26 : decode cX6_spreadIn 26 = .ok (.invokevirtual 123, 3) := by decide +kernel
theorem dX6_spreadIn_29 : decode cX6_spreadIn 29 = .ok (.istore_n 2, 1) := by decide +kernel
theorem dX6_spreadIn_30 : decode cX6_spreadIn 30 = .ok (.aload_n 0, 1) := by decide +kernel
theorem dX6_spreadIn_31 : decode cX6_spreadIn 31 = .ok (.invokevirtual 129, 3) := by decide +kernel
theorem dX6_spreadIn_34 : decode cX6_spreadIn 34 = .ok (.iload_n 2, 1) := by decide +kernel
theorem dX6_spreadIn_35 : decode cX6_spreadIn 35 = .ok (.ireturn, 1) := by decide +kernel
theorem dX6_minutesTo_0 : decode cX6_minutesTo 0 = .ok (.iload_n 1, 1) := by decide +kernel
theorem dX6_minutesTo_1 : decode cX6_minutesTo 1 = .ok (.iconst 0, 1) := by decide +kernel
theorem dX6_minutesTo_2 : decode cX6_minutesTo 2 = .ok (.sipush 360, 3) := by decide +kernel
theorem dX6_minutesTo_5 : decode cX6_minutesTo 5 = .ok (.invokestatic 33, 3) := by decide +kernel
theorem dX6_minutesTo_8 : decode cX6_minutesTo 8 = .ok (.ifCond .ne 7, 3) := by decide +kernel
theorem dX6_minutesTo_11 : decode cX6_minutesTo 11 = .ok (.sipush (-1002), 3) := by decide +kernel
theorem dX6_minutesTo_14 : decode cX6_minutesTo 14 = .ok (.ireturn, 1) := by decide +kernel
theorem dX6_minutesTo_15 : decode cX6_minutesTo 15 = .ok (.aload_n 0, 1) := by decide +kernel
theorem dX6_minutesTo_16 : decode cX6_minutesTo 16 = .ok (.invokevirtual 126, 3) := by decide +kernel
theorem dX6_minutesTo_19 : decode cX6_minutesTo 19 = .ok (.iconst 0, 1) := by decide +kernel
theorem dX6_minutesTo_20 : decode cX6_minutesTo 20 = .ok (.istore_n 2, 1) := by decide +kernel
theorem dX6_minutesTo_21 : decode cX6_minutesTo 21 = .ok (.iload_n 2, 1) := by decide +kernel
theorem dX6_minutesTo_22 : decode cX6_minutesTo 22 = .ok (.sipush 3000, 3) := by decide +kernel
theorem dX6_minutesTo_25 : decode cX6_minutesTo 25 = .ok (.if_icmp .ge 22, 3) := by decide +kernel
theorem dX6_minutesTo_28 : decode cX6_minutesTo 28 = .ok (.aload_n 0, 1) := by decide +kernel
theorem dX6_minutesTo_29 : decode cX6_minutesTo 29 = .ok (.invokevirtual 123, 3) := by decide +kernel
theorem dX6_minutesTo_32 : decode cX6_minutesTo 32 = .ok (.iload_n 1, 1) := by decide +kernel
theorem dX6_minutesTo_33 : decode cX6_minutesTo 33 = .ok (.if_icmp .ge 14, 3) := by decide +kernel
theorem dX6_minutesTo_36 : decode cX6_minutesTo 36 = .ok (.aload_n 0, 1) := by decide +kernel
theorem dX6_minutesTo_37 : decode cX6_minutesTo 37 = .ok (.invokevirtual 86, 3) := by decide +kernel
theorem dX6_minutesTo_40 : decode cX6_minutesTo 40 = .ok (.pop, 1) := by decide +kernel
theorem dX6_minutesTo_41 : decode cX6_minutesTo 41 = .ok (.iinc 2 1, 3) := by decide +kernel
theorem dX6_minutesTo_44 : decode cX6_minutesTo 44 = .ok (.goto (-23), 3) := by decide +kernel
theorem dX6_minutesTo_47 : decode cX6_minutesTo 47 = .ok (.aload_n 0, 1) := by decide +kernel
theorem dX6_minutesTo_48 : decode cX6_minutesTo 48 = .ok (.invokevirtual 123, 3) := by decide +kernel
theorem dX6_minutesTo_51 : decode cX6_minutesTo 51 = .ok (.iload_n 1, 1) := by decide +kernel
theorem dX6_minutesTo_52 : decode cX6_minutesTo 52 = .ok (.if_icmp .lt 7, 3) := by decide +kernel
theorem dX6_minutesTo_55 : decode cX6_minutesTo 55 = .ok (.iconst 1, 1) := by decide +kernel
theorem dX6_minutesTo_56 : decode cX6_minutesTo 56 = .ok (.goto 4, 3) := by decide +kernel
theorem dX6_minutesTo_59 : decode cX6_minutesTo 59 = .ok (.iconst 0, 1) := by decide +kernel
theorem dX6_minutesTo_60 : decode cX6_minutesTo 60 = .ok (.istore_n 3, 1) := by decide +kernel
theorem dX6_minutesTo_61 : decode cX6_minutesTo 61 = .ok (.aload_n 0, 1) := by decide +kernel
theorem dX6_minutesTo_62 : decode cX6_minutesTo 62 = .ok (.invokevirtual 129, 3) := by decide +kernel
theorem dX6_minutesTo_65 : decode cX6_minutesTo 65 = .ok (.iload_n 3, 1) := by decide +kernel
theorem dX6_minutesTo_66 : decode cX6_minutesTo 66 = .ok (.ifCond .eq 7, 3) := by decide +kernel
theorem dX6_minutesTo_69 : decode cX6_minutesTo 69 = .ok (.iload_n 2, 1) := by decide +kernel
theorem dX6_minutesTo_70 : decode cX6_minutesTo 70 = .ok (.goto 6, 3) := by decide +kernel
theorem dX6_minutesTo_73 : decode cX6_minutesTo 73 = .ok (.sipush (-1000), 3) := by decide +kernel
theorem dX6_minutesTo_76 : decode cX6_minutesTo 76 = .ok (.ireturn, 1) := by decide +kernel
theorem dX6_bestOil_0 : decode cX6_bestOil 0 = .ok (.iconst 0, 1) := by decide +kernel
theorem dX6_bestOil_1 : decode cX6_bestOil 1 = .ok (.istore_n 1, 1) := by decide +kernel
theorem dX6_bestOil_2 : decode cX6_bestOil 2 = .ok (.iconst 0, 1) := by decide +kernel
theorem dX6_bestOil_3 : decode cX6_bestOil 3 = .ok (.istore_n 2, 1) := by decide +kernel
theorem dX6_bestOil_4 : decode cX6_bestOil 4 = .ok (.iconst 0, 1) := by decide +kernel
theorem dX6_bestOil_5 : decode cX6_bestOil 5 = .ok (.istore_n 3, 1) := by decide +kernel
theorem dX6_bestOil_6 : decode cX6_bestOil 6 = .ok (.iload_n 3, 1) := by decide +kernel
theorem dX6_bestOil_7 : decode cX6_bestOil 7 = .ok (.iconst 4, 1) := by decide +kernel
theorem dX6_bestOil_8 : decode cX6_bestOil 8 = .ok (.if_icmp .ge 107, 3) := by decide +kernel
theorem dX6_bestOil_11 : decode cX6_bestOil 11 = .ok (.aload_n 0, 1) := by decide +kernel
theorem dX6_bestOil_12 : decode cX6_bestOil 12 = .ok (.invokevirtual 126, 3) := by decide +kernel
theorem dX6_bestOil_15 : decode cX6_bestOil 15 = .ok (.aload_n 0, 1) := by decide +kernel
theorem dX6_bestOil_16 : decode cX6_bestOil 16 = .ok (.iload_n 3, 1) := by decide +kernel
theorem dX6_bestOil_17 : decode cX6_bestOil 17 = .ok (.invokevirtual 60, 3) := by decide +kernel
theorem dX6_bestOil_20 : decode cX6_bestOil 20 = .ok (.pop, 1) := by decide +kernel
theorem dX6_bestOil_21 : decode cX6_bestOil 21 = .ok (.aload_n 0, 1) := by decide +kernel
theorem dX6_bestOil_22 : decode cX6_bestOil 22 = .ok (.sipush 1440, 3) := by decide +kernel
theorem dX6_bestOil_25 : decode cX6_bestOil 25 = .ok (.invokevirtual 93, 3) := by decide +kernel
theorem dX6_bestOil_28 : decode cX6_bestOil 28 = .ok (.pop, 1) := by decide +kernel
theorem dX6_bestOil_29 : decode cX6_bestOil 29 = .ok (.iconst 0, 1) := by decide +kernel
theorem dX6_bestOil_30 : decode cX6_bestOil 30 = .ok (.istore 4, 2) := by decide +kernel
theorem dX6_bestOil_32 : decode cX6_bestOil 32 = .ok (.iconst 0, 1) := by decide +kernel
theorem dX6_bestOil_33 : decode cX6_bestOil 33 = .ok (.istore 5, 2) := by decide +kernel
theorem dX6_bestOil_35 : decode cX6_bestOil 35 = .ok (.iload 5, 2) := by decide +kernel
theorem dX6_bestOil_37 : decode cX6_bestOil 37 = .ok (.iconst 4, 1) := by decide +kernel
theorem dX6_bestOil_38 : decode cX6_bestOil 38 = .ok (.if_icmp .ge 34, 3) := by decide +kernel
theorem dX6_bestOil_41 : decode cX6_bestOil 41 = .ok (.iload 4, 2) := by decide +kernel
theorem dX6_bestOil_43 : decode cX6_bestOil 43 = .ok (.aload_n 0, 1) := by decide +kernel
theorem dX6_bestOil_44 : decode cX6_bestOil 44 = .ok (.iload 5, 2) := by decide +kernel
theorem dX6_bestOil_46 : decode cX6_bestOil 46 = .ok (.iconst 0, 1) := by decide +kernel
theorem dX6_bestOil_47 : decode cX6_bestOil 47 = .ok (.invokevirtual 56, 3) := by decide +kernel
theorem dX6_bestOil_50 : decode cX6_bestOil 50 = .ok (.aload_n 0, 1) := by decide +kernel
theorem dX6_bestOil_51 : decode cX6_bestOil 51 = .ok (.getfield 7, 3) := by decide +kernel
theorem dX6_bestOil_54 : decode cX6_bestOil 54 = .ok (.iconst 0, 1) := by decide +kernel
theorem dX6_bestOil_55 : decode cX6_bestOil 55 = .ok (.iaload, 1) := by decide +kernel
theorem dX6_bestOil_56 : decode cX6_bestOil 56 = .ok (.sipush 720, 3) := by decide +kernel
theorem dX6_bestOil_59 : decode cX6_bestOil 59 = .ok (.irem, 1) := by decide +kernel
theorem dX6_bestOil_60 : decode cX6_bestOil 60 = .ok (.invokestatic 64, 3) := by decide +kernel
theorem dX6_bestOil_63 : decode cX6_bestOil 63 = .ok (.iadd, 1) := by decide +kernel
theorem dX6_bestOil_64 : decode cX6_bestOil 64 = .ok (.istore 4, 2) := by decide +kernel
theorem dX6_bestOil_66 : decode cX6_bestOil 66 = .ok (.iinc 5 1, 3) := by decide +kernel
theorem dX6_bestOil_69 : decode cX6_bestOil 69 = .ok (.goto (-34), 3) := by decide +kernel
theorem dX6_bestOil_72 : decode cX6_bestOil 72 = .ok (.aload_n 0, 1) := by decide +kernel
theorem dX6_bestOil_73 : decode cX6_bestOil 73 = .ok (.invokevirtual 129, 3) := by decide +kernel
theorem dX6_bestOil_76 : decode cX6_bestOil 76 = .ok (.iload_n 3, 1) := by decide +kernel
theorem dX6_bestOil_77 : decode cX6_bestOil 77 = .ok (.ifCond .le 13, 3) := by decide +kernel
theorem dX6_bestOil_80 : decode cX6_bestOil 80 = .ok (.iload 4, 2) := by decide +kernel
theorem dX6_bestOil_82 : decode cX6_bestOil 82 = .ok (.iload_n 2, 1) := by decide +kernel
theorem dX6_bestOil_83 : decode cX6_bestOil 83 = .ok (.if_icmp .ge 7, 3) := by decide +kernel
theorem dX6_bestOil_86 : decode cX6_bestOil 86 = .ok (.iload_n 3, 1) := by decide +kernel
theorem dX6_bestOil_87 : decode cX6_bestOil 87 = .ok (.goto 4, 3) := by decide +kernel
theorem dX6_bestOil_90 : decode cX6_bestOil 90 = .ok (.iload_n 1, 1) := by decide +kernel
theorem dX6_bestOil_91 : decode cX6_bestOil 91 = .ok (.istore_n 1, 1) := by decide +kernel
theorem dX6_bestOil_92 : decode cX6_bestOil 92 = .ok (.iload_n 3, 1) := by decide +kernel
theorem dX6_bestOil_93 : decode cX6_bestOil 93 = .ok (.ifCond .eq 9, 3) := by decide +kernel
theorem dX6_bestOil_96 : decode cX6_bestOil 96 = .ok (.iload 4, 2) := by decide +kernel
theorem dX6_bestOil_98 : decode cX6_bestOil 98 = .ok (.iload_n 2, 1) := by decide +kernel
theorem dX6_bestOil_99 : decode cX6_bestOil 99 = .ok (.if_icmp .ge 8, 3) := by decide +kernel
theorem dX6_bestOil_102 : decode cX6_bestOil 102 = .ok (.iload 4, 2) := by decide +kernel
theorem dX6_bestOil_104 : decode cX6_bestOil 104 = .ok (.goto 4, 3) := by decide +kernel
theorem dX6_bestOil_107 : decode cX6_bestOil 107 = .ok (.iload_n 2, 1) := by decide +kernel
theorem dX6_bestOil_108 : decode cX6_bestOil 108 = .ok (.istore_n 2, 1) := by decide +kernel
theorem dX6_bestOil_109 : decode cX6_bestOil 109 = .ok (.iinc 3 1, 3) := by decide +kernel
theorem dX6_bestOil_112 : decode cX6_bestOil 112 = .ok (.goto (-106), 3) := by decide +kernel
theorem dX6_bestOil_115 : decode cX6_bestOil 115 = .ok (.iload_n 1, 1) := by decide +kernel
theorem dX6_bestOil_116 : decode cX6_bestOil 116 = .ok (.ireturn, 1) := by decide +kernel
theorem dX6_append_0 : decode cX6_append 0 = .ok (.iload_n 1, 1) := by decide +kernel
theorem dX6_append_1 : decode cX6_append 1 = .ok (.bipush 33, 2) := by decide +kernel
theorem dX6_append_3 : decode cX6_append 3 = .ok (.bipush 126, 2) := by decide +kernel
theorem dX6_append_5 : decode cX6_append 5 = .ok (.invokestatic 33, 3) := by decide +kernel
theorem dX6_append_8 : decode cX6_append 8 = .ok (.ifCond .ne 7, 3) := by decide +kernel
theorem dX6_append_11 : decode cX6_append 11 = .ok (.sipush (-1002), 3) := by decide +kernel
theorem dX6_append_14 : decode cX6_append 14 = .ok (.ireturn, 1) := by decide +kernel
theorem dX6_append_15 : decode cX6_append 15 = .ok (.aload_n 0, 1) := by decide +kernel
theorem dX6_append_16 : decode cX6_append 16 = .ok (.getfield 132, 3) := by decide +kernel
theorem dX6_append_19 : decode cX6_append 19 = .ok (.bipush 60, 2) := by decide +kernel
theorem dX6_append_21 : decode cX6_append 21 = .ok (.if_icmp .ne 7, 3) := by decide +kernel
theorem dX6_append_24 : decode cX6_append 24 = .ok (.sipush (-1004), 3) := by decide +kernel
theorem dX6_append_27 : decode cX6_append 27 = .ok (.ireturn, 1) := by decide +kernel
theorem dX6_append_28 : decode cX6_append 28 = .ok (.aload_n 0, 1) := by decide +kernel
theorem dX6_append_29 : decode cX6_append 29 = .ok (.getfield 22, 3) := by decide +kernel
theorem dX6_append_32 : decode cX6_append 32 = .ok (.aload_n 0, 1) := by decide +kernel
theorem dX6_append_33 : decode cX6_append 33 = .ok (.getfield 132, 3) := by decide +kernel
theorem dX6_append_36 : decode cX6_append 36 = .ok (.iload_n 1, 1) := by decide +kernel
theorem dX6_append_37 : decode cX6_append 37 = .ok (.i2c, 1) := by decide +kernel
theorem dX6_append_38 : decode cX6_append 38 = .ok (.castore, 1) := by decide +kernel
theorem dX6_append_39 : decode cX6_append 39 = .ok (.aload_n 0, 1) := by decide +kernel
theorem dX6_append_40 : decode cX6_append 40 = .ok (.dup, 1) := by decide +kernel
theorem dX6_append_41 : decode cX6_append 41 = .ok (.getfield 132, 3) := by decide +kernel
theorem dX6_append_44 : decode cX6_append 44 = .ok (.iconst 1, 1) := by decide +kernel
theorem dX6_append_45 : decode cX6_append 45 = .ok (.iadd, 1) := by decide +kernel
theorem dX6_append_46 : decode cX6_append 46 = .ok (.putfield 132, 3) := by decide +kernel
theorem dX6_append_49 : decode cX6_append 49 = .ok (.aload_n 0, 1) := by decide +kernel
theorem dX6_append_50 : decode cX6_append 50 = .ok (.getfield 132, 3) := by decide +kernel
theorem dX6_append_53 : decode cX6_append 53 = .ok (.ireturn, 1) := by decide +kernel
theorem dX6_clearText_0 : decode cX6_clearText 0 = .ok (.aload_n 0, 1) := by decide +kernel
theorem dX6_clearText_1 : decode cX6_clearText 1 = .ok (.getfield 132, 3) := by decide +kernel
theorem dX6_clearText_4 : decode cX6_clearText 4 = .ok (.istore_n 1, 1) := by decide +kernel
theorem dX6_clearText_5 : decode cX6_clearText 5 = .ok (.aload_n 0, 1) := by decide +kernel
theorem dX6_clearText_6 : decode cX6_clearText 6 = .ok (.iconst 0, 1) := by decide +kernel
theorem dX6_clearText_7 : decode cX6_clearText 7 = .ok (.putfield 132, 3) := by decide +kernel
theorem dX6_clearText_10 : decode cX6_clearText 10 = .ok (.iload_n 1, 1) := by decide +kernel
theorem dX6_clearText_11 : decode cX6_clearText 11 = .ok (.ireturn, 1) := by decide +kernel
theorem dX6_letter_0 : decode cX6_letter 0 = .ok (.aload_n 0, 1) := by decide +kernel
theorem dX6_letter_1 : decode cX6_letter 1 = .ok (.getfield 135, 3) := by decide +kernel
theorem dX6_letter_4 : decode cX6_letter 4 = .ok (.aload_n 0, 1) := by decide +kernel
theorem dX6_letter_5 : decode cX6_letter 5 = .ok (.getfield 132, 3) := by decide +kernel
theorem dX6_letter_8 : decode cX6_letter 8 = .ok (.if_icmp .ge 15, 3) := by decide +kernel
theorem dX6_letter_11 : decode cX6_letter 11 = .ok (.aload_n 0, 1) := by decide +kernel
theorem dX6_letter_12 : decode cX6_letter 12 = .ok (.getfield 22, 3) := by decide +kernel
theorem dX6_letter_15 : decode cX6_letter 15 = .ok (.aload_n 0, 1) := by decide +kernel
theorem dX6_letter_16 : decode cX6_letter 16 = .ok (.getfield 135, 3) := by decide +kernel
theorem dX6_letter_19 : decode cX6_letter 19 = .ok (.caload, 1) := by decide +kernel
theorem dX6_letter_20 : decode cX6_letter 20 = .ok (.goto 6, 3) := by decide +kernel
theorem dX6_letter_23 : decode cX6_letter 23 = .ok (.sipush (-1000), 3) := by decide +kernel
theorem dX6_letter_26 : decode cX6_letter 26 = .ok (.ireturn, 1) := by decide +kernel
theorem dX6_wants_0 : decode cX6_wants 0 = .ok (.aload_n 0, 1) := by decide +kernel
theorem dX6_wants_1 : decode cX6_wants 1 = .ok (.getfield 138, 3) := by decide +kernel
theorem dX6_wants_4 : decode cX6_wants 4 = .ok (.sipush (-1000), 3) := by decide +kernel
theorem dX6_wants_7 : decode cX6_wants 7 = .ok (.if_icmp .ne 31, 3) := by decide +kernel
theorem dX6_wants_10 : decode cX6_wants 10 = .ok (.aload_n 0, 1) := by decide +kernel
theorem dX6_wants_11 : decode cX6_wants 11 = .ok (.iload_n 1, 1) := by decide +kernel
theorem dX6_wants_12 : decode cX6_wants 12 = .ok (.ifCond .eq 9, 3) := by decide +kernel
theorem dX6_wants_15 : decode cX6_wants 15 = .ok (.sipush (-1000), 3) := by decide +kernel
theorem dX6_wants_18 : decode cX6_wants 18 = .ok (.goto 7, 3) := by decide +kernel
theorem dX6_wants_21 : decode cX6_wants 21 = .ok (.aload_n 0, 1) := by decide +kernel
theorem dX6_wants_22 : decode cX6_wants 22 = .ok (.getfield 135, 3) := by decide +kernel
theorem dX6_wants_25 : decode cX6_wants 25 = .ok (.putfield 138, 3) := by decide +kernel
theorem dX6_wants_28 : decode cX6_wants 28 = .ok (.aload_n 0, 1) := by decide +kernel
theorem dX6_wants_29 : decode cX6_wants 29 = .ok (.dup, 1) := by decide +kernel
theorem dX6_wants_30 : decode cX6_wants 30 = .ok (.getfield 135, 3) := by decide +kernel
theorem dX6_wants_33 : decode cX6_wants 33 = .ok (.iconst 1, 1) := by decide +kernel
theorem dX6_wants_34 : decode cX6_wants 34 = .ok (.iadd, 1) := by decide +kernel
theorem dX6_wants_35 : decode cX6_wants 35 = .ok (.putfield 135, 3) := by decide +kernel
theorem dX6_wants_38 : decode cX6_wants 38 = .ok (.return_, 1) := by decide +kernel
theorem dX6_figure_0 : decode cX6_figure 0 = .ok (.aload_n 0, 1) := by decide +kernel
theorem dX6_figure_1 : decode cX6_figure 1 = .ok (.invokevirtual 141, 3) := by decide +kernel
theorem dX6_figure_4 : decode cX6_figure 4 = .ok (.bipush 48, 2) := by decide +kernel
theorem dX6_figure_6 : decode cX6_figure 6 = .ok (.isub, 1) := by decide +kernel
theorem dX6_figure_7 : decode cX6_figure 7 = .ok (.istore_n 2, 1) := by decide +kernel
theorem dX6_figure_8 : decode cX6_figure 8 = .ok (.aload_n 0, 1) := by decide +kernel
theorem dX6_figure_9 : decode cX6_figure 9 = .ok (.iload_n 2, 1) := by decide +kernel
theorem dX6_figure_10 : decode cX6_figure 10 = .ok (.iconst 0, 1) := by decide +kernel
theorem dX6_figure_11 : decode cX6_figure 11 = .ok (.iload_n 1, 1) := by decide +kernel
theorem dX6_figure_12 : decode cX6_figure 12 = .ok (.invokestatic 33, 3) := by decide +kernel
theorem dX6_figure_15 : decode cX6_figure 15 = .ok (.invokevirtual 144, 3) := by decide +kernel
theorem dX6_figure_18 : decode cX6_figure 18 = .ok (.iload_n 2, 1) := by decide +kernel
theorem dX6_figure_19 : decode cX6_figure 19 = .ok (.ireturn, 1) := by decide +kernel
theorem dX6_clock_0 : decode cX6_clock 0 = .ok (.aload_n 0, 1) := by decide +kernel
theorem dX6_clock_1 : decode cX6_clock 1 = .ok (.iconst 2, 1) := by decide +kernel
theorem dX6_clock_2 : decode cX6_clock 2 = .ok (.invokevirtual 148, 3) := by decide +kernel
theorem dX6_clock_5 : decode cX6_clock 5 = .ok (.istore_n 1, 1) := by decide +kernel
theorem dX6_clock_6 : decode cX6_clock 6 = .ok (.bipush 10, 2) := by decide +kernel
theorem dX6_clock_8 : decode cX6_clock 8 = .ok (.iload_n 1, 1) := by decide +kernel
theorem dX6_clock_9 : decode cX6_clock 9 = .ok (.imul, 1) := by decide +kernel
theorem dX6_clock_10 : decode cX6_clock 10 = .ok (.aload_n 0, 1) := by decide +kernel
theorem dX6_clock_11 : decode cX6_clock 11 = .ok (.iload_n 1, 1) := by decide +kernel
theorem dX6_clock_12 : decode cX6_clock 12 = .ok (.iconst 2, 1) := by decide +kernel
theorem dX6_clock_13 : decode cX6_clock 13 = .ok (.if_icmp .ne 7, 3) := by decide +kernel
theorem dX6_clock_16 : decode cX6_clock 16 = .ok (.iconst 3, 1) := by decide +kernel
theorem dX6_clock_17 : decode cX6_clock 17 = .ok (.goto 5, 3) := by decide +kernel
theorem dX6_clock_20 : decode cX6_clock 20 = .ok (.bipush 9, 2) := by decide +kernel
theorem dX6_clock_22 : decode cX6_clock 22 = .ok (.invokevirtual 148, 3) := by decide +kernel
theorem dX6_clock_25 : decode cX6_clock 25 = .ok (.iadd, 1) := by decide +kernel
theorem dX6_clock_26 : decode cX6_clock 26 = .ok (.istore_n 2, 1) := by decide +kernel
theorem dX6_clock_27 : decode cX6_clock 27 = .ok (.aload_n 0, 1) := by decide +kernel
theorem dX6_clock_28 : decode cX6_clock 28 = .ok (.aload_n 0, 1) := by decide +kernel
theorem dX6_clock_29 : decode cX6_clock 29 = .ok (.invokevirtual 141, 3) := by decide +kernel
theorem dX6_clock_32 : decode cX6_clock 32 = .ok (.bipush 58, 2) := by decide +kernel
theorem dX6_clock_34 : decode cX6_clock 34 = .ok (.if_icmp .ne 7, 3) := by decide +kernel
theorem dX6_clock_37 : decode cX6_clock 37 = .ok (.iconst 1, 1) := by decide +kernel
theorem dX6_clock_38 : decode cX6_clock 38 = .ok (.goto 4, 3) := by decide +kernel
theorem dX6_clock_41 : decode cX6_clock 41 = .ok (.iconst 0, 1) := by decide +kernel
theorem dX6_clock_42 : decode cX6_clock 42 = .ok (.invokevirtual 144, 3) := by decide +kernel
theorem dX6_clock_45 : decode cX6_clock 45 = .ok (.bipush 10, 2) := by decide +kernel
theorem dX6_clock_47 : decode cX6_clock 47 = .ok (.aload_n 0, 1) := by decide +kernel
theorem dX6_clock_48 : decode cX6_clock 48 = .ok (.iconst 5, 1) := by decide +kernel
theorem dX6_clock_49 : decode cX6_clock 49 = .ok (.invokevirtual 148, 3) := by decide +kernel
theorem dX6_clock_52 : decode cX6_clock 52 = .ok (.imul, 1) := by decide +kernel
theorem dX6_clock_53 : decode cX6_clock 53 = .ok (.istore_n 3, 1) := by decide +kernel
theorem dX6_clock_54 : decode cX6_clock 54 = .ok (.bipush 60, 2) := by decide +kernel
theorem dX6_clock_56 : decode cX6_clock 56 = .ok (.iload_n 2, 1) := by decide +kernel
theorem dX6_clock_57 : decode cX6_clock 57 = .ok (.imul, 1) := by decide +kernel
theorem dX6_clock_58 : decode cX6_clock 58 = .ok (.iload_n 3, 1) := by decide +kernel
theorem dX6_clock_59 : decode cX6_clock 59 = .ok (.iadd, 1) := by decide +kernel
theorem dX6_clock_60 : decode cX6_clock 60 = .ok (.aload_n 0, 1) := by decide +kernel
theorem dX6_clock_61 : decode cX6_clock 61 = .ok (.bipush 9, 2) := by decide +kernel
theorem dX6_clock_63 : decode cX6_clock 63 = .ok (.invokevirtual 148, 3) := by decide +kernel
theorem dX6_clock_66 : decode cX6_clock 66 = .ok (.iadd, 1) := by decide +kernel
theorem dX6_clock_67 : decode cX6_clock 67 = .ok (.ireturn, 1) := by decide +kernel
theorem dX6_number_0 : decode cX6_number 0 = .ok (.aload_n 0, 1) := by decide +kernel
theorem dX6_number_1 : decode cX6_number 1 = .ok (.invokevirtual 141, 3) := by decide +kernel
theorem dX6_number_4 : decode cX6_number 4 = .ok (.bipush 48, 2) := by decide +kernel
theorem dX6_number_6 : decode cX6_number 6 = .ok (.isub, 1) := by decide +kernel
theorem dX6_number_7 : decode cX6_number 7 = .ok (.istore_n 3, 1) := by decide +kernel
theorem dX6_number_8 : decode cX6_number 8 = .ok (.aload_n 0, 1) := by decide +kernel
theorem dX6_number_9 : decode cX6_number 9 = .ok (.iload_n 3, 1) := by decide +kernel
theorem dX6_number_10 : decode cX6_number 10 = .ok (.iload_n 1, 1) := by decide +kernel
theorem dX6_number_11 : decode cX6_number 11 = .ok (.bipush 9, 2) := by decide +kernel
theorem dX6_number_13 : decode cX6_number 13 = .ok (.invokestatic 33, 3) := by decide +kernel
theorem dX6_number_16 : decode cX6_number 16 = .ok (.invokevirtual 144, 3) := by decide +kernel
theorem dX6_number_19 : decode cX6_number 19 = .ok (.aload_n 0, 1) := by decide +kernel
theorem dX6_number_20 : decode cX6_number 20 = .ok (.getfield 138, 3) := by decide +kernel
theorem dX6_number_23 : decode cX6_number 23 = .ok (.sipush (-1000), 3) := by decide +kernel
theorem dX6_number_26 : decode cX6_number 26 = .ok (.if_icmp .ne 11, 3) := by decide +kernel
theorem dX6_number_29 : decode cX6_number 29 = .ok (.iload_n 3, 1) := by decide +kernel
theorem dX6_number_30 : decode cX6_number 30 = .ok (.ifCond .le 7, 3) := by decide +kernel
theorem dX6_number_33 : decode cX6_number 33 = .ok (.iconst 1, 1) := by decide +kernel
theorem dX6_number_34 : decode cX6_number 34 = .ok (.goto 4, 3) := by decide +kernel
theorem dX6_number_37 : decode cX6_number 37 = .ok (.iconst 0, 1) := by decide +kernel
theorem dX6_number_38 : decode cX6_number 38 = .ok (.istore 4, 2) := by decide +kernel
theorem dX6_number_40 : decode cX6_number 40 = .ok (.iload 4, 2) := by decide +kernel
theorem dX6_number_42 : decode cX6_number 42 = .ok (.ifCond .eq 80, 3) := by decide +kernel
theorem dX6_number_45 : decode cX6_number 45 = .ok (.aload_n 0, 1) := by decide +kernel
theorem dX6_number_46 : decode cX6_number 46 = .ok (.invokevirtual 141, 3) := by decide +kernel
theorem dX6_number_49 : decode cX6_number 49 = .ok (.bipush 48, 2) := by decide +kernel
theorem dX6_number_51 : decode cX6_number 51 = .ok (.isub, 1) := by decide +kernel
theorem dX6_number_52 : decode cX6_number 52 = .ok (.istore 5, 2) := by decide +kernel
theorem dX6_number_54 : decode cX6_number 54 = .ok (.iload 5, 2) := by decide +kernel
theorem dX6_number_56 : decode cX6_number 56 = .ok (.iconst 0, 1) := by decide +kernel
theorem dX6_number_57 : decode cX6_number 57 = .ok (.bipush 9, 2) := by decide +kernel
theorem dX6_number_59 : decode cX6_number 59 = .ok (.invokestatic 33, 3) := by decide +kernel
theorem dX6_number_62 : decode cX6_number 62 = .ok (.ifCond .eq 18, 3) := by decide +kernel
theorem dX6_number_65 : decode cX6_number 65 = .ok (.bipush 10, 2) := by decide +kernel
theorem dX6_number_67 : decode cX6_number 67 = .ok (.iload_n 3, 1) := by decide +kernel
theorem dX6_number_68 : decode cX6_number 68 = .ok (.imul, 1) := by decide +kernel
theorem dX6_number_69 : decode cX6_number 69 = .ok (.iload 5, 2) := by decide +kernel
theorem dX6_number_71 : decode cX6_number 71 = .ok (.iadd, 1) := by decide +kernel
theorem dX6_number_72 : decode cX6_number 72 = .ok (.iload_n 2, 1) := by decide +kernel
theorem dX6_number_73 : decode cX6_number 73 = .ok (.if_icmp .gt 7, 3) := by decide +kernel
theorem dX6_number_76 : decode cX6_number 76 = .ok (.iconst 1, 1) := by decide +kernel
theorem dX6_number_77 : decode cX6_number 77 = .ok (.goto 4, 3) := by decide +kernel
theorem dX6_number_80 : decode cX6_number 80 = .ok (.iconst 0, 1) := by decide +kernel
theorem dX6_number_81 : decode cX6_number 81 = .ok (.istore 4, 2) := by decide +kernel
theorem dX6_number_83 : decode cX6_number 83 = .ok (.iload 4, 2) := by decide +kernel
theorem dX6_number_85 : decode cX6_number 85 = .ok (.ifCond .eq 13, 3) := by decide +kernel
theorem dX6_number_88 : decode cX6_number 88 = .ok (.bipush 10, 2) := by decide +kernel
theorem dX6_number_90 : decode cX6_number 90 = .ok (.iload_n 3, 1) := by decide +kernel
theorem dX6_number_91 : decode cX6_number 91 = .ok (.imul, 1) := by decide +kernel
theorem dX6_number_92 : decode cX6_number 92 = .ok (.iload 5, 2) := by decide +kernel
theorem dX6_number_94 : decode cX6_number 94 = .ok (.iadd, 1) := by decide +kernel
theorem dX6_number_95 : decode cX6_number 95 = .ok (.goto 4, 3) := by decide +kernel
theorem dX6_number_98 : decode cX6_number 98 = .ok (.iload_n 3, 1) := by decide +kernel
theorem dX6_number_99 : decode cX6_number 99 = .ok (.istore_n 3, 1) := by decide +kernel
theorem dX6_number_100 : decode cX6_number 100 = .ok (.aload_n 0, 1) := by decide +kernel
theorem dX6_number_101 : decode cX6_number 101 = .ok (.dup, 1) := by decide +kernel
theorem dX6_number_102 : decode cX6_number 102 = .ok (.getfield 135, 3) := by decide +kernel
theorem dX6_number_105 : decode cX6_number 105 = .ok (.iload 4, 2) := by decide +kernel
theorem dX6_number_107 : decode cX6_number 107 = .ok (.ifCond .eq 7, 3) := by decide +kernel
theorem dX6_number_110 : decode cX6_number 110 = .ok (.iconst 1, 1) := by decide +kernel
theorem dX6_number_111 : decode cX6_number 111 = .ok (.goto 4, 3) := by decide +kernel
theorem dX6_number_114 : decode cX6_number 114 = .ok (.iconst 0, 1) := by decide +kernel
theorem dX6_number_115 : decode cX6_number 115 = .ok (.iadd, 1) := by decide +kernel
theorem dX6_number_116 : decode cX6_number 116 = .ok (.putfield 135, 3) := by decide +kernel
theorem dX6_number_119 : decode cX6_number 119 = .ok (.goto (-79), 3) := by decide +kernel
theorem dX6_number_122 : decode cX6_number 122 = .ok (.iload_n 3, 1) := by decide +kernel
theorem dX6_number_123 : decode cX6_number 123 = .ok (.ireturn, 1) := by decide +kernel
theorem dX6_readWork_0 : decode cX6_readWork 0 = .ok (.aload_n 0, 1) := by decide +kernel
theorem dX6_readWork_1 : decode cX6_readWork 1 = .ok (.invokevirtual 141, 3) := by decide +kernel
theorem dX6_readWork_4 : decode cX6_readWork 4 = .ok (.istore_n 1, 1) := by decide +kernel
theorem dX6_readWork_5 : decode cX6_readWork 5 = .ok (.aload_n 0, 1) := by decide +kernel
theorem dX6_readWork_6 : decode cX6_readWork 6 = .ok (.iload_n 1, 1) := by decide +kernel
theorem dX6_readWork_7 : decode cX6_readWork 7 = .ok (.bipush 102, 2) := by decide +kernel
theorem dX6_readWork_9 : decode cX6_readWork 9 = .ok (.if_icmp .eq 27, 3) := by decide +kernel
theorem dX6_readWork_12 : decode cX6_readWork 12 = .ok (.iload_n 1, 1) := by decide +kernel
theorem dX6_readWork_13 : decode cX6_readWork 13 = .ok (.bipush 107, 2) := by decide +kernel
theorem dX6_readWork_15 : decode cX6_readWork 15 = .ok (.if_icmp .eq 21, 3) := by decide +kernel
theorem dX6_readWork_18 : decode cX6_readWork 18 = .ok (.iload_n 1, 1) := by decide +kernel
theorem dX6_readWork_19 : decode cX6_readWork 19 = .ok (.bipush 119, 2) := by decide +kernel
theorem dX6_readWork_21 : decode cX6_readWork 21 = .ok (.if_icmp .eq 15, 3) := by decide +kernel
theorem dX6_readWork_24 : decode cX6_readWork 24 = .ok (.iload_n 1, 1) := by decide +kernel
