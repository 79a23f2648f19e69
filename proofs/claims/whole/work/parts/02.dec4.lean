theorem dX6_readWork_25 : decode cX6_readWork 25 = .ok (.bipush 111, 2) := by decide +kernel
theorem dX6_readWork_27 : decode cX6_readWork 27 = .ok (.if_icmp .eq 9, 3) := by decide +kernel
theorem dX6_readWork_30 : decode cX6_readWork 30 = .ok (.iload_n 1, 1) := by decide +kernel
theorem dX6_readWork_31 : decode cX6_readWork 31 = .ok (.bipush 98, 2) := by decide +kernel
theorem dX6_readWork_33 : decode cX6_readWork 33 = .ok (.if_icmp .ne 7, 3) := by decide +kernel
theorem dX6_readWork_36 : decode cX6_readWork 36 = .ok (.iconst 1, 1) := by decide +kernel
theorem dX6_readWork_37 : decode cX6_readWork 37 = .ok (.goto 4, 3) := by decide +kernel
theorem dX6_readWork_40 : decode cX6_readWork 40 = .ok (.iconst 0, 1) := by decide +kernel
theorem dX6_readWork_41 : decode cX6_readWork 41 = .ok (.invokevirtual 144, 3) := by decide +kernel
theorem dX6_readWork_44 : decode cX6_readWork 44 = .ok (.iconst 3, 1) := by decide +kernel
theorem dX6_readWork_45 : decode cX6_readWork 45 = .ok (.aload_n 0, 1) := by decide +kernel
theorem dX6_readWork_46 : decode cX6_readWork 46 = .ok (.getfield 151, 3) := by decide +kernel
theorem dX6_readWork_49 : decode cX6_readWork 49 = .ok (.imul, 1) := by decide +kernel
theorem dX6_readWork_50 : decode cX6_readWork 50 = .ok (.istore_n 2, 1) := by decide +kernel
theorem dX6_readWork_51 : decode cX6_readWork 51 = .ok (.aload_n 0, 1) := by decide +kernel
theorem dX6_readWork_52 : decode cX6_readWork 52 = .ok (.getfield 26, 3) := by decide +kernel
theorem dX6_readWork_55 : decode cX6_readWork 55 = .ok (.iload_n 2, 1) := by decide +kernel
theorem dX6_readWork_56 : decode cX6_readWork 56 = .ok (.iload_n 1, 1) := by decide +kernel
theorem dX6_readWork_57 : decode cX6_readWork 57 = .ok (.iastore, 1) := by decide +kernel
theorem dX6_readWork_58 : decode cX6_readWork 58 = .ok (.iload_n 1, 1) := by decide +kernel
theorem dX6_readWork_59 : decode cX6_readWork 59 = .ok (.bipush 102, 2) := by decide +kernel
theorem dX6_readWork_61 : decode cX6_readWork 61 = .ok (.if_icmp .eq 15, 3) := by decide +kernel
theorem dX6_readWork_64 : decode cX6_readWork 64 = .ok (.iload_n 1, 1) := by decide +kernel
theorem dX6_readWork_65 : decode cX6_readWork 65 = .ok (.bipush 111, 2) := by decide +kernel
theorem dX6_readWork_67 : decode cX6_readWork 67 = .ok (.if_icmp .eq 9, 3) := by decide +kernel
theorem dX6_readWork_70 : decode cX6_readWork 70 = .ok (.iload_n 1, 1) := by decide +kernel
theorem dX6_readWork_71 : decode cX6_readWork 71 = .ok (.bipush 98, 2) := by decide +kernel
theorem dX6_readWork_73 : decode cX6_readWork 73 = .ok (.if_icmp .ne 16, 3) := by decide +kernel
theorem dX6_readWork_76 : decode cX6_readWork 76 = .ok (.aload_n 0, 1) := by decide +kernel
theorem dX6_readWork_77 : decode cX6_readWork 77 = .ok (.getfield 26, 3) := by decide +kernel
theorem dX6_readWork_80 : decode cX6_readWork 80 = .ok (.iload_n 2, 1) := by decide +kernel
theorem dX6_readWork_81 : decode cX6_readWork 81 = .ok (.iconst 1, 1) := by decide +kernel
theorem dX6_readWork_82 : decode cX6_readWork 82 = .ok (.iadd, 1) := by decide +kernel
theorem dX6_readWork_83 : decode cX6_readWork 83 = .ok (.aload_n 0, 1) := by decide +kernel
theorem dX6_readWork_84 : decode cX6_readWork 84 = .ok (.iconst 3, 1) := by decide +kernel
theorem dX6_readWork_85 : decode cX6_readWork 85 = .ok (.invokevirtual 148, 3) := by decide +kernel
theorem dX6_readWork_88 : decode cX6_readWork 88 = .ok (.iastore, 1) := by decide +kernel
theorem dX6_readWork_89 : decode cX6_readWork 89 = .ok (.iload_n 1, 1) := by decide +kernel
theorem dX6_readWork_90 : decode cX6_readWork 90 = .ok (.bipush 102, 2) := by decide +kernel
theorem dX6_readWork_92 : decode cX6_readWork 92 = .ok (.if_icmp .ne 19, 3) := by decide +kernel
theorem dX6_readWork_95 : decode cX6_readWork 95 = .ok (.aload_n 0, 1) := by decide +kernel
theorem dX6_readWork_96 : decode cX6_readWork 96 = .ok (.getfield 26, 3) := by decide +kernel
theorem dX6_readWork_99 : decode cX6_readWork 99 = .ok (.iload_n 2, 1) := by decide +kernel
theorem dX6_readWork_100 : decode cX6_readWork 100 = .ok (.iconst 2, 1) := by decide +kernel
theorem dX6_readWork_101 : decode cX6_readWork 101 = .ok (.iadd, 1) := by decide +kernel
theorem dX6_readWork_102 : decode cX6_readWork 102 = .ok (.aload_n 0, 1) := by decide +kernel
theorem dX6_readWork_103 : decode cX6_readWork 103 = .ok (.invokevirtual 154, 3) := by decide +kernel
theorem dX6_readWork_106 : decode cX6_readWork 106 = .ok (.sipush 720, 3) := by decide +kernel
theorem dX6_readWork_109 : decode cX6_readWork 109 = .ok (.irem, 1) := by decide +kernel
theorem dX6_readWork_110 : decode cX6_readWork 110 = .ok (.iastore, 1) := by decide +kernel
theorem dX6_readWork_111 : decode cX6_readWork 111 = .ok (.iload_n 1, 1) := by decide +kernel
theorem dX6_readWork_112 : decode cX6_readWork 112 = .ok (.bipush 107, 2) := by decide +kernel
theorem dX6_readWork_114 : decode cX6_readWork 114 = .ok (.if_icmp .ne 74, 3) := by decide +kernel
theorem dX6_readWork_117 : decode cX6_readWork 117 = .ok (.aload_n 0, 1) := by decide +kernel
theorem dX6_readWork_118 : decode cX6_readWork 118 = .ok (.getfield 26, 3) := by decide +kernel
theorem dX6_readWork_121 : decode cX6_readWork 121 = .ok (.iload_n 2, 1) := by decide +kernel
theorem dX6_readWork_122 : decode cX6_readWork 122 = .ok (.iconst 1, 1) := by decide +kernel
theorem dX6_readWork_123 : decode cX6_readWork 123 = .ok (.iadd, 1) := by decide +kernel
theorem dX6_readWork_124 : decode cX6_readWork 124 = .ok (.aload_n 0, 1) := by decide +kernel
theorem dX6_readWork_125 : decode cX6_readWork 125 = .ok (.invokevirtual 154, 3) := by decide +kernel
theorem dX6_readWork_128 : decode cX6_readWork 128 = .ok (.iastore, 1) := by decide +kernel
theorem dX6_readWork_129 : decode cX6_readWork 129 = .ok (.aload_n 0, 1) := by decide +kernel
theorem dX6_readWork_130 : decode cX6_readWork 130 = .ok (.invokevirtual 141, 3) := by decide +kernel
theorem dX6_readWork_133 : decode cX6_readWork 133 = .ok (.bipush 45, 2) := by decide +kernel
theorem dX6_readWork_135 : decode cX6_readWork 135 = .ok (.if_icmp .ne 7, 3) := by decide +kernel
theorem dX6_readWork_138 : decode cX6_readWork 138 = .ok (.iconst (-1), 1) := by decide +kernel
theorem dX6_readWork_139 : decode cX6_readWork 139 = .ok (.goto 4, 3) := by decide +kernel
theorem dX6_readWork_142 : decode cX6_readWork 142 = .ok (.iconst 1, 1) := by decide +kernel
theorem dX6_readWork_143 : decode cX6_readWork 143 = .ok (.istore_n 3, 1) := by decide +kernel
theorem dX6_readWork_144 : decode cX6_readWork 144 = .ok (.aload_n 0, 1) := by decide +kernel
theorem dX6_readWork_145 : decode cX6_readWork 145 = .ok (.aload_n 0, 1) := by decide +kernel
theorem dX6_readWork_146 : decode cX6_readWork 146 = .ok (.invokevirtual 141, 3) := by decide +kernel
theorem dX6_readWork_149 : decode cX6_readWork 149 = .ok (.bipush 43, 2) := by decide +kernel
theorem dX6_readWork_151 : decode cX6_readWork 151 = .ok (.if_icmp .eq 12, 3) := by decide +kernel
theorem dX6_readWork_154 : decode cX6_readWork 154 = .ok (.aload_n 0, 1) := by decide +kernel
theorem dX6_readWork_155 : decode cX6_readWork 155 = .ok (.invokevirtual 141, 3) := by decide +kernel
theorem dX6_readWork_158 : decode cX6_readWork 158 = .ok (.bipush 45, 2) := by decide +kernel
theorem dX6_readWork_160 : decode cX6_readWork 160 = .ok (.if_icmp .ne 7, 3) := by decide +kernel
theorem dX6_readWork_163 : decode cX6_readWork 163 = .ok (.iconst 1, 1) := by decide +kernel
theorem dX6_readWork_164 : decode cX6_readWork 164 = .ok (.goto 4, 3) := by decide +kernel
theorem dX6_readWork_167 : decode cX6_readWork 167 = .ok (.iconst 0, 1) := by decide +kernel
theorem dX6_readWork_168 : decode cX6_readWork 168 = .ok (.invokevirtual 144, 3) := by decide +kernel
theorem dX6_readWork_171 : decode cX6_readWork 171 = .ok (.aload_n 0, 1) := by decide +kernel
theorem dX6_readWork_172 : decode cX6_readWork 172 = .ok (.getfield 26, 3) := by decide +kernel
theorem dX6_readWork_175 : decode cX6_readWork 175 = .ok (.iload_n 2, 1) := by decide +kernel
theorem dX6_readWork_176 : decode cX6_readWork 176 = .ok (.iconst 2, 1) := by decide +kernel
theorem dX6_readWork_177 : decode cX6_readWork 177 = .ok (.iadd, 1) := by decide +kernel
theorem dX6_readWork_178 : decode cX6_readWork 178 = .ok (.iload_n 3, 1) := by decide +kernel
theorem dX6_readWork_179 : decode cX6_readWork 179 = .ok (.aload_n 0, 1) := by decide +kernel
theorem dX6_readWork_180 : decode cX6_readWork 180 = .ok (.iconst 0, 1) := by decide +kernel
theorem dX6_readWork_181 : decode cX6_readWork 181 = .ok (.bipush 30, 2) := by decide +kernel
theorem dX6_readWork_183 : decode cX6_readWork 183 = .ok (.invokevirtual 157, 3) := by decide +kernel
theorem dX6_readWork_186 : decode cX6_readWork 186 = .ok (.imul, 1) := by decide +kernel
theorem dX6_readWork_187 : decode cX6_readWork 187 = .ok (.iastore, 1) := by decide +kernel
theorem dX6_readWork_188 : decode cX6_readWork 188 = .ok (.iload_n 1, 1) := by decide +kernel
theorem dX6_readWork_189 : decode cX6_readWork 189 = .ok (.bipush 119, 2) := by decide +kernel
theorem dX6_readWork_191 : decode cX6_readWork 191 = .ok (.if_icmp .ne 19, 3) := by decide +kernel
theorem dX6_readWork_194 : decode cX6_readWork 194 = .ok (.aload_n 0, 1) := by decide +kernel
theorem dX6_readWork_195 : decode cX6_readWork 195 = .ok (.getfield 26, 3) := by decide +kernel
theorem dX6_readWork_198 : decode cX6_readWork 198 = .ok (.iload_n 2, 1) := by decide +kernel
theorem dX6_readWork_199 : decode cX6_readWork 199 = .ok (.iconst 1, 1) := by decide +kernel
theorem dX6_readWork_200 : decode cX6_readWork 200 = .ok (.iadd, 1) := by decide +kernel
theorem dX6_readWork_201 : decode cX6_readWork 201 = .ok (.aload_n 0, 1) := by decide +kernel
theorem dX6_readWork_202 : decode cX6_readWork 202 = .ok (.iconst 1, 1) := by decide +kernel
theorem dX6_readWork_203 : decode cX6_readWork 203 = .ok (.sipush 2000, 3) := by decide +kernel
theorem dX6_readWork_206 : decode cX6_readWork 206 = .ok (.invokevirtual 157, 3) := by decide +kernel
theorem dX6_readWork_209 : decode cX6_readWork 209 = .ok (.iastore, 1) := by decide +kernel
theorem dX6_readWork_210 : decode cX6_readWork 210 = .ok (.aload_n 0, 1) := by decide +kernel
theorem dX6_readWork_211 : decode cX6_readWork 211 = .ok (.dup, 1) := by decide +kernel
theorem dX6_readWork_212 : decode cX6_readWork 212 = .ok (.getfield 151, 3) := by decide +kernel
theorem dX6_readWork_215 : decode cX6_readWork 215 = .ok (.iconst 1, 1) := by decide +kernel
theorem dX6_readWork_216 : decode cX6_readWork 216 = .ok (.iadd, 1) := by decide +kernel
theorem dX6_readWork_217 : decode cX6_readWork 217 = .ok (.putfield 151, 3) := by decide +kernel
theorem dX6_readWork_220 : decode cX6_readWork 220 = .ok (.return_, 1) := by decide +kernel
theorem dX6_errorPosition_0 : decode cX6_errorPosition 0 = .ok (.aload_n 0, 1) := by decide +kernel
theorem dX6_errorPosition_1 : decode cX6_errorPosition 1 = .ok (.iconst 0, 1) := by decide +kernel
theorem dX6_errorPosition_2 : decode cX6_errorPosition 2 = .ok (.putfield 151, 3) := by decide +kernel
theorem dX6_errorPosition_5 : decode cX6_errorPosition 5 = .ok (.aload_n 0, 1) := by decide +kernel
theorem dX6_errorPosition_6 : decode cX6_errorPosition 6 = .ok (.iconst 0, 1) := by decide +kernel
theorem dX6_errorPosition_7 : decode cX6_errorPosition 7 = .ok (.putfield 135, 3) := by decide +kernel
theorem dX6_errorPosition_10 : decode cX6_errorPosition 10 = .ok (.aload_n 0, 1) := by decide +kernel
theorem dX6_errorPosition_11 : decode cX6_errorPosition 11 = .ok (.sipush (-1000), 3) := by decide +kernel
theorem dX6_errorPosition_14 : decode cX6_errorPosition 14 = .ok (.putfield 138, 3) := by decide +kernel
theorem dX6_errorPosition_17 : decode cX6_errorPosition 17 = .ok (.iconst 1, 1) := by decide +kernel
theorem dX6_errorPosition_18 : decode cX6_errorPosition 18 = .ok (.istore_n 1, 1) := by decide +kernel
theorem dX6_errorPosition_19 : decode cX6_errorPosition 19 = .ok (.iload_n 1, 1) := by decide +kernel
theorem dX6_errorPosition_20 : decode cX6_errorPosition 20 = .ok (.ifCond .eq 75, 3) := by decide +kernel
theorem dX6_errorPosition_23 : decode cX6_errorPosition 23 = .ok (.aload_n 0, 1) := by decide +kernel
theorem dX6_errorPosition_24 : decode cX6_errorPosition 24 = .ok (.invokevirtual 160, 3) := by decide +kernel
theorem dX6_errorPosition_27 : decode cX6_errorPosition 27 = .ok (.aload_n 0, 1) := by decide +kernel
theorem dX6_errorPosition_28 : decode cX6_errorPosition 28 = .ok (.getfield 138, 3) := by decide +kernel
theorem dX6_errorPosition_31 : decode cX6_errorPosition 31 = .ok (.sipush (-1000), 3) := by decide +kernel
theorem dX6_errorPosition_34 : decode cX6_errorPosition 34 = .ok (.if_icmp .ne 18, 3) := by decide +kernel
theorem dX6_errorPosition_37 : decode cX6_errorPosition 37 = .ok (.aload_n 0, 1) := by decide +kernel
theorem dX6_errorPosition_38 : decode cX6_errorPosition 38 = .ok (.getfield 135, 3) := by decide +kernel
theorem dX6_errorPosition_41 : decode cX6_errorPosition 41 = .ok (.aload_n 0, 1) := by decide +kernel
theorem dX6_errorPosition_42 : decode cX6_errorPosition 42 = .ok (.getfield 132, 3) := by decide +kernel
theorem dX6_errorPosition_45 : decode cX6_errorPosition 45 = .ok (.if_icmp .ge 7, 3) := by decide +kernel
theorem dX6_errorPosition_48 : decode cX6_errorPosition 48 = .ok (.iconst 1, 1) := by decide +kernel
theorem dX6_errorPosition_49 : decode cX6_errorPosition 49 = .ok (.goto 4, 3) := by decide +kernel
theorem dX6_errorPosition_52 : decode cX6_errorPosition 52 = .ok (.iconst 0, 1) := by decide +kernel
theorem dX6_errorPosition_53 : decode cX6_errorPosition 53 = .ok (.istore_n 1, 1) := by decide +kernel
theorem dX6_errorPosition_54 : decode cX6_errorPosition 54 = .ok (.iload_n 1, 1) := by decide +kernel
theorem dX6_errorPosition_55 : decode cX6_errorPosition 55 = .ok (.ifCond .eq (-36), 3) := by decide +kernel
theorem dX6_errorPosition_58 : decode cX6_errorPosition 58 = .ok (.aload_n 0, 1) := by decide +kernel
theorem dX6_errorPosition_59 : decode cX6_errorPosition 59 = .ok (.aload_n 0, 1) := by decide +kernel
theorem dX6_errorPosition_60 : decode cX6_errorPosition 60 = .ok (.invokevirtual 141, 3) := by decide +kernel
theorem dX6_errorPosition_63 : decode cX6_errorPosition 63 = .ok (.bipush 59, 2) := by decide +kernel
theorem dX6_errorPosition_65 : decode cX6_errorPosition 65 = .ok (.if_icmp .ne 7, 3) := by decide +kernel
theorem dX6_errorPosition_68 : decode cX6_errorPosition 68 = .ok (.iconst 1, 1) := by decide +kernel
theorem dX6_errorPosition_69 : decode cX6_errorPosition 69 = .ok (.goto 4, 3) := by decide +kernel
theorem dX6_errorPosition_72 : decode cX6_errorPosition 72 = .ok (.iconst 0, 1) := by decide +kernel
theorem dX6_errorPosition_73 : decode cX6_errorPosition 73 = .ok (.invokevirtual 144, 3) := by decide +kernel
theorem dX6_errorPosition_76 : decode cX6_errorPosition 76 = .ok (.aload_n 0, 1) := by decide +kernel
theorem dX6_errorPosition_77 : decode cX6_errorPosition 77 = .ok (.getfield 138, 3) := by decide +kernel
theorem dX6_errorPosition_80 : decode cX6_errorPosition 80 = .ok (.sipush (-1000), 3) := by decide +kernel
theorem dX6_errorPosition_83 : decode cX6_errorPosition 83 = .ok (.if_icmp .ne 7, 3) := by decide +kernel
theorem dX6_errorPosition_86 : decode cX6_errorPosition 86 = .ok (.iconst 1, 1) := by decide +kernel
theorem dX6_errorPosition_87 : decode cX6_errorPosition 87 = .ok (.goto 4, 3) := by decide +kernel
theorem dX6_errorPosition_90 : decode cX6_errorPosition 90 = .ok (.iconst 0, 1) := by decide +kernel
theorem dX6_errorPosition_91 : decode cX6_errorPosition 91 = .ok (.istore_n 1, 1) := by decide +kernel
theorem dX6_errorPosition_92 : decode cX6_errorPosition 92 = .ok (.goto (-73), 3) := by decide +kernel
theorem dX6_errorPosition_95 : decode cX6_errorPosition 95 = .ok (.aload_n 0, 1) := by decide +kernel
theorem dX6_errorPosition_96 : decode cX6_errorPosition 96 = .ok (.getfield 138, 3) := by decide +kernel
theorem dX6_errorPosition_99 : decode cX6_errorPosition 99 = .ok (.ireturn, 1) := by decide +kernel
theorem dX6_doOne_0 : decode cX6_doOne 0 = .ok (.aload_n 0, 1) := by decide +kernel
theorem dX6_doOne_1 : decode cX6_doOne 1 = .ok (.getfield 26, 3) := by decide +kernel
theorem dX6_doOne_4 : decode cX6_doOne 4 = .ok (.iload_n 1, 1) := by decide +kernel
theorem dX6_doOne_5 : decode cX6_doOne 5 = .ok (.iconst 1, 1) := by decide +kernel
theorem dX6_doOne_6 : decode cX6_doOne 6 = .ok (.iadd, 1) := by decide +kernel
theorem dX6_doOne_7 : decode cX6_doOne 7 = .ok (.iaload, 1) := by decide +kernel
theorem dX6_doOne_8 : decode cX6_doOne 8 = .ok (.istore_n 2, 1) := by decide +kernel
theorem dX6_doOne_9 : decode cX6_doOne 9 = .ok (.aload_n 0, 1) := by decide +kernel
theorem dX6_doOne_10 : decode cX6_doOne 10 = .ok (.getfield 26, 3) := by decide +kernel
theorem dX6_doOne_13 : decode cX6_doOne 13 = .ok (.iload_n 1, 1) := by decide +kernel
theorem dX6_doOne_14 : decode cX6_doOne 14 = .ok (.iconst 2, 1) := by decide +kernel
theorem dX6_doOne_15 : decode cX6_doOne 15 = .ok (.iadd, 1) := by decide +kernel
theorem dX6_doOne_16 : decode cX6_doOne 16 = .ok (.iaload, 1) := by decide +kernel
theorem dX6_doOne_17 : decode cX6_doOne 17 = .ok (.istore_n 3, 1) := by decide +kernel
theorem dX6_doOne_18 : decode cX6_doOne 18 = .ok (.iconst 0, 1) := by decide +kernel
theorem dX6_doOne_19 : decode cX6_doOne 19 = .ok (.istore 4, 2) := by decide +kernel
theorem dX6_doOne_21 : decode cX6_doOne 21 = .ok (.aload_n 0, 1) := by decide +kernel
theorem dX6_doOne_22 : decode cX6_doOne 22 = .ok (.getfield 26, 3) := by decide +kernel
theorem dX6_doOne_25 : decode cX6_doOne 25 = .ok (.iload_n 1, 1) := by decide +kernel
theorem dX6_doOne_26 : decode cX6_doOne 26 = .ok (.iaload, 1) := by decide +kernel
theorem dX6_doOne_27 : decode cX6_doOne 27 = .ok (.lookupswitch 104 #[(102, 41), (107, 51), (111, 95), (119, 74)], 41) := by decide +kernel
theorem dX6_doOne_68 : decode cX6_doOne 68 = .ok (.aload_n 0, 1) := by decide +kernel
theorem dX6_doOne_69 : decode cX6_doOne 69 = .ok (.iload_n 2, 1) := by decide +kernel
theorem dX6_doOne_70 : decode cX6_doOne 70 = .ok (.iload_n 3, 1) := by decide +kernel
theorem dX6_doOne_71 : decode cX6_doOne 71 = .ok (.invokevirtual 67, 3) := by decide +kernel
theorem dX6_doOne_74 : decode cX6_doOne 74 = .ok (.pop, 1) := by decide +kernel
theorem dX6_doOne_75 : decode cX6_doOne 75 = .ok (.goto 62, 3) := by decide +kernel
theorem dX6_doOne_78 : decode cX6_doOne 78 = .ok (.aload_n 0, 1) := by decide +kernel
theorem dX6_doOne_79 : decode cX6_doOne 79 = .ok (.iload_n 2, 1) := by decide +kernel
theorem dX6_doOne_80 : decode cX6_doOne 80 = .ok (.iload_n 3, 1) := by decide +kernel
theorem dX6_doOne_81 : decode cX6_doOne 81 = .ok (.invokevirtual 105, 3) := by decide +kernel
theorem dX6_doOne_84 : decode cX6_doOne 84 = .ok (.istore 4, 2) := by decide +kernel
theorem dX6_doOne_86 : decode cX6_doOne 86 = .ok (.iload 4, 2) := by decide +kernel
theorem dX6_doOne_88 : decode cX6_doOne 88 = .ok (.ifCond .ne 49, 3) := by decide +kernel
theorem dX6_doOne_91 : decode cX6_doOne 91 = .ok (.aload_n 0, 1) := by decide +kernel
theorem dX6_doOne_92 : decode cX6_doOne 92 = .ok (.iload_n 2, 1) := by decide +kernel
theorem dX6_doOne_93 : decode cX6_doOne 93 = .ok (.iload_n 3, 1) := by decide +kernel
theorem dX6_doOne_94 : decode cX6_doOne 94 = .ok (.invokevirtual 108, 3) := by decide +kernel
theorem dX6_doOne_97 : decode cX6_doOne 97 = .ok (.pop, 1) := by decide +kernel
theorem dX6_doOne_98 : decode cX6_doOne 98 = .ok (.goto 39, 3) := by decide +kernel
theorem dX6_doOne_101 : decode cX6_doOne 101 = .ok (.aload_n 0, 1) := by decide +kernel
theorem dX6_doOne_102 : decode cX6_doOne 102 = .ok (.iload_n 2, 1) := by decide +kernel
theorem dX6_doOne_103 : decode cX6_doOne 103 = .ok (.invokevirtual 90, 3) := by decide +kernel
theorem dX6_doOne_106 : decode cX6_doOne 106 = .ok (.istore 4, 2) := by decide +kernel
theorem dX6_doOne_108 : decode cX6_doOne 108 = .ok (.iload 4, 2) := by decide +kernel
theorem dX6_doOne_110 : decode cX6_doOne 110 = .ok (.ifCond .ne 27, 3) := by decide +kernel
theorem dX6_doOne_113 : decode cX6_doOne 113 = .ok (.aload_n 0, 1) := by decide +kernel
theorem dX6_doOne_114 : decode cX6_doOne 114 = .ok (.iload_n 2, 1) := by decide +kernel
theorem dX6_doOne_115 : decode cX6_doOne 115 = .ok (.invokevirtual 93, 3) := by decide +kernel
theorem dX6_doOne_118 : decode cX6_doOne 118 = .ok (.pop, 1) := by decide +kernel
theorem dX6_doOne_119 : decode cX6_doOne 119 = .ok (.goto 18, 3) := by decide +kernel
theorem dX6_doOne_122 : decode cX6_doOne 122 = .ok (.aload_n 0, 1) := by decide +kernel
theorem dX6_doOne_123 : decode cX6_doOne 123 = .ok (.iload_n 2, 1) := by decide +kernel
theorem dX6_doOne_124 : decode cX6_doOne 124 = .ok (.invokevirtual 60, 3) := by decide +kernel
theorem dX6_doOne_127 : decode cX6_doOne 127 = .ok (.pop, 1) := by decide +kernel
theorem dX6_doOne_128 : decode cX6_doOne 128 = .ok (.goto 9, 3) := by decide +kernel
theorem dX6_doOne_131 : decode cX6_doOne 131 = .ok (.aload_n 0, 1) := by decide +kernel
theorem dX6_doOne_132 : decode cX6_doOne 132 = .ok (.iload_n 2, 1) := by decide +kernel
theorem dX6_doOne_133 : decode cX6_doOne 133 = .ok (.invokevirtual 70, 3) := by decide +kernel
theorem dX6_doOne_136 : decode cX6_doOne 136 = .ok (.pop, 1) := by decide +kernel
theorem dX6_doOne_137 : decode cX6_doOne 137 = .ok (.iload 4, 2) := by decide +kernel
theorem dX6_doOne_139 : decode cX6_doOne 139 = .ok (.ireturn, 1) := by decide +kernel
theorem dX6_work_0 : decode cX6_work 0 = .ok (.aload_n 0, 1) := by decide +kernel
theorem dX6_work_1 : decode cX6_work 1 = .ok (.invokevirtual 163, 3) := by decide +kernel
theorem dX6_work_4 : decode cX6_work 4 = .ok (.sipush (-1000), 3) := by decide +kernel
theorem dX6_work_7 : decode cX6_work 7 = .ok (.if_icmp .eq 7, 3) := by decide +kernel
theorem dX6_work_10 : decode cX6_work 10 = .ok (.sipush (-1005), 3) := by decide +kernel
theorem dX6_work_13 : decode cX6_work 13 = .ok (.ireturn, 1) := by decide +kernel
theorem dX6_work_14 : decode cX6_work 14 = .ok (.aload_n 0, 1) := by decide +kernel
theorem dX6_work_15 : decode cX6_work 15 = .ok (.invokevirtual 45, 3) := by decide +kernel
theorem dX6_work_18 : decode cX6_work 18 = .ok (.iconst 0, 1) := by decide +kernel
theorem dX6_work_19 : decode cX6_work 19 = .ok (.istore_n 1, 1) := by decide +kernel
theorem dX6_work_20 : decode cX6_work 20 = .ok (.iload_n 1, 1) := by decide +kernel
theorem dX6_work_21 : decode cX6_work 21 = .ok (.aload_n 0, 1) := by decide +kernel
theorem dX6_work_22 : decode cX6_work 22 = .ok (.getfield 151, 3) := by decide +kernel
theorem dX6_work_25 : decode cX6_work 25 = .ok (.if_icmp .ge 19, 3) := by decide +kernel
theorem dX6_work_28 : decode cX6_work 28 = .ok (.aload_n 0, 1) := by decide +kernel
theorem dX6_work_29 : decode cX6_work 29 = .ok (.iconst 3, 1) := by decide +kernel
theorem dX6_work_30 : decode cX6_work 30 = .ok (.iload_n 1, 1) := by decide +kernel
theorem dX6_work_31 : decode cX6_work 31 = .ok (.imul, 1) := by decide +kernel
theorem dX6_work_32 : decode cX6_work 32 = .ok (.invokevirtual 166, 3) := by decide +kernel
theorem dX6_work_35 : decode cX6_work 35 = .ok (.ifCond .ne 9, 3) := by decide +kernel
theorem dX6_work_38 : decode cX6_work 38 = .ok (.iinc 1 1, 3) := by decide +kernel
theorem dX6_work_41 : decode cX6_work 41 = .ok (.goto (-21), 3) := by decide +kernel
theorem dX6_work_44 : decode cX6_work 44 = .ok (.aload_n 0, 1) := by decide +kernel
theorem dX6_work_45 : decode cX6_work 45 = .ok (.iconst 0, 1) := by decide +kernel
theorem dX6_work_46 : decode cX6_work 46 = .ok (.putfield 132, 3) := by decide +kernel
theorem dX6_work_49 : decode cX6_work 49 = .ok (.iload_n 1, 1) := by decide +kernel
theorem dX6_work_50 : decode cX6_work 50 = .ok (.ireturn, 1) := by decide +kernel
theorem dJ9_floorMod_7cf53_0 : decode cJ9_floorMod_7cf53 0 = .ok (.iload_n 0, 1) := by decide +kernel
theorem dJ9_floorMod_7cf53_1 : decode cJ9_floorMod_7cf53 1 = .ok (.iload_n 1, 1) := by decide +kernel
theorem dJ9_floorMod_7cf53_2 : decode cJ9_floorMod_7cf53 2 = .ok (.irem, 1) := by decide +kernel
theorem dJ9_floorMod_7cf53_3 : decode cJ9_floorMod_7cf53 3 = .ok (.istore_n 2, 1) := by decide +kernel
theorem dJ9_floorMod_7cf53_4 : decode cJ9_floorMod_7cf53 4 = .ok (.iload_n 0, 1) := by decide +kernel
theorem dJ9_floorMod_7cf53_5 : decode cJ9_floorMod_7cf53 5 = .ok (.iload_n 1, 1) := by decide +kernel
theorem dJ9_floorMod_7cf53_6 : decode cJ9_floorMod_7cf53 6 = .ok (.ixor, 1) := by decide +kernel
theorem dJ9_floorMod_7cf53_7 : decode cJ9_floorMod_7cf53 7 = .ok (.ifCond .ge 11, 3) := by decide +kernel
theorem dJ9_floorMod_7cf53_10 : decode cJ9_floorMod_7cf53 10 = .ok (.iload_n 2, 1) := by decide +kernel
theorem dJ9_floorMod_7cf53_11 : decode cJ9_floorMod_7cf53 11 = .ok (.ifCond .eq 7, 3) := by decide +kernel
theorem dJ9_floorMod_7cf53_14 : decode cJ9_floorMod_7cf53 14 = .ok (.iload_n 2, 1) := by decide +kernel
theorem dJ9_floorMod_7cf53_15 : decode cJ9_floorMod_7cf53 15 = .ok (.iload_n 1, 1) := by decide +kernel
theorem dJ9_floorMod_7cf53_16 : decode cJ9_floorMod_7cf53 16 = .ok (.iadd, 1) := by decide +kernel
theorem dJ9_floorMod_7cf53_17 : decode cJ9_floorMod_7cf53 17 = .ok (.ireturn, 1) := by decide +kernel
theorem dJ9_floorMod_7cf53_18 : decode cJ9_floorMod_7cf53 18 = .ok (.iload_n 2, 1) := by decide +kernel
theorem dJ9_floorMod_7cf53_19 : decode cJ9_floorMod_7cf53 19 = .ok (.ireturn, 1) := by decide +kernel
theorem dL_law_0 : decode cL_law 0 = .ok (.new 7, 3) := by decide +kernel
theorem dL_law_3 : decode cL_law 3 = .ok (.dup, 1) := by decide +kernel
theorem dL_law_4 : decode cL_law 4 = .ok (.invokespecial 9, 3) := by decide +kernel
theorem dL_law_7 : decode cL_law 7 = .ok (.astore_n 1, 1) := by decide +kernel
theorem dL_law_8 : decode cL_law 8 = .ok (.new 10, 3) := by decide +kernel
theorem dL_law_11 : decode cL_law 11 = .ok (.dup, 1) := by decide +kernel
theorem dL_law_12 : decode cL_law 12 = .ok (.invokespecial 12, 3) := by decide +kernel
theorem dL_law_15 : decode cL_law 15 = .ok (.astore_n 2, 1) := by decide +kernel
theorem dL_law_16 : decode cL_law 16 = .ok (.iconst 0, 1) := by decide +kernel
theorem dL_law_17 : decode cL_law 17 = .ok (.istore_n 3, 1) := by decide +kernel
theorem dL_law_18 : decode cL_law 18 = .ok (.iload_n 3, 1) := by decide +kernel
theorem dL_law_19 : decode cL_law 19 = .ok (.aload_n 0, 1) := by decide +kernel
theorem dL_law_20 : decode cL_law 20 = .ok (.arraylength, 1) := by decide +kernel
theorem dL_law_21 : decode cL_law 21 = .ok (.iconst 3, 1) := by decide +kernel
theorem dL_law_22 : decode cL_law 22 = .ok (.isub, 1) := by decide +kernel
theorem dL_law_23 : decode cL_law 23 = .ok (.if_icmp .gt 703, 3) := by decide +kernel
theorem dL_law_26 : decode cL_law 26 = .ok (.aload_n 0, 1) := by decide +kernel
theorem dL_law_27 : decode cL_law 27 = .ok (.iload_n 3, 1) := by decide +kernel
theorem dL_law_28 : decode cL_law 28 = .ok (.iaload, 1) := by decide +kernel
theorem dL_law_29 : decode cL_law 29 = .ok (.bipush 31, 2) := by decide +kernel
theorem dL_law_31 : decode cL_law 31 = .ok (.iand, 1) := by decide +kernel
theorem dL_law_32 : decode cL_law 32 = .ok (.tableswitch 688 0 25 #[120, 153, 176, 209, 232, 265, 288, 311, 344, 367, 380, 413, 426, 459, 482, 495, 528, 551, 574, 587, 610, 623, 636, 649, 662, 675], 120) := by decide +kernel
theorem dL_law_152 : decode cL_law 152 = .ok (.aload_n 1, 1) := by decide +kernel
theorem dL_law_153 : decode cL_law 153 = .ok (.aload_n 0, 1) := by decide +kernel
theorem dL_law_154 : decode cL_law 154 = .ok (.iload_n 3, 1) := by decide +kernel
theorem dL_law_155 : decode cL_law 155 = .ok (.iconst 1, 1) := by decide +kernel
theorem dL_law_156 : decode cL_law 156 = .ok (.iadd, 1) := by decide +kernel
theorem dL_law_157 : decode cL_law 157 = .ok (.iaload, 1) := by decide +kernel
theorem dL_law_158 : decode cL_law 158 = .ok (.aload_n 0, 1) := by decide +kernel
theorem dL_law_159 : decode cL_law 159 = .ok (.iload_n 3, 1) := by decide +kernel
theorem dL_law_160 : decode cL_law 160 = .ok (.iconst 2, 1) := by decide +kernel
theorem dL_law_161 : decode cL_law 161 = .ok (.iadd, 1) := by decide +kernel
theorem dL_law_162 : decode cL_law 162 = .ok (.iaload, 1) := by decide +kernel
theorem dL_law_163 : decode cL_law 163 = .ok (.invokevirtual 13, 3) := by decide +kernel
theorem dL_law_166 : decode cL_law 166 = .ok (.aload_n 2, 1) := by decide +kernel
theorem dL_law_167 : decode cL_law 167 = .ok (.aload_n 0, 1) := by decide +kernel
theorem dL_law_168 : decode cL_law 168 = .ok (.iload_n 3, 1) := by decide +kernel
theorem dL_law_169 : decode cL_law 169 = .ok (.iconst 1, 1) := by decide +kernel
theorem dL_law_170 : decode cL_law 170 = .ok (.iadd, 1) := by decide +kernel
theorem dL_law_171 : decode cL_law 171 = .ok (.iaload, 1) := by decide +kernel
theorem dL_law_172 : decode cL_law 172 = .ok (.aload_n 0, 1) := by decide +kernel
theorem dL_law_173 : decode cL_law 173 = .ok (.iload_n 3, 1) := by decide +kernel
theorem dL_law_174 : decode cL_law 174 = .ok (.iconst 2, 1) := by decide +kernel
theorem dL_law_175 : decode cL_law 175 = .ok (.iadd, 1) := by decide +kernel
theorem dL_law_176 : decode cL_law 176 = .ok (.iaload, 1) := by decide +kernel
theorem dL_law_177 : decode cL_law 177 = .ok (.invokevirtual 17, 3) := by decide +kernel
theorem dL_law_180 : decode cL_law 180 = .ok (.if_icmp .eq 540, 3) := by decide +kernel
theorem dL_law_183 : decode cL_law 183 = .ok (.iconst 0, 1) := by decide +kernel
theorem dL_law_184 : decode cL_law 184 = .ok (.ireturn, 1) := by decide +kernel
theorem dL_law_185 : decode cL_law 185 = .ok (.aload_n 1, 1) := by decide +kernel
theorem dL_law_186 : decode cL_law 186 = .ok (.aload_n 0, 1) := by decide +kernel
theorem dL_law_187 : decode cL_law 187 = .ok (.iload_n 3, 1) := by decide +kernel
theorem dL_law_188 : decode cL_law 188 = .ok (.iconst 1, 1) := by decide +kernel
theorem dL_law_189 : decode cL_law 189 = .ok (.iadd, 1) := by decide +kernel
theorem dL_law_190 : decode cL_law 190 = .ok (.iaload, 1) := by decide +kernel
theorem dL_law_191 : decode cL_law 191 = .ok (.invokevirtual 18, 3) := by decide +kernel
theorem dL_law_194 : decode cL_law 194 = .ok (.aload_n 2, 1) := by decide +kernel
theorem dL_law_195 : decode cL_law 195 = .ok (.aload_n 0, 1) := by decide +kernel
theorem dL_law_196 : decode cL_law 196 = .ok (.iload_n 3, 1) := by decide +kernel
theorem dL_law_197 : decode cL_law 197 = .ok (.iconst 1, 1) := by decide +kernel
theorem dL_law_198 : decode cL_law 198 = .ok (.iadd, 1) := by decide +kernel
theorem dL_law_199 : decode cL_law 199 = .ok (.iaload, 1) := by decide +kernel
theorem dL_law_200 : decode cL_law 200 = .ok (.invokevirtual 22, 3) := by decide +kernel
theorem dL_law_203 : decode cL_law 203 = .ok (.if_icmp .eq 517, 3) := by decide +kernel
theorem dL_law_206 : decode cL_law 206 = .ok (.iconst 0, 1) := by decide +kernel
theorem dL_law_207 : decode cL_law 207 = .ok (.ireturn, 1) := by decide +kernel
theorem dL_law_208 : decode cL_law 208 = .ok (.aload_n 1, 1) := by decide +kernel
theorem dL_law_209 : decode cL_law 209 = .ok (.aload_n 0, 1) := by decide +kernel
theorem dL_law_210 : decode cL_law 210 = .ok (.iload_n 3, 1) := by decide +kernel
theorem dL_law_211 : decode cL_law 211 = .ok (.iconst 1, 1) := by decide +kernel
theorem dL_law_212 : decode cL_law 212 = .ok (.iadd, 1) := by decide +kernel
theorem dL_law_213 : decode cL_law 213 = .ok (.iaload, 1) := by decide +kernel
theorem dL_law_214 : decode cL_law 214 = .ok (.aload_n 0, 1) := by decide +kernel
theorem dL_law_215 : decode cL_law 215 = .ok (.iload_n 3, 1) := by decide +kernel
theorem dL_law_216 : decode cL_law 216 = .ok (.iconst 2, 1) := by decide +kernel
theorem dL_law_217 : decode cL_law 217 = .ok (.iadd, 1) := by decide +kernel
theorem dL_law_218 : decode cL_law 218 = .ok (.iaload, 1) := by decide +kernel
theorem dL_law_219 : decode cL_law 219 = .ok (.invokevirtual 23, 3) := by decide +kernel
theorem dL_law_222 : decode cL_law 222 = .ok (.aload_n 2, 1) := by decide +kernel
theorem dL_law_223 : decode cL_law 223 = .ok (.aload_n 0, 1) := by decide +kernel
theorem dL_law_224 : decode cL_law 224 = .ok (.iload_n 3, 1) := by decide +kernel
theorem dL_law_225 : decode cL_law 225 = .ok (.iconst 1, 1) := by decide +kernel
theorem dL_law_226 : decode cL_law 226 = .ok (.iadd, 1) := by decide +kernel
theorem dL_law_227 : decode cL_law 227 = .ok (.iaload, 1) := by decide +kernel
theorem dL_law_228 : decode cL_law 228 = .ok (.aload_n 0, 1) := by decide +kernel
theorem dL_law_229 : decode cL_law 229 = .ok (.iload_n 3, 1) := by decide +kernel
theorem dL_law_230 : decode cL_law 230 = .ok (.iconst 2, 1) := by decide +kernel
theorem dL_law_231 : decode cL_law 231 = .ok (.iadd, 1) := by decide +kernel
theorem dL_law_232 : decode cL_law 232 = .ok (.iaload, 1) := by decide +kernel
theorem dL_law_233 : decode cL_law 233 = .ok (.invokevirtual 26, 3) := by decide +kernel
theorem dL_law_236 : decode cL_law 236 = .ok (.if_icmp .eq 484, 3) := by decide +kernel
theorem dL_law_239 : decode cL_law 239 = .ok (.iconst 0, 1) := by decide +kernel
theorem dL_law_240 : decode cL_law 240 = .ok (.ireturn, 1) := by decide +kernel
theorem dL_law_241 : decode cL_law 241 = .ok (.aload_n 1, 1) := by decide +kernel
theorem dL_law_242 : decode cL_law 242 = .ok (.aload_n 0, 1) := by decide +kernel
theorem dL_law_243 : decode cL_law 243 = .ok (.iload_n 3, 1) := by decide +kernel
theorem dL_law_244 : decode cL_law 244 = .ok (.iconst 1, 1) := by decide +kernel
theorem dL_law_245 : decode cL_law 245 = .ok (.iadd, 1) := by decide +kernel
theorem dL_law_246 : decode cL_law 246 = .ok (.iaload, 1) := by decide +kernel
theorem dL_law_247 : decode cL_law 247 = .ok (.invokevirtual 27, 3) := by decide +kernel
theorem dL_law_250 : decode cL_law 250 = .ok (.aload_n 2, 1) := by decide +kernel
theorem dL_law_251 : decode cL_law 251 = .ok (.aload_n 0, 1) := by decide +kernel
theorem dL_law_252 : decode cL_law 252 = .ok (.iload_n 3, 1) := by decide +kernel
theorem dL_law_253 : decode cL_law 253 = .ok (.iconst 1, 1) := by decide +kernel
theorem dL_law_254 : decode cL_law 254 = .ok (.iadd, 1) := by decide +kernel
theorem dL_law_255 : decode cL_law 255 = .ok (.iaload, 1) := by decide +kernel
theorem dL_law_256 : decode cL_law 256 = .ok (.invokevirtual 30, 3) := by decide +kernel
theorem dL_law_259 : decode cL_law 259 = .ok (.if_icmp .eq 461, 3) := by decide +kernel
theorem dL_law_262 : decode cL_law 262 = .ok (.iconst 0, 1) := by decide +kernel
theorem dL_law_263 : decode cL_law 263 = .ok (.ireturn, 1) := by decide +kernel
theorem dL_law_264 : decode cL_law 264 = .ok (.aload_n 1, 1) := by decide +kernel
theorem dL_law_265 : decode cL_law 265 = .ok (.aload_n 0, 1) := by decide +kernel
theorem dL_law_266 : decode cL_law 266 = .ok (.iload_n 3, 1) := by decide +kernel
theorem dL_law_267 : decode cL_law 267 = .ok (.iconst 1, 1) := by decide +kernel
theorem dL_law_268 : decode cL_law 268 = .ok (.iadd, 1) := by decide +kernel
theorem dL_law_269 : decode cL_law 269 = .ok (.iaload, 1) := by decide +kernel
theorem dL_law_270 : decode cL_law 270 = .ok (.aload_n 0, 1) := by decide +kernel
theorem dL_law_271 : decode cL_law 271 = .ok (.iload_n 3, 1) := by decide +kernel
theorem dL_law_272 : decode cL_law 272 = .ok (.iconst 2, 1) := by decide +kernel
theorem dL_law_273 : decode cL_law 273 = .ok (.iadd, 1) := by decide +kernel
theorem dL_law_274 : decode cL_law 274 = .ok (.iaload, 1) := by decide +kernel
theorem dL_law_275 : decode cL_law 275 = .ok (.invokevirtual 31, 3) := by decide +kernel
theorem dL_law_278 : decode cL_law 278 = .ok (.aload_n 2, 1) := by decide +kernel
theorem dL_law_279 : decode cL_law 279 = .ok (.aload_n 0, 1) := by decide +kernel
theorem dL_law_280 : decode cL_law 280 = .ok (.iload_n 3, 1) := by decide +kernel
theorem dL_law_281 : decode cL_law 281 = .ok (.iconst 1, 1) := by decide +kernel
theorem dL_law_282 : decode cL_law 282 = .ok (.iadd, 1) := by decide +kernel
theorem dL_law_283 : decode cL_law 283 = .ok (.iaload, 1) := by decide +kernel
theorem dL_law_284 : decode cL_law 284 = .ok (.aload_n 0, 1) := by decide +kernel
theorem dL_law_285 : decode cL_law 285 = .ok (.iload_n 3, 1) := by decide +kernel
theorem dL_law_286 : decode cL_law 286 = .ok (.iconst 2, 1) := by decide +kernel
theorem dL_law_287 : decode cL_law 287 = .ok (.iadd, 1) := by decide +kernel
theorem dL_law_288 : decode cL_law 288 = .ok (.iaload, 1) := by decide +kernel
theorem dL_law_289 : decode cL_law 289 = .ok (.invokevirtual 34, 3) := by decide +kernel
theorem dL_law_292 : decode cL_law 292 = .ok (.if_icmp .eq 428, 3) := by decide +kernel
theorem dL_law_295 : decode cL_law 295 = .ok (.iconst 0, 1) := by decide +kernel
theorem dL_law_296 : decode cL_law 296 = .ok (.ireturn, 1) := by decide +kernel
theorem dL_law_297 : decode cL_law 297 = .ok (.aload_n 1, 1) := by decide +kernel
theorem dL_law_298 : decode cL_law 298 = .ok (.aload_n 0, 1) := by decide +kernel
theorem dL_law_299 : decode cL_law 299 = .ok (.iload_n 3, 1) := by decide +kernel
theorem dL_law_300 : decode cL_law 300 = .ok (.iconst 1, 1) := by decide +kernel
theorem dL_law_301 : decode cL_law 301 = .ok (.iadd, 1) := by decide +kernel
theorem dL_law_302 : decode cL_law 302 = .ok (.iaload, 1) := by decide +kernel
theorem dL_law_303 : decode cL_law 303 = .ok (.invokevirtual 35, 3) := by decide +kernel
theorem dL_law_306 : decode cL_law 306 = .ok (.aload_n 2, 1) := by decide +kernel
theorem dL_law_307 : decode cL_law 307 = .ok (.aload_n 0, 1) := by decide +kernel
theorem dL_law_308 : decode cL_law 308 = .ok (.iload_n 3, 1) := by decide +kernel
theorem dL_law_309 : decode cL_law 309 = .ok (.iconst 1, 1) := by decide +kernel
theorem dL_law_310 : decode cL_law 310 = .ok (.iadd, 1) := by decide +kernel
theorem dL_law_311 : decode cL_law 311 = .ok (.iaload, 1) := by decide +kernel
theorem dL_law_312 : decode cL_law 312 = .ok (.invokevirtual 38, 3) := by decide +kernel
theorem dL_law_315 : decode cL_law 315 = .ok (.if_icmp .eq 405, 3) := by decide +kernel
theorem dL_law_318 : decode cL_law 318 = .ok (.iconst 0, 1) := by decide +kernel
theorem dL_law_319 : decode cL_law 319 = .ok (.ireturn, 1) := by decide +kernel
theorem dL_law_320 : decode cL_law 320 = .ok (.aload_n 1, 1) := by decide +kernel
theorem dL_law_321 : decode cL_law 321 = .ok (.aload_n 0, 1) := by decide +kernel
theorem dL_law_322 : decode cL_law 322 = .ok (.iload_n 3, 1) := by decide +kernel
theorem dL_law_323 : decode cL_law 323 = .ok (.iconst 1, 1) := by decide +kernel
theorem dL_law_324 : decode cL_law 324 = .ok (.iadd, 1) := by decide +kernel
theorem dL_law_325 : decode cL_law 325 = .ok (.iaload, 1) := by decide +kernel
theorem dL_law_326 : decode cL_law 326 = .ok (.invokevirtual 39, 3) := by decide +kernel
theorem dL_law_329 : decode cL_law 329 = .ok (.aload_n 2, 1) := by decide +kernel
theorem dL_law_330 : decode cL_law 330 = .ok (.aload_n 0, 1) := by decide +kernel
theorem dL_law_331 : decode cL_law 331 = .ok (.iload_n 3, 1) := by decide +kernel
theorem dL_law_332 : decode cL_law 332 = .ok (.iconst 1, 1) := by decide +kernel
theorem dL_law_333 : decode cL_law 333 = .ok (.iadd, 1) := by decide +kernel
theorem dL_law_334 : decode cL_law 334 = .ok (.iaload, 1) := by decide +kernel
theorem dL_law_335 : decode cL_law 335 = .ok (.invokevirtual 42, 3) := by decide +kernel
theorem dL_law_338 : decode cL_law 338 = .ok (.if_icmp .eq 382, 3) := by decide +kernel
theorem dL_law_341 : decode cL_law 341 = .ok (.iconst 0, 1) := by decide +kernel
theorem dL_law_342 : decode cL_law 342 = .ok (.ireturn, 1) := by decide +kernel
theorem dL_law_343 : decode cL_law 343 = .ok (.aload_n 1, 1) := by decide +kernel
theorem dL_law_344 : decode cL_law 344 = .ok (.aload_n 0, 1) := by decide +kernel
theorem dL_law_345 : decode cL_law 345 = .ok (.iload_n 3, 1) := by decide +kernel
theorem dL_law_346 : decode cL_law 346 = .ok (.iconst 1, 1) := by decide +kernel
theorem dL_law_347 : decode cL_law 347 = .ok (.iadd, 1) := by decide +kernel
theorem dL_law_348 : decode cL_law 348 = .ok (.iaload, 1) := by decide +kernel
theorem dL_law_349 : decode cL_law 349 = .ok (.aload_n 0, 1) := by decide +kernel
theorem dL_law_350 : decode cL_law 350 = .ok (.iload_n 3, 1) := by decide +kernel
theorem dL_law_351 : decode cL_law 351 = .ok (.iconst 2, 1) := by decide +kernel
theorem dL_law_352 : decode cL_law 352 = .ok (.iadd, 1) := by decide +kernel
theorem dL_law_353 : decode cL_law 353 = .ok (.iaload, 1) := by decide +kernel
theorem dL_law_354 : decode cL_law 354 = .ok (.invokevirtual 43, 3) := by decide +kernel
theorem dL_law_357 : decode cL_law 357 = .ok (.aload_n 2, 1) := by decide +kernel
theorem dL_law_358 : decode cL_law 358 = .ok (.aload_n 0, 1) := by decide +kernel
theorem dL_law_359 : decode cL_law 359 = .ok (.iload_n 3, 1) := by decide +kernel
theorem dL_law_360 : decode cL_law 360 = .ok (.iconst 1, 1) := by decide +kernel
theorem dL_law_361 : decode cL_law 361 = .ok (.iadd, 1) := by decide +kernel
theorem dL_law_362 : decode cL_law 362 = .ok (.iaload, 1) := by decide +kernel
theorem dL_law_363 : decode cL_law 363 = .ok (.aload_n 0, 1) := by decide +kernel
theorem dL_law_364 : decode cL_law 364 = .ok (.iload_n 3, 1) := by decide +kernel
theorem dL_law_365 : decode cL_law 365 = .ok (.iconst 2, 1) := by decide +kernel
theorem dL_law_366 : decode cL_law 366 = .ok (.iadd, 1) := by decide +kernel
theorem dL_law_367 : decode cL_law 367 = .ok (.iaload, 1) := by decide +kernel
theorem dL_law_368 : decode cL_law 368 = .ok (.invokevirtual 46, 3) := by decide +kernel
theorem dL_law_371 : decode cL_law 371 = .ok (.if_icmp .eq 349, 3) := by decide +kernel
theorem dL_law_374 : decode cL_law 374 = .ok (.iconst 0, 1) := by decide +kernel
theorem dL_law_375 : decode cL_law 375 = .ok (.ireturn, 1) := by decide +kernel
theorem dL_law_376 : decode cL_law 376 = .ok (.aload_n 1, 1) := by decide +kernel
theorem dL_law_377 : decode cL_law 377 = .ok (.aload_n 0, 1) := by decide +kernel
theorem dL_law_378 : decode cL_law 378 = .ok (.iload_n 3, 1) := by decide +kernel
theorem dL_law_379 : decode cL_law 379 = .ok (.iconst 1, 1) := by decide +kernel
theorem dL_law_380 : decode cL_law 380 = .ok (.iadd, 1) := by decide +kernel
theorem dL_law_381 : decode cL_law 381 = .ok (.iaload, 1) := by decide +kernel
theorem dL_law_382 : decode cL_law 382 = .ok (.invokevirtual 47, 3) := by decide +kernel
theorem dL_law_385 : decode cL_law 385 = .ok (.aload_n 2, 1) := by decide +kernel
theorem dL_law_386 : decode cL_law 386 = .ok (.aload_n 0, 1) := by decide +kernel
theorem dL_law_387 : decode cL_law 387 = .ok (.iload_n 3, 1) := by decide +kernel
theorem dL_law_388 : decode cL_law 388 = .ok (.iconst 1, 1) := by decide +kernel
theorem dL_law_389 : decode cL_law 389 = .ok (.iadd, 1) := by decide +kernel
theorem dL_law_390 : decode cL_law 390 = .ok (.iaload, 1) := by decide +kernel
theorem dL_law_391 : decode cL_law 391 = .ok (.invokevirtual 50, 3) := by decide +kernel
theorem dL_law_394 : decode cL_law 394 = .ok (.if_icmp .eq 326, 3) := by decide +kernel
theorem dL_law_397 : decode cL_law 397 = .ok (.iconst 0, 1) := by decide +kernel
theorem dL_law_398 : decode cL_law 398 = .ok (.ireturn, 1) := by decide +kernel
theorem dL_law_399 : decode cL_law 399 = .ok (.aload_n 1, 1) := by decide +kernel
theorem dL_law_400 : decode cL_law 400 = .ok (.invokevirtual 51, 3) := by decide +kernel
theorem dL_law_403 : decode cL_law 403 = .ok (.aload_n 2, 1) := by decide +kernel
theorem dL_law_404 : decode cL_law 404 = .ok (.invokevirtual 55, 3) := by decide +kernel
theorem dL_law_407 : decode cL_law 407 = .ok (.if_icmp .eq 313, 3) := by decide +kernel
theorem dL_law_410 : decode cL_law 410 = .ok (.iconst 0, 1) := by decide +kernel
theorem dL_law_411 : decode cL_law 411 = .ok (.ireturn, 1) := by decide +kernel
theorem dL_law_412 : decode cL_law 412 = .ok (.aload_n 1, 1) := by decide +kernel
theorem dL_law_413 : decode cL_law 413 = .ok (.aload_n 0, 1) := by decide +kernel
theorem dL_law_414 : decode cL_law 414 = .ok (.iload_n 3, 1) := by decide +kernel
theorem dL_law_415 : decode cL_law 415 = .ok (.iconst 1, 1) := by decide +kernel
theorem dL_law_416 : decode cL_law 416 = .ok (.iadd, 1) := by decide +kernel
theorem dL_law_417 : decode cL_law 417 = .ok (.iaload, 1) := by decide +kernel
theorem dL_law_418 : decode cL_law 418 = .ok (.aload_n 0, 1) := by decide +kernel
theorem dL_law_419 : decode cL_law 419 = .ok (.iload_n 3, 1) := by decide +kernel
theorem dL_law_420 : decode cL_law 420 = .ok (.iconst 2, 1) := by decide +kernel
theorem dL_law_421 : decode cL_law 421 = .ok (.iadd, 1) := by decide +kernel
theorem dL_law_422 : decode cL_law 422 = .ok (.iaload, 1) := by decide +kernel
theorem dL_law_423 : decode cL_law 423 = .ok (.invokevirtual 56, 3) := by decide +kernel
theorem dL_law_426 : decode cL_law 426 = .ok (.aload_n 2, 1) := by decide +kernel
theorem dL_law_427 : decode cL_law 427 = .ok (.aload_n 0, 1) := by decide +kernel
theorem dL_law_428 : decode cL_law 428 = .ok (.iload_n 3, 1) := by decide +kernel
theorem dL_law_429 : decode cL_law 429 = .ok (.iconst 1, 1) := by decide +kernel
theorem dL_law_430 : decode cL_law 430 = .ok (.iadd, 1) := by decide +kernel
theorem dL_law_431 : decode cL_law 431 = .ok (.iaload, 1) := by decide +kernel
theorem dL_law_432 : decode cL_law 432 = .ok (.aload_n 0, 1) := by decide +kernel
theorem dL_law_433 : decode cL_law 433 = .ok (.iload_n 3, 1) := by decide +kernel
theorem dL_law_434 : decode cL_law 434 = .ok (.iconst 2, 1) := by decide +kernel
theorem dL_law_435 : decode cL_law 435 = .ok (.iadd, 1) := by decide +kernel
theorem dL_law_436 : decode cL_law 436 = .ok (.iaload, 1) := by decide +kernel
theorem dL_law_437 : decode cL_law 437 = .ok (.invokevirtual 59, 3) := by decide +kernel
theorem dL_law_440 : decode cL_law 440 = .ok (.if_icmp .eq 280, 3) := by decide +kernel
theorem dL_law_443 : decode cL_law 443 = .ok (.iconst 0, 1) := by decide +kernel
theorem dL_law_444 : decode cL_law 444 = .ok (.ireturn, 1) := by decide +kernel
theorem dL_law_445 : decode cL_law 445 = .ok (.aload_n 1, 1) := by decide +kernel
theorem dL_law_446 : decode cL_law 446 = .ok (.invokevirtual 60, 3) := by decide +kernel
theorem dL_law_449 : decode cL_law 449 = .ok (.aload_n 2, 1) := by decide +kernel
theorem dL_law_450 : decode cL_law 450 = .ok (.invokevirtual 63, 3) := by decide +kernel
theorem dL_law_453 : decode cL_law 453 = .ok (.if_icmp .eq 267, 3) := by decide +kernel
theorem dL_law_456 : decode cL_law 456 = .ok (.iconst 0, 1) := by decide +kernel
theorem dL_law_457 : decode cL_law 457 = .ok (.ireturn, 1) := by decide +kernel
theorem dL_law_458 : decode cL_law 458 = .ok (.aload_n 1, 1) := by decide +kernel
theorem dL_law_459 : decode cL_law 459 = .ok (.aload_n 0, 1) := by decide +kernel
theorem dL_law_460 : decode cL_law 460 = .ok (.iload_n 3, 1) := by decide +kernel
theorem dL_law_461 : decode cL_law 461 = .ok (.iconst 1, 1) := by decide +kernel
theorem dL_law_462 : decode cL_law 462 = .ok (.iadd, 1) := by decide +kernel
theorem dL_law_463 : decode cL_law 463 = .ok (.iaload, 1) := by decide +kernel
theorem dL_law_464 : decode cL_law 464 = .ok (.aload_n 0, 1) := by decide +kernel
theorem dL_law_465 : decode cL_law 465 = .ok (.iload_n 3, 1) := by decide +kernel
theorem dL_law_466 : decode cL_law 466 = .ok (.iconst 2, 1) := by decide +kernel
theorem dL_law_467 : decode cL_law 467 = .ok (.iadd, 1) := by decide +kernel
theorem dL_law_468 : decode cL_law 468 = .ok (.iaload, 1) := by decide +kernel
theorem dL_law_469 : decode cL_law 469 = .ok (.invokevirtual 64, 3) := by decide +kernel
theorem dL_law_472 : decode cL_law 472 = .ok (.aload_n 2, 1) := by decide +kernel
theorem dL_law_473 : decode cL_law 473 = .ok (.aload_n 0, 1) := by decide +kernel
theorem dL_law_474 : decode cL_law 474 = .ok (.iload_n 3, 1) := by decide +kernel
theorem dL_law_475 : decode cL_law 475 = .ok (.iconst 1, 1) := by decide +kernel
theorem dL_law_476 : decode cL_law 476 = .ok (.iadd, 1) := by decide +kernel
theorem dL_law_477 : decode cL_law 477 = .ok (.iaload, 1) := by decide +kernel
theorem dL_law_478 : decode cL_law 478 = .ok (.aload_n 0, 1) := by decide +kernel
theorem dL_law_479 : decode cL_law 479 = .ok (.iload_n 3, 1) := by decide +kernel
theorem dL_law_480 : decode cL_law 480 = .ok (.iconst 2, 1) := by decide +kernel
theorem dL_law_481 : decode cL_law 481 = .ok (.iadd, 1) := by decide +kernel
theorem dL_law_482 : decode cL_law 482 = .ok (.iaload, 1) := by decide +kernel
theorem dL_law_483 : decode cL_law 483 = .ok (.invokevirtual 67, 3) := by decide +kernel
theorem dL_law_486 : decode cL_law 486 = .ok (.if_icmp .eq 234, 3) := by decide +kernel
theorem dL_law_489 : decode cL_law 489 = .ok (.iconst 0, 1) := by decide +kernel
theorem dL_law_490 : decode cL_law 490 = .ok (.ireturn, 1) := by decide +kernel
theorem dL_law_491 : decode cL_law 491 = .ok (.aload_n 1, 1) := by decide +kernel
theorem dL_law_492 : decode cL_law 492 = .ok (.aload_n 0, 1) := by decide +kernel
theorem dL_law_493 : decode cL_law 493 = .ok (.iload_n 3, 1) := by decide +kernel
theorem dL_law_494 : decode cL_law 494 = .ok (.iconst 1, 1) := by decide +kernel
theorem dL_law_495 : decode cL_law 495 = .ok (.iadd, 1) := by decide +kernel
theorem dL_law_496 : decode cL_law 496 = .ok (.iaload, 1) := by decide +kernel
theorem dL_law_497 : decode cL_law 497 = .ok (.invokevirtual 68, 3) := by decide +kernel
theorem dL_law_500 : decode cL_law 500 = .ok (.aload_n 2, 1) := by decide +kernel
theorem dL_law_501 : decode cL_law 501 = .ok (.aload_n 0, 1) := by decide +kernel
theorem dL_law_502 : decode cL_law 502 = .ok (.iload_n 3, 1) := by decide +kernel
theorem dL_law_503 : decode cL_law 503 = .ok (.iconst 1, 1) := by decide +kernel
theorem dL_law_504 : decode cL_law 504 = .ok (.iadd, 1) := by decide +kernel
theorem dL_law_505 : decode cL_law 505 = .ok (.iaload, 1) := by decide +kernel
theorem dL_law_506 : decode cL_law 506 = .ok (.invokevirtual 71, 3) := by decide +kernel
theorem dL_law_509 : decode cL_law 509 = .ok (.if_icmp .eq 211, 3) := by decide +kernel
theorem dL_law_512 : decode cL_law 512 = .ok (.iconst 0, 1) := by decide +kernel
theorem dL_law_513 : decode cL_law 513 = .ok (.ireturn, 1) := by decide +kernel
theorem dL_law_514 : decode cL_law 514 = .ok (.aload_n 1, 1) := by decide +kernel
theorem dL_law_515 : decode cL_law 515 = .ok (.invokevirtual 72, 3) := by decide +kernel
theorem dL_law_518 : decode cL_law 518 = .ok (.aload_n 2, 1) := by decide +kernel
theorem dL_law_519 : decode cL_law 519 = .ok (.invokevirtual 75, 3) := by decide +kernel
theorem dL_law_522 : decode cL_law 522 = .ok (.if_icmp .eq 198, 3) := by decide +kernel
theorem dL_law_525 : decode cL_law 525 = .ok (.iconst 0, 1) := by decide +kernel
theorem dL_law_526 : decode cL_law 526 = .ok (.ireturn, 1) := by decide +kernel
theorem dL_law_527 : decode cL_law 527 = .ok (.aload_n 1, 1) := by decide +kernel
theorem dL_law_528 : decode cL_law 528 = .ok (.aload_n 0, 1) := by decide +kernel
theorem dL_law_529 : decode cL_law 529 = .ok (.iload_n 3, 1) := by decide +kernel
theorem dL_law_530 : decode cL_law 530 = .ok (.iconst 1, 1) := by decide +kernel
theorem dL_law_531 : decode cL_law 531 = .ok (.iadd, 1) := by decide +kernel
theorem dL_law_532 : decode cL_law 532 = .ok (.iaload, 1) := by decide +kernel
theorem dL_law_533 : decode cL_law 533 = .ok (.aload_n 0, 1) := by decide +kernel
theorem dL_law_534 : decode cL_law 534 = .ok (.iload_n 3, 1) := by decide +kernel
theorem dL_law_535 : decode cL_law 535 = .ok (.iconst 2, 1) := by decide +kernel
theorem dL_law_536 : decode cL_law 536 = .ok (.iadd, 1) := by decide +kernel
theorem dL_law_537 : decode cL_law 537 = .ok (.iaload, 1) := by decide +kernel
theorem dL_law_538 : decode cL_law 538 = .ok (.invokevirtual 76, 3) := by decide +kernel
theorem dL_law_541 : decode cL_law 541 = .ok (.aload_n 2, 1) := by decide +kernel
theorem dL_law_542 : decode cL_law 542 = .ok (.aload_n 0, 1) := by decide +kernel
theorem dL_law_543 : decode cL_law 543 = .ok (.iload_n 3, 1) := by decide +kernel
theorem dL_law_544 : decode cL_law 544 = .ok (.iconst 1, 1) := by decide +kernel
theorem dL_law_545 : decode cL_law 545 = .ok (.iadd, 1) := by decide +kernel
theorem dL_law_546 : decode cL_law 546 = .ok (.iaload, 1) := by decide +kernel
theorem dL_law_547 : decode cL_law 547 = .ok (.aload_n 0, 1) := by decide +kernel
theorem dL_law_548 : decode cL_law 548 = .ok (.iload_n 3, 1) := by decide +kernel
theorem dL_law_549 : decode cL_law 549 = .ok (.iconst 2, 1) := by decide +kernel
theorem dL_law_550 : decode cL_law 550 = .ok (.iadd, 1) := by decide +kernel
theorem dL_law_551 : decode cL_law 551 = .ok (.iaload, 1) := by decide +kernel
theorem dL_law_552 : decode cL_law 552 = .ok (.invokevirtual 79, 3) := by decide +kernel
theorem dL_law_555 : decode cL_law 555 = .ok (.if_icmp .eq 165, 3) := by decide +kernel
theorem dL_law_558 : decode cL_law 558 = .ok (.iconst 0, 1) := by decide +kernel
theorem dL_law_559 : decode cL_law 559 = .ok (.ireturn, 1) := by decide +kernel
theorem dL_law_560 : decode cL_law 560 = .ok (.aload_n 1, 1) := by decide +kernel
theorem dL_law_561 : decode cL_law 561 = .ok (.aload_n 0, 1) := by decide +kernel
theorem dL_law_562 : decode cL_law 562 = .ok (.iload_n 3, 1) := by decide +kernel
theorem dL_law_563 : decode cL_law 563 = .ok (.iconst 1, 1) := by decide +kernel
theorem dL_law_564 : decode cL_law 564 = .ok (.iadd, 1) := by decide +kernel
theorem dL_law_565 : decode cL_law 565 = .ok (.iaload, 1) := by decide +kernel
theorem dL_law_566 : decode cL_law 566 = .ok (.invokevirtual 80, 3) := by decide +kernel
theorem dL_law_569 : decode cL_law 569 = .ok (.aload_n 2, 1) := by decide +kernel
theorem dL_law_570 : decode cL_law 570 = .ok (.aload_n 0, 1) := by decide +kernel
theorem dL_law_571 : decode cL_law 571 = .ok (.iload_n 3, 1) := by decide +kernel
theorem dL_law_572 : decode cL_law 572 = .ok (.iconst 1, 1) := by decide +kernel
theorem dL_law_573 : decode cL_law 573 = .ok (.iadd, 1) := by decide +kernel
theorem dL_law_574 : decode cL_law 574 = .ok (.iaload, 1) := by decide +kernel
theorem dL_law_575 : decode cL_law 575 = .ok (.invokevirtual 83, 3) := by decide +kernel
theorem dL_law_578 : decode cL_law 578 = .ok (.if_icmp .eq 142, 3) := by decide +kernel
theorem dL_law_581 : decode cL_law 581 = .ok (.iconst 0, 1) := by decide +kernel
theorem dL_law_582 : decode cL_law 582 = .ok (.ireturn, 1) := by decide +kernel
theorem dL_law_583 : decode cL_law 583 = .ok (.aload_n 1, 1) := by decide +kernel
theorem dL_law_584 : decode cL_law 584 = .ok (.aload_n 0, 1) := by decide +kernel
theorem dL_law_585 : decode cL_law 585 = .ok (.iload_n 3, 1) := by decide +kernel
theorem dL_law_586 : decode cL_law 586 = .ok (.iconst 1, 1) := by decide +kernel
theorem dL_law_587 : decode cL_law 587 = .ok (.iadd, 1) := by decide +kernel
theorem dL_law_588 : decode cL_law 588 = .ok (.iaload, 1) := by decide +kernel
theorem dL_law_589 : decode cL_law 589 = .ok (.invokevirtual 84, 3) := by decide +kernel
theorem dL_law_592 : decode cL_law 592 = .ok (.aload_n 2, 1) := by decide +kernel
theorem dL_law_593 : decode cL_law 593 = .ok (.aload_n 0, 1) := by decide +kernel
theorem dL_law_594 : decode cL_law 594 = .ok (.iload_n 3, 1) := by decide +kernel
theorem dL_law_595 : decode cL_law 595 = .ok (.iconst 1, 1) := by decide +kernel
theorem dL_law_596 : decode cL_law 596 = .ok (.iadd, 1) := by decide +kernel
theorem dL_law_597 : decode cL_law 597 = .ok (.iaload, 1) := by decide +kernel
theorem dL_law_598 : decode cL_law 598 = .ok (.invokevirtual 87, 3) := by decide +kernel
theorem dL_law_601 : decode cL_law 601 = .ok (.if_icmp .eq 119, 3) := by decide +kernel
theorem dL_law_604 : decode cL_law 604 = .ok (.iconst 0, 1) := by decide +kernel
theorem dL_law_605 : decode cL_law 605 = .ok (.ireturn, 1) := by decide +kernel
theorem dL_law_606 : decode cL_law 606 = .ok (.aload_n 1, 1) := by decide +kernel
theorem dL_law_607 : decode cL_law 607 = .ok (.invokevirtual 88, 3) := by decide +kernel
theorem dL_law_610 : decode cL_law 610 = .ok (.aload_n 2, 1) := by decide +kernel
theorem dL_law_611 : decode cL_law 611 = .ok (.invokevirtual 91, 3) := by decide +kernel
theorem dL_law_614 : decode cL_law 614 = .ok (.if_icmp .eq 106, 3) := by decide +kernel
theorem dL_law_617 : decode cL_law 617 = .ok (.iconst 0, 1) := by decide +kernel
theorem dL_law_618 : decode cL_law 618 = .ok (.ireturn, 1) := by decide +kernel
theorem dL_law_619 : decode cL_law 619 = .ok (.aload_n 1, 1) := by decide +kernel
theorem dL_law_620 : decode cL_law 620 = .ok (.aload_n 0, 1) := by decide +kernel
theorem dL_law_621 : decode cL_law 621 = .ok (.iload_n 3, 1) := by decide +kernel
theorem dL_law_622 : decode cL_law 622 = .ok (.iconst 1, 1) := by decide +kernel
theorem dL_law_623 : decode cL_law 623 = .ok (.iadd, 1) := by decide +kernel
theorem dL_law_624 : decode cL_law 624 = .ok (.iaload, 1) := by decide +kernel
theorem dL_law_625 : decode cL_law 625 = .ok (.invokevirtual 92, 3) := by decide +kernel
theorem dL_law_628 : decode cL_law 628 = .ok (.aload_n 2, 1) := by decide +kernel
theorem dL_law_629 : decode cL_law 629 = .ok (.aload_n 0, 1) := by decide +kernel
theorem dL_law_630 : decode cL_law 630 = .ok (.iload_n 3, 1) := by decide +kernel
theorem dL_law_631 : decode cL_law 631 = .ok (.iconst 1, 1) := by decide +kernel
theorem dL_law_632 : decode cL_law 632 = .ok (.iadd, 1) := by decide +kernel
theorem dL_law_633 : decode cL_law 633 = .ok (.iaload, 1) := by decide +kernel
theorem dL_law_634 : decode cL_law 634 = .ok (.invokevirtual 95, 3) := by decide +kernel
theorem dL_law_637 : decode cL_law 637 = .ok (.if_icmp .eq 83, 3) := by decide +kernel
theorem dL_law_640 : decode cL_law 640 = .ok (.iconst 0, 1) := by decide +kernel
theorem dL_law_641 : decode cL_law 641 = .ok (.ireturn, 1) := by decide +kernel
theorem dL_law_642 : decode cL_law 642 = .ok (.aload_n 1, 1) := by decide +kernel
theorem dL_law_643 : decode cL_law 643 = .ok (.invokevirtual 96, 3) := by decide +kernel
theorem dL_law_646 : decode cL_law 646 = .ok (.aload_n 2, 1) := by decide +kernel
theorem dL_law_647 : decode cL_law 647 = .ok (.invokevirtual 99, 3) := by decide +kernel
theorem dL_law_650 : decode cL_law 650 = .ok (.if_icmp .eq 70, 3) := by decide +kernel
theorem dL_law_653 : decode cL_law 653 = .ok (.iconst 0, 1) := by decide +kernel
theorem dL_law_654 : decode cL_law 654 = .ok (.ireturn, 1) := by decide +kernel
theorem dL_law_655 : decode cL_law 655 = .ok (.aload_n 1, 1) := by decide +kernel
theorem dL_law_656 : decode cL_law 656 = .ok (.invokevirtual 100, 3) := by decide +kernel
theorem dL_law_659 : decode cL_law 659 = .ok (.aload_n 2, 1) := by decide +kernel
theorem dL_law_660 : decode cL_law 660 = .ok (.invokevirtual 103, 3) := by decide +kernel
theorem dL_law_663 : decode cL_law 663 = .ok (.if_icmp .eq 57, 3) := by decide +kernel
theorem dL_law_666 : decode cL_law 666 = .ok (.iconst 0, 1) := by decide +kernel
theorem dL_law_667 : decode cL_law 667 = .ok (.ireturn, 1) := by decide +kernel
theorem dL_law_668 : decode cL_law 668 = .ok (.aload_n 1, 1) := by decide +kernel
theorem dL_law_669 : decode cL_law 669 = .ok (.invokevirtual 104, 3) := by decide +kernel
theorem dL_law_672 : decode cL_law 672 = .ok (.aload_n 2, 1) := by decide +kernel
theorem dL_law_673 : decode cL_law 673 = .ok (.invokevirtual 107, 3) := by decide +kernel
theorem dL_law_676 : decode cL_law 676 = .ok (.if_icmp .eq 44, 3) := by decide +kernel
theorem dL_law_679 : decode cL_law 679 = .ok (.iconst 0, 1) := by decide +kernel
theorem dL_law_680 : decode cL_law 680 = .ok (.ireturn, 1) := by decide +kernel
theorem dL_law_681 : decode cL_law 681 = .ok (.aload_n 1, 1) := by decide +kernel
theorem dL_law_682 : decode cL_law 682 = .ok (.invokevirtual 108, 3) := by decide +kernel
theorem dL_law_685 : decode cL_law 685 = .ok (.aload_n 2, 1) := by decide +kernel
theorem dL_law_686 : decode cL_law 686 = .ok (.invokevirtual 111, 3) := by decide +kernel
theorem dL_law_689 : decode cL_law 689 = .ok (.if_icmp .eq 31, 3) := by decide +kernel
theorem dL_law_692 : decode cL_law 692 = .ok (.iconst 0, 1) := by decide +kernel
theorem dL_law_693 : decode cL_law 693 = .ok (.ireturn, 1) := by decide +kernel
theorem dL_law_694 : decode cL_law 694 = .ok (.aload_n 1, 1) := by decide +kernel
theorem dL_law_695 : decode cL_law 695 = .ok (.invokevirtual 112, 3) := by decide +kernel
theorem dL_law_698 : decode cL_law 698 = .ok (.aload_n 2, 1) := by decide +kernel
theorem dL_law_699 : decode cL_law 699 = .ok (.invokevirtual 115, 3) := by decide +kernel
theorem dL_law_702 : decode cL_law 702 = .ok (.if_icmp .eq 18, 3) := by decide +kernel
theorem dL_law_705 : decode cL_law 705 = .ok (.iconst 0, 1) := by decide +kernel
theorem dL_law_706 : decode cL_law 706 = .ok (.ireturn, 1) := by decide +kernel
theorem dL_law_707 : decode cL_law 707 = .ok (.aload_n 1, 1) := by decide +kernel
theorem dL_law_708 : decode cL_law 708 = .ok (.invokevirtual 116, 3) := by decide +kernel
theorem dL_law_711 : decode cL_law 711 = .ok (.aload_n 2, 1) := by decide +kernel
theorem dL_law_712 : decode cL_law 712 = .ok (.invokevirtual 119, 3) := by decide +kernel
theorem dL_law_715 : decode cL_law 715 = .ok (.if_icmp .eq 5, 3) := by decide +kernel
theorem dL_law_718 : decode cL_law 718 = .ok (.iconst 0, 1) := by decide +kernel
theorem dL_law_719 : decode cL_law 719 = .ok (.ireturn, 1) := by decide +kernel
theorem dL_law_720 : decode cL_law 720 = .ok (.iinc 3 3, 3) := by decide +kernel
theorem dL_law_723 : decode cL_law 723 = .ok (.goto (-705), 3) := by decide +kernel
theorem dL_law_726 : decode cL_law 726 = .ok (.iconst 1, 1) := by decide +kernel
theorem dL_law_727 : decode cL_law 727 = .ok (.ireturn, 1) := by decide +kernel
