theorem dX5_face_70 : decode cX5_face 70 = .ok (.getfield 62, 3) := by decide +kernel
theorem dX5_face_73 : decode cX5_face 73 = .ok (.ireturn, 1) := by decide +kernel
theorem dX5_face_74 : decode cX5_face 74 = .ok (.aload_n 3, 1) := by decide +kernel
theorem dX5_face_75 : decode cX5_face 75 = .ok (.getfield 68, 3) := by decide +kernel
theorem dX5_face_78 : decode cX5_face 78 = .ok (.ireturn, 1) := by decide +kernel
theorem dX5_face_79 : decode cX5_face 79 = .ok (.aload_n 3, 1) := by decide +kernel
theorem dX5_face_80 : decode cX5_face 80 = .ok (.getfield 74, 3) := by decide +kernel
theorem dX5_face_83 : decode cX5_face 83 = .ok (.ireturn, 1) := by decide +kernel
theorem dX5_face_84 : decode cX5_face 84 = .ok (.aload_n 3, 1) := by decide +kernel
theorem dX5_face_85 : decode cX5_face 85 = .ok (.getfield 136, 3) := by decide +kernel
theorem dX5_face_88 : decode cX5_face 88 = .ok (.ireturn, 1) := by decide +kernel
theorem dX5_face_89 : decode cX5_face 89 = .ok (.aload_n 3, 1) := by decide +kernel
theorem dX5_face_90 : decode cX5_face 90 = .ok (.getfield 84, 3) := by decide +kernel
theorem dX5_face_93 : decode cX5_face 93 = .ok (.ifCond .eq 7, 3) := by decide +kernel
theorem dX5_face_96 : decode cX5_face 96 = .ok (.iconst 1, 1) := by decide +kernel
theorem dX5_face_97 : decode cX5_face 97 = .ok (.goto 4, 3) := by decide +kernel
theorem dX5_face_100 : decode cX5_face 100 = .ok (.iconst 0, 1) := by decide +kernel
theorem dX5_face_101 : decode cX5_face 101 = .ok (.ireturn, 1) := by decide +kernel
theorem dX5_face_102 : decode cX5_face 102 = .ok (.aload_n 3, 1) := by decide +kernel
theorem dX5_face_103 : decode cX5_face 103 = .ok (.getfield 139, 3) := by decide +kernel
theorem dX5_face_106 : decode cX5_face 106 = .ok (.ireturn, 1) := by decide +kernel
theorem dX5_face_107 : decode cX5_face 107 = .ok (.aload_n 3, 1) := by decide +kernel
theorem dX5_face_108 : decode cX5_face 108 = .ok (.getfield 77, 3) := by decide +kernel
theorem dX5_face_111 : decode cX5_face 111 = .ok (.aload_n 0, 1) := by decide +kernel
theorem dX5_face_112 : decode cX5_face 112 = .ok (.getfield 10, 3) := by decide +kernel
theorem dX5_face_115 : decode cX5_face 115 = .ok (.getfield 142, 3) := by decide +kernel
theorem dX5_face_118 : decode cX5_face 118 = .ok (.sipush 720, 3) := by decide +kernel
theorem dX5_face_121 : decode cX5_face 121 = .ok (.irem, 1) := by decide +kernel
theorem dX5_face_122 : decode cX5_face 122 = .ok (.invokestatic 80, 3) := by decide +kernel
theorem dX5_face_125 : decode cX5_face 125 = .ok (.ireturn, 1) := by decide +kernel
theorem dX5_face_126 : decode cX5_face 126 = .ok (.sipush (-1002), 3) := by decide +kernel
theorem dX5_face_129 : decode cX5_face 129 = .ok (.ireturn, 1) := by decide +kernel
theorem dX5_total_0 : decode cX5_total 0 = .ok (.iload_n 1, 1) := by decide +kernel
theorem dX5_total_1 : decode cX5_total 1 = .ok (.tableswitch 126 0 8 #[51, 59, 67, 75, 83, 91, 99, 107, 118], 51) := by decide +kernel
theorem dX5_total_52 : decode cX5_total 52 = .ok (.aload_n 0, 1) := by decide +kernel
theorem dX5_total_53 : decode cX5_total 53 = .ok (.getfield 10, 3) := by decide +kernel
theorem dX5_total_56 : decode cX5_total 56 = .ok (.getfield 142, 3) := by decide +kernel
theorem dX5_total_59 : decode cX5_total 59 = .ok (.ireturn, 1) := by decide +kernel
theorem dX5_total_60 : decode cX5_total 60 = .ok (.aload_n 0, 1) := by decide +kernel
theorem dX5_total_61 : decode cX5_total 61 = .ok (.getfield 10, 3) := by decide +kernel
theorem dX5_total_64 : decode cX5_total 64 = .ok (.invokevirtual 145, 3) := by decide +kernel
theorem dX5_total_67 : decode cX5_total 67 = .ok (.ireturn, 1) := by decide +kernel
theorem dX5_total_68 : decode cX5_total 68 = .ok (.aload_n 0, 1) := by decide +kernel
theorem dX5_total_69 : decode cX5_total 69 = .ok (.getfield 10, 3) := by decide +kernel
theorem dX5_total_72 : decode cX5_total 72 = .ok (.getfield 148, 3) := by decide +kernel
theorem dX5_total_75 : decode cX5_total 75 = .ok (.ireturn, 1) := by decide +kernel
theorem dX5_total_76 : decode cX5_total 76 = .ok (.aload_n 0, 1) := by decide +kernel
theorem dX5_total_77 : decode cX5_total 77 = .ok (.getfield 10, 3) := by decide +kernel
theorem dX5_total_80 : decode cX5_total 80 = .ok (.getfield 151, 3) := by decide +kernel
theorem dX5_total_83 : decode cX5_total 83 = .ok (.ireturn, 1) := by decide +kernel
theorem dX5_total_84 : decode cX5_total 84 = .ok (.aload_n 0, 1) := by decide +kernel
theorem dX5_total_85 : decode cX5_total 85 = .ok (.getfield 10, 3) := by decide +kernel
theorem dX5_total_88 : decode cX5_total 88 = .ok (.invokevirtual 154, 3) := by decide +kernel
theorem dX5_total_91 : decode cX5_total 91 = .ok (.ireturn, 1) := by decide +kernel
theorem dX5_total_92 : decode cX5_total 92 = .ok (.aload_n 0, 1) := by decide +kernel
theorem dX5_total_93 : decode cX5_total 93 = .ok (.getfield 10, 3) := by decide +kernel
theorem dX5_total_96 : decode cX5_total 96 = .ok (.invokevirtual 157, 3) := by decide +kernel
theorem dX5_total_99 : decode cX5_total 99 = .ok (.ireturn, 1) := by decide +kernel
theorem dX5_total_100 : decode cX5_total 100 = .ok (.aload_n 0, 1) := by decide +kernel
theorem dX5_total_101 : decode cX5_total 101 = .ok (.getfield 10, 3) := by decide +kernel
theorem dX5_total_104 : decode cX5_total 104 = .ok (.getfield 160, 3) := by decide +kernel
theorem dX5_total_107 : decode cX5_total 107 = .ok (.ireturn, 1) := by decide +kernel
theorem dX5_total_108 : decode cX5_total 108 = .ok (.aload_n 0, 1) := by decide +kernel
theorem dX5_total_109 : decode cX5_total 109 = .ok (.getfield 10, 3) := by decide +kernel
theorem dX5_total_112 : decode cX5_total 112 = .ok (.getfield 95, 3) := by decide +kernel
theorem dX5_total_115 : decode cX5_total 115 = .ok (.getfield 108, 3) := by decide +kernel
theorem dX5_total_118 : decode cX5_total 118 = .ok (.ireturn, 1) := by decide +kernel
theorem dX5_total_119 : decode cX5_total 119 = .ok (.aload_n 0, 1) := by decide +kernel
theorem dX5_total_120 : decode cX5_total 120 = .ok (.getfield 10, 3) := by decide +kernel
theorem dX5_total_123 : decode cX5_total 123 = .ok (.invokevirtual 163, 3) := by decide +kernel
theorem dX5_total_126 : decode cX5_total 126 = .ok (.ireturn, 1) := by decide +kernel
theorem dX5_total_127 : decode cX5_total 127 = .ok (.sipush (-1002), 3) := by decide +kernel
theorem dX5_total_130 : decode cX5_total 130 = .ok (.ireturn, 1) := by decide +kernel
theorem dX5_majority_0 : decode cX5_majority 0 = .ok (.iconst 0, 1) := by decide +kernel
theorem dX5_majority_1 : decode cX5_majority 1 = .ok (.istore_n 1, 1) := by decide +kernel
theorem dX5_majority_2 : decode cX5_majority 2 = .ok (.iconst 0, 1) := by decide +kernel
theorem dX5_majority_3 : decode cX5_majority 3 = .ok (.istore_n 2, 1) := by decide +kernel
theorem dX5_majority_4 : decode cX5_majority 4 = .ok (.aload_n 0, 1) := by decide +kernel
theorem dX5_majority_5 : decode cX5_majority 5 = .ok (.getfield 10, 3) := by decide +kernel
theorem dX5_majority_8 : decode cX5_majority 8 = .ok (.getfield 166, 3) := by decide +kernel
theorem dX5_majority_11 : decode cX5_majority 11 = .ok (.astore_n 3, 1) := by decide +kernel
theorem dX5_majority_12 : decode cX5_majority 12 = .ok (.aload_n 3, 1) := by decide +kernel
theorem dX5_majority_13 : decode cX5_majority 13 = .ok (.arraylength, 1) := by decide +kernel
theorem dX5_majority_14 : decode cX5_majority 14 = .ok (.istore 4, 2) := by decide +kernel
theorem dX5_majority_16 : decode cX5_majority 16 = .ok (.iconst 0, 1) := by decide +kernel
theorem dX5_majority_17 : decode cX5_majority 17 = .ok (.istore 5, 2) := by decide +kernel
theorem dX5_majority_19 : decode cX5_majority 19 = .ok (.iload 5, 2) := by decide +kernel
theorem dX5_majority_21 : decode cX5_majority 21 = .ok (.iload 4, 2) := by decide +kernel
theorem dX5_majority_23 : decode cX5_majority 23 = .ok (.if_icmp .ge 44, 3) := by decide +kernel
theorem dX5_majority_26 : decode cX5_majority 26 = .ok (.aload_n 3, 1) := by decide +kernel
theorem dX5_majority_27 : decode cX5_majority 27 = .ok (.iload 5, 2) := by decide +kernel
theorem dX5_majority_29 : decode cX5_majority 29 = .ok (.aaload, 1) := by decide +kernel
theorem dX5_majority_30 : decode cX5_majority 30 = .ok (.astore 6, 2) := by decide +kernel
theorem dX5_majority_32 : decode cX5_majority 32 = .ok (.aload_n 0, 1) := by decide +kernel
theorem dX5_majority_33 : decode cX5_majority 33 = .ok (.getfield 10, 3) := by decide +kernel
theorem dX5_majority_36 : decode cX5_majority 36 = .ok (.aload 6, 2) := by decide +kernel
theorem dX5_majority_38 : decode cX5_majority 38 = .ok (.getfield 77, 3) := by decide +kernel
theorem dX5_majority_41 : decode cX5_majority 41 = .ok (.invokevirtual 170, 3) := by decide +kernel
theorem dX5_majority_44 : decode cX5_majority 44 = .ok (.istore 7, 2) := by decide +kernel
theorem dX5_majority_46 : decode cX5_majority 46 = .ok (.iload 7, 2) := by decide +kernel
theorem dX5_majority_48 : decode cX5_majority 48 = .ok (.iload_n 2, 1) := by decide +kernel
theorem dX5_majority_49 : decode cX5_majority 49 = .ok (.if_icmp .le 12, 3) := by decide +kernel
theorem dX5_majority_52 : decode cX5_majority 52 = .ok (.iload 7, 2) := by decide +kernel
theorem dX5_majority_54 : decode cX5_majority 54 = .ok (.istore_n 2, 1) := by decide +kernel
theorem dX5_majority_55 : decode cX5_majority 55 = .ok (.aload 6, 2) := by decide +kernel
theorem dX5_majority_57 : decode cX5_majority 57 = .ok (.getfield 77, 3) := by decide +kernel
theorem dX5_majority_60 : decode cX5_majority 60 = .ok (.istore_n 1, 1) := by decide +kernel
theorem dX5_majority_61 : decode cX5_majority 61 = .ok (.iinc 5 1, 3) := by decide +kernel
theorem dX5_majority_64 : decode cX5_majority 64 = .ok (.goto (-45), 3) := by decide +kernel
theorem dX5_majority_67 : decode cX5_majority 67 = .ok (.iload_n 1, 1) := by decide +kernel
theorem dX5_majority_68 : decode cX5_majority 68 = .ok (.ireturn, 1) := by decide +kernel
theorem dX5_coming_0 : decode cX5_coming 0 = .ok (.iload_n 1, 1) := by decide +kernel
theorem dX5_coming_1 : decode cX5_coming 1 = .ok (.iconst 0, 1) := by decide +kernel
theorem dX5_coming_2 : decode cX5_coming 2 = .ok (.bipush 23, 2) := by decide +kernel
theorem dX5_coming_4 : decode cX5_coming 4 = .ok (.invokestatic 47, 3) := by decide +kernel
theorem dX5_coming_7 : decode cX5_coming 7 = .ok (.ifCond .eq 12, 3) := by decide +kernel
theorem dX5_coming_10 : decode cX5_coming 10 = .ok (.iload_n 2, 1) := by decide +kernel
theorem dX5_coming_11 : decode cX5_coming 11 = .ok (.iconst 0, 1) := by decide +kernel
theorem dX5_coming_12 : decode cX5_coming 12 = .ok (.iconst 2, 1) := by decide +kernel
theorem dX5_coming_13 : decode cX5_coming 13 = .ok (.invokestatic 47, 3) := by decide +kernel
theorem dX5_coming_16 : decode cX5_coming 16 = .ok (.ifCond .ne 7, 3) := by decide +kernel
theorem dX5_coming_19 : decode cX5_coming 19 = .ok (.sipush (-1002), 3) := by decide +kernel
theorem dX5_coming_22 : decode cX5_coming 22 = .ok (.ireturn, 1) := by decide +kernel
theorem dX5_coming_23 : decode cX5_coming 23 = .ok (.aload_n 0, 1) := by decide +kernel
theorem dX5_coming_24 : decode cX5_coming 24 = .ok (.getfield 10, 3) := by decide +kernel
theorem dX5_coming_27 : decode cX5_coming 27 = .ok (.invokevirtual 173, 3) := by decide +kernel
theorem dX5_coming_30 : decode cX5_coming 30 = .ok (.istore_n 3, 1) := by decide +kernel
theorem dX5_coming_31 : decode cX5_coming 31 = .ok (.iload_n 3, 1) := by decide +kernel
theorem dX5_coming_32 : decode cX5_coming 32 = .ok (.ifCond .ne 7, 3) := by decide +kernel
theorem dX5_coming_35 : decode cX5_coming 35 = .ok (.sipush (-1000), 3) := by decide +kernel
theorem dX5_coming_38 : decode cX5_coming 38 = .ok (.ireturn, 1) := by decide +kernel
theorem dX5_coming_39 : decode cX5_coming 39 = .ok (.aload_n 0, 1) := by decide +kernel
theorem dX5_coming_40 : decode cX5_coming 40 = .ok (.getfield 10, 3) := by decide +kernel
theorem dX5_coming_43 : decode cX5_coming 43 = .ok (.iload_n 1, 1) := by decide +kernel
theorem dX5_coming_44 : decode cX5_coming 44 = .ok (.iload_n 3, 1) := by decide +kernel
theorem dX5_coming_45 : decode cX5_coming 45 = .ok (.irem, 1) := by decide +kernel
theorem dX5_coming_46 : decode cX5_coming 46 = .ok (.invokevirtual 176, 3) := by decide +kernel
theorem dX5_coming_49 : decode cX5_coming 49 = .ok (.istore 4, 2) := by decide +kernel
theorem dX5_coming_51 : decode cX5_coming 51 = .ok (.aload_n 0, 1) := by decide +kernel
theorem dX5_coming_52 : decode cX5_coming 52 = .ok (.getfield 10, 3) := by decide +kernel
theorem dX5_coming_55 : decode cX5_coming 55 = .ok (.iload 4, 2) := by decide +kernel
theorem dX5_coming_57 : decode cX5_coming 57 = .ok (.invokevirtual 58, 3) := by decide +kernel
theorem dX5_coming_60 : decode cX5_coming 60 = .ok (.astore 5, 2) := by decide +kernel
theorem dX5_coming_62 : decode cX5_coming 62 = .ok (.aload 5, 2) := by decide +kernel
theorem dX5_coming_64 : decode cX5_coming 64 = .ok (.ifnonnull 7, 3) := by decide +kernel
theorem dX5_coming_67 : decode cX5_coming 67 = .ok (.sipush (-1000), 3) := by decide +kernel
theorem dX5_coming_70 : decode cX5_coming 70 = .ok (.ireturn, 1) := by decide +kernel
theorem dX5_coming_71 : decode cX5_coming 71 = .ok (.aload 5, 2) := by decide +kernel
theorem dX5_coming_73 : decode cX5_coming 73 = .ok (.invokevirtual 179, 3) := by decide +kernel
theorem dX5_coming_76 : decode cX5_coming 76 = .ok (.bipush 60, 2) := by decide +kernel
theorem dX5_coming_78 : decode cX5_coming 78 = .ok (.iload_n 1, 1) := by decide +kernel
theorem dX5_coming_79 : decode cX5_coming 79 = .ok (.iload_n 3, 1) := by decide +kernel
theorem dX5_coming_80 : decode cX5_coming 80 = .ok (.idiv, 1) := by decide +kernel
theorem dX5_coming_81 : decode cX5_coming 81 = .ok (.imul, 1) := by decide +kernel
theorem dX5_coming_82 : decode cX5_coming 82 = .ok (.iadd, 1) := by decide +kernel
theorem dX5_coming_83 : decode cX5_coming 83 = .ok (.istore 6, 2) := by decide +kernel
theorem dX5_coming_85 : decode cX5_coming 85 = .ok (.iload_n 2, 1) := by decide +kernel
theorem dX5_coming_86 : decode cX5_coming 86 = .ok (.lookupswitch 32 #[(0, 26), (1, 29)], 26) := by decide +kernel
theorem dX5_coming_112 : decode cX5_coming 112 = .ok (.iload 4, 2) := by decide +kernel
theorem dX5_coming_114 : decode cX5_coming 114 = .ok (.ireturn, 1) := by decide +kernel
theorem dX5_coming_115 : decode cX5_coming 115 = .ok (.iload 6, 2) := by decide +kernel
theorem dX5_coming_117 : decode cX5_coming 117 = .ok (.ireturn, 1) := by decide +kernel
theorem dX5_coming_118 : decode cX5_coming 118 = .ok (.aload 5, 2) := by decide +kernel
theorem dX5_coming_120 : decode cX5_coming 120 = .ok (.getfield 77, 3) := by decide +kernel
theorem dX5_coming_123 : decode cX5_coming 123 = .ok (.iload 6, 2) := by decide +kernel
theorem dX5_coming_125 : decode cX5_coming 125 = .ok (.iadd, 1) := by decide +kernel
theorem dX5_coming_126 : decode cX5_coming 126 = .ok (.sipush 720, 3) := by decide +kernel
theorem dX5_coming_129 : decode cX5_coming 129 = .ok (.irem, 1) := by decide +kernel
theorem dX5_coming_130 : decode cX5_coming 130 = .ok (.invokestatic 182, 3) := by decide +kernel
theorem dX5_coming_133 : decode cX5_coming 133 = .ok (.ireturn, 1) := by decide +kernel
theorem dX5_spreadIn_0 : decode cX5_spreadIn 0 = .ok (.iload_n 1, 1) := by decide +kernel
theorem dX5_spreadIn_1 : decode cX5_spreadIn 1 = .ok (.iconst 0, 1) := by decide +kernel
theorem dX5_spreadIn_2 : decode cX5_spreadIn 2 = .ok (.sipush 2000, 3) := by decide +kernel
theorem dX5_spreadIn_5 : decode cX5_spreadIn 5 = .ok (.invokestatic 47, 3) := by decide +kernel
theorem dX5_spreadIn_8 : decode cX5_spreadIn 8 = .ok (.ifCond .ne 7, 3) := by decide +kernel
theorem dX5_spreadIn_11 : decode cX5_spreadIn 11 = .ok (.sipush (-1002), 3) := by decide +kernel
theorem dX5_spreadIn_14 : decode cX5_spreadIn 14 = .ok (.ireturn, 1) := by decide +kernel
theorem dX5_spreadIn_15 : decode cX5_spreadIn 15 = .ok (.aload_n 0, 1) := by decide +kernel
theorem dX5_spreadIn_16 : decode cX5_spreadIn 16 = .ok (.getfield 16, 3) := by decide +kernel
theorem dX5_spreadIn_19 : decode cX5_spreadIn 19 = .ok (.aload_n 0, 1) := by decide +kernel
theorem dX5_spreadIn_20 : decode cX5_spreadIn 20 = .ok (.getfield 10, 3) := by decide +kernel
theorem dX5_spreadIn_23 : decode cX5_spreadIn 23 = .ok (.invokevirtual 185, 3) := by decide +kernel
theorem dX5_spreadIn_26 : decode cX5_spreadIn 26 = .ok (.aload_n 0, 1) := by decide +kernel
theorem dX5_spreadIn_27 : decode cX5_spreadIn 27 = .ok (.getfield 16, 3) := by decide +kernel
theorem dX5_spreadIn_30 : decode cX5_spreadIn 30 = .ok (.iload_n 1, 1) := by decide +kernel
theorem dX5_spreadIn_31 : decode cX5_spreadIn 31 = .ok (.invokevirtual 92, 3) := by decide +kernel
theorem dX5_spreadIn_34 : decode cX5_spreadIn 34 = .ok (.pop, 1) := by decide +kernel
theorem dX5_spreadIn_35 : decode cX5_spreadIn 35 = .ok (.aload_n 0, 1) := by decide +kernel
theorem dX5_spreadIn_36 : decode cX5_spreadIn 36 = .ok (.getfield 16, 3) := by decide +kernel
theorem dX5_spreadIn_39 : decode cX5_spreadIn 39 = .ok (.invokevirtual 163, 3) := by decide +kernel
theorem dX5_spreadIn_42 : decode cX5_spreadIn 42 = .ok (.ireturn, 1) := by decide +kernel
theorem dX5_minutesTo_0 : decode cX5_minutesTo 0 = .ok (.iload_n 1, 1) := by decide +kernel
theorem dX5_minutesTo_1 : decode cX5_minutesTo 1 = .ok (.iconst 0, 1) := by decide +kernel
theorem dX5_minutesTo_2 : decode cX5_minutesTo 2 = .ok (.sipush 360, 3) := by decide +kernel
theorem dX5_minutesTo_5 : decode cX5_minutesTo 5 = .ok (.invokestatic 47, 3) := by decide +kernel
theorem dX5_minutesTo_8 : decode cX5_minutesTo 8 = .ok (.ifCond .ne 7, 3) := by decide +kernel
theorem dX5_minutesTo_11 : decode cX5_minutesTo 11 = .ok (.sipush (-1002), 3) := by decide +kernel
theorem dX5_minutesTo_14 : decode cX5_minutesTo 14 = .ok (.ireturn, 1) := by decide +kernel
theorem dX5_minutesTo_15 : decode cX5_minutesTo 15 = .ok (.aload_n 0, 1) := by decide +kernel
theorem dX5_minutesTo_16 : decode cX5_minutesTo 16 = .ok (.getfield 16, 3) := by decide +kernel
theorem dX5_minutesTo_19 : decode cX5_minutesTo 19 = .ok (.aload_n 0, 1) := by decide +kernel
theorem dX5_minutesTo_20 : decode cX5_minutesTo 20 = .ok (.getfield 10, 3) := by decide +kernel
theorem dX5_minutesTo_23 : decode cX5_minutesTo 23 = .ok (.invokevirtual 185, 3) := by decide +kernel
theorem dX5_minutesTo_26 : decode cX5_minutesTo 26 = .ok (.iconst 0, 1) := by decide +kernel
theorem dX5_minutesTo_27 : decode cX5_minutesTo 27 = .ok (.istore_n 2, 1) := by decide +kernel
theorem dX5_minutesTo_28 : decode cX5_minutesTo 28 = .ok (.iload_n 2, 1) := by decide +kernel
theorem dX5_minutesTo_29 : decode cX5_minutesTo 29 = .ok (.sipush 3000, 3) := by decide +kernel
theorem dX5_minutesTo_32 : decode cX5_minutesTo 32 = .ok (.if_icmp .gt 30, 3) := by decide +kernel
theorem dX5_minutesTo_35 : decode cX5_minutesTo 35 = .ok (.aload_n 0, 1) := by decide +kernel
theorem dX5_minutesTo_36 : decode cX5_minutesTo 36 = .ok (.getfield 16, 3) := by decide +kernel
theorem dX5_minutesTo_39 : decode cX5_minutesTo 39 = .ok (.invokevirtual 163, 3) := by decide +kernel
theorem dX5_minutesTo_42 : decode cX5_minutesTo 42 = .ok (.iload_n 1, 1) := by decide +kernel
theorem dX5_minutesTo_43 : decode cX5_minutesTo 43 = .ok (.if_icmp .lt 5, 3) := by decide +kernel
theorem dX5_minutesTo_46 : decode cX5_minutesTo 46 = .ok (.iload_n 2, 1) := by decide +kernel
theorem dX5_minutesTo_47 : decode cX5_minutesTo 47 = .ok (.ireturn, 1) := by decide +kernel
theorem dX5_minutesTo_48 : decode cX5_minutesTo 48 = .ok (.aload_n 0, 1) := by decide +kernel
theorem dX5_minutesTo_49 : decode cX5_minutesTo 49 = .ok (.getfield 16, 3) := by decide +kernel
theorem dX5_minutesTo_52 : decode cX5_minutesTo 52 = .ok (.invokevirtual 188, 3) := by decide +kernel
theorem dX5_minutesTo_55 : decode cX5_minutesTo 55 = .ok (.pop, 1) := by decide +kernel
theorem dX5_minutesTo_56 : decode cX5_minutesTo 56 = .ok (.iinc 2 1, 3) := by decide +kernel
theorem dX5_minutesTo_59 : decode cX5_minutesTo 59 = .ok (.goto (-31), 3) := by decide +kernel
theorem dX5_minutesTo_62 : decode cX5_minutesTo 62 = .ok (.sipush (-1000), 3) := by decide +kernel
theorem dX5_minutesTo_65 : decode cX5_minutesTo 65 = .ok (.ireturn, 1) := by decide +kernel
theorem dX5_bestOil_0 : decode cX5_bestOil 0 = .ok (.iconst 0, 1) := by decide +kernel
theorem dX5_bestOil_1 : decode cX5_bestOil 1 = .ok (.istore_n 1, 1) := by decide +kernel
theorem dX5_bestOil_2 : decode cX5_bestOil 2 = .ok (.sipush 1441, 3) := by decide +kernel
theorem dX5_bestOil_5 : decode cX5_bestOil 5 = .ok (.istore_n 2, 1) := by decide +kernel
theorem dX5_bestOil_6 : decode cX5_bestOil 6 = .ok (.iconst 0, 1) := by decide +kernel
theorem dX5_bestOil_7 : decode cX5_bestOil 7 = .ok (.istore_n 3, 1) := by decide +kernel
theorem dX5_bestOil_8 : decode cX5_bestOil 8 = .ok (.iload_n 3, 1) := by decide +kernel
theorem dX5_bestOil_9 : decode cX5_bestOil 9 = .ok (.iconst 4, 1) := by decide +kernel
theorem dX5_bestOil_10 : decode cX5_bestOil 10 = .ok (.if_icmp .ge 27, 3) := by decide +kernel
theorem dX5_bestOil_13 : decode cX5_bestOil 13 = .ok (.aload_n 0, 1) := by decide +kernel
theorem dX5_bestOil_14 : decode cX5_bestOil 14 = .ok (.iload_n 3, 1) := by decide +kernel
theorem dX5_bestOil_15 : decode cX5_bestOil 15 = .ok (.invokevirtual 191, 3) := by decide +kernel
theorem dX5_bestOil_18 : decode cX5_bestOil 18 = .ok (.istore 4, 2) := by decide +kernel
theorem dX5_bestOil_20 : decode cX5_bestOil 20 = .ok (.iload 4, 2) := by decide +kernel
theorem dX5_bestOil_22 : decode cX5_bestOil 22 = .ok (.iload_n 2, 1) := by decide +kernel
theorem dX5_bestOil_23 : decode cX5_bestOil 23 = .ok (.if_icmp .ge 8, 3) := by decide +kernel
theorem dX5_bestOil_26 : decode cX5_bestOil 26 = .ok (.iload 4, 2) := by decide +kernel
theorem dX5_bestOil_28 : decode cX5_bestOil 28 = .ok (.istore_n 2, 1) := by decide +kernel
theorem dX5_bestOil_29 : decode cX5_bestOil 29 = .ok (.iload_n 3, 1) := by decide +kernel
theorem dX5_bestOil_30 : decode cX5_bestOil 30 = .ok (.istore_n 1, 1) := by decide +kernel
theorem dX5_bestOil_31 : decode cX5_bestOil 31 = .ok (.iinc 3 1, 3) := by decide +kernel
theorem dX5_bestOil_34 : decode cX5_bestOil 34 = .ok (.goto (-26), 3) := by decide +kernel
theorem dX5_bestOil_37 : decode cX5_bestOil 37 = .ok (.iload_n 1, 1) := by decide +kernel
theorem dX5_bestOil_38 : decode cX5_bestOil 38 = .ok (.ireturn, 1) := by decide +kernel
theorem dX5_errorAfterOil_0 : decode cX5_errorAfterOil 0 = .ok (.aload_n 0, 1) := by decide +kernel
theorem dX5_errorAfterOil_1 : decode cX5_errorAfterOil 1 = .ok (.getfield 16, 3) := by decide +kernel
theorem dX5_errorAfterOil_4 : decode cX5_errorAfterOil 4 = .ok (.aload_n 0, 1) := by decide +kernel
theorem dX5_errorAfterOil_5 : decode cX5_errorAfterOil 5 = .ok (.getfield 10, 3) := by decide +kernel
theorem dX5_errorAfterOil_8 : decode cX5_errorAfterOil 8 = .ok (.invokevirtual 185, 3) := by decide +kernel
theorem dX5_errorAfterOil_11 : decode cX5_errorAfterOil 11 = .ok (.aload_n 0, 1) := by decide +kernel
theorem dX5_errorAfterOil_12 : decode cX5_errorAfterOil 12 = .ok (.getfield 16, 3) := by decide +kernel
theorem dX5_errorAfterOil_15 : decode cX5_errorAfterOil 15 = .ok (.iload_n 1, 1) := by decide +kernel
theorem dX5_errorAfterOil_16 : decode cX5_errorAfterOil 16 = .ok (.invokevirtual 58, 3) := by decide +kernel
theorem dX5_errorAfterOil_19 : decode cX5_errorAfterOil 19 = .ok (.astore_n 2, 1) := by decide +kernel
theorem dX5_errorAfterOil_20 : decode cX5_errorAfterOil 20 = .ok (.aload_n 2, 1) := by decide +kernel
theorem dX5_errorAfterOil_21 : decode cX5_errorAfterOil 21 = .ok (.ifnull 7, 3) := by decide +kernel
theorem dX5_errorAfterOil_24 : decode cX5_errorAfterOil 24 = .ok (.aload_n 2, 1) := by decide +kernel
theorem dX5_errorAfterOil_25 : decode cX5_errorAfterOil 25 = .ok (.invokevirtual 71, 3) := by decide +kernel
theorem dX5_errorAfterOil_28 : decode cX5_errorAfterOil 28 = .ok (.aload_n 0, 1) := by decide +kernel
theorem dX5_errorAfterOil_29 : decode cX5_errorAfterOil 29 = .ok (.getfield 16, 3) := by decide +kernel
theorem dX5_errorAfterOil_32 : decode cX5_errorAfterOil 32 = .ok (.sipush 1440, 3) := by decide +kernel
theorem dX5_errorAfterOil_35 : decode cX5_errorAfterOil 35 = .ok (.invokevirtual 92, 3) := by decide +kernel
theorem dX5_errorAfterOil_38 : decode cX5_errorAfterOil 38 = .ok (.pop, 1) := by decide +kernel
theorem dX5_errorAfterOil_39 : decode cX5_errorAfterOil 39 = .ok (.aload_n 0, 1) := by decide +kernel
theorem dX5_errorAfterOil_40 : decode cX5_errorAfterOil 40 = .ok (.getfield 16, 3) := by decide +kernel
theorem dX5_errorAfterOil_43 : decode cX5_errorAfterOil 43 = .ok (.invokevirtual 194, 3) := by decide +kernel
theorem dX5_errorAfterOil_46 : decode cX5_errorAfterOil 46 = .ok (.ireturn, 1) := by decide +kernel
theorem dX5_isWithin_0 : decode cX5_isWithin 0 = .ok (.iload_n 0, 1) := by decide +kernel
theorem dX5_isWithin_1 : decode cX5_isWithin 1 = .ok (.iload_n 1, 1) := by decide +kernel
theorem dX5_isWithin_2 : decode cX5_isWithin 2 = .ok (.if_icmp .lt 12, 3) := by decide +kernel
theorem dX5_isWithin_5 : decode cX5_isWithin 5 = .ok (.iload_n 0, 1) := by decide +kernel
theorem dX5_isWithin_6 : decode cX5_isWithin 6 = .ok (.iload_n 2, 1) := by decide +kernel
theorem dX5_isWithin_7 : decode cX5_isWithin 7 = .ok (.if_icmp .gt 7, 3) := by decide +kernel
theorem dX5_isWithin_10 : decode cX5_isWithin 10 = .ok (.iconst 1, 1) := by decide +kernel
theorem dX5_isWithin_11 : decode cX5_isWithin 11 = .ok (.goto 4, 3) := by decide +kernel
theorem dX5_isWithin_14 : decode cX5_isWithin 14 = .ok (.iconst 0, 1) := by decide +kernel
theorem dX5_isWithin_15 : decode cX5_isWithin 15 = .ok (.ireturn, 1) := by decide +kernel
theorem dX5_isSetting_0 : decode cX5_isSetting 0 = .ok (.iload_n 0, 1) := by decide +kernel
theorem dX5_isSetting_1 : decode cX5_isSetting 1 = .ok (.iconst 0, 1) := by decide +kernel
theorem dX5_isSetting_2 : decode cX5_isSetting 2 = .ok (.iconst 2, 1) := by decide +kernel
theorem dX5_isSetting_3 : decode cX5_isSetting 3 = .ok (.invokestatic 47, 3) := by decide +kernel
theorem dX5_isSetting_6 : decode cX5_isSetting 6 = .ok (.ireturn, 1) := by decide +kernel
theorem dX5_distance_0 : decode cX5_distance 0 = .ok (.iload_n 0, 1) := by decide +kernel
theorem dX5_distance_1 : decode cX5_distance 1 = .ok (.iload_n 1, 1) := by decide +kernel
theorem dX5_distance_2 : decode cX5_distance 2 = .ok (.isub, 1) := by decide +kernel
theorem dX5_distance_3 : decode cX5_distance 3 = .ok (.invokestatic 243, 3) := by decide +kernel
theorem dX5_distance_6 : decode cX5_distance 6 = .ok (.istore_n 2, 1) := by decide +kernel
theorem dX5_distance_7 : decode cX5_distance 7 = .ok (.iload_n 2, 1) := by decide +kernel
theorem dX5_distance_8 : decode cX5_distance 8 = .ok (.sipush 720, 3) := by decide +kernel
theorem dX5_distance_11 : decode cX5_distance 11 = .ok (.iload_n 2, 1) := by decide +kernel
theorem dX5_distance_12 : decode cX5_distance 12 = .ok (.isub, 1) := by decide +kernel
theorem dX5_distance_13 : decode cX5_distance 13 = .ok (.invokestatic 248, 3) := by decide +kernel
theorem dX5_distance_16 : decode cX5_distance 16 = .ok (.ireturn, 1) := by decide +kernel
theorem dX5_strikesAt_0 : decode cX5_strikesAt 0 = .ok (.iload_n 0, 1) := by decide +kernel
theorem dX5_strikesAt_1 : decode cX5_strikesAt 1 = .ok (.bipush 60, 2) := by decide +kernel
theorem dX5_strikesAt_3 : decode cX5_strikesAt 3 = .ok (.if_icmp .ge 8, 3) := by decide +kernel
theorem dX5_strikesAt_6 : decode cX5_strikesAt 6 = .ok (.bipush 12, 2) := by decide +kernel
theorem dX5_strikesAt_8 : decode cX5_strikesAt 8 = .ok (.goto 7, 3) := by decide +kernel
theorem dX5_strikesAt_11 : decode cX5_strikesAt 11 = .ok (.iload_n 0, 1) := by decide +kernel
theorem dX5_strikesAt_12 : decode cX5_strikesAt 12 = .ok (.bipush 60, 2) := by decide +kernel
theorem dX5_strikesAt_14 : decode cX5_strikesAt 14 = .ok (.idiv, 1) := by decide +kernel
theorem dX5_strikesAt_15 : decode cX5_strikesAt 15 = .ok (.ireturn, 1) := by decide +kernel
theorem dJ9_floorMod_7cf53_0 : decode cJ9_floorMod_7cf53 0 = .ok (.iload_n 0, 1) := by decide +kernel
theorem dJ9_floorMod_7cf53_1 : decode cJ9_floorMod_7cf53 1 = .ok (.iload_n 1, 1) := by decide +kernel
theorem dJ9_floorMod_7cf53_2 : decode cJ9_floorMod_7cf53 2 = .ok (.irem, 1) := by decide +kernel
theorem dJ9_floorMod_7cf53_3 : decode cJ9_floorMod_7cf53 3 = .ok (.istore_n 2, 1) := by decide +kernel
theorem dJ9_floorMod_7cf53_4 : decode cJ9_floorMod_7cf53 4 = .ok (.iload_n 0, 1) := by decide +kernel
theorem dJ9_floorMod_7cf53_5 : decode cJ9_floorMod_7cf53 5 = .ok (.iload_n 1, 1) := by decide +kernel
theorem dJ9_floorMod_7cf53_6 : decode cJ9_floorMod_7cf53 6 = .ok (.ixor, 1) := by decide +kernel
theorem dJ9_floorMod_7cf53_7 : decode cJ9_floorMod_7cf53 7 = .ok (.ifCond .ge 11, 3) := by decide +kernel
theorem dJ9_floorMod_7cf53_10 : decode cJ9_floorMod_7cf53 10 = .ok (.iload_n 2, 1) := by decide +kernel
theorem dJ9_floorMod_7cf53_11 : decode cJ9_floorMod_7cf53 11 = .ok (.ifCond .eq 7, 3) := by decide +kernel
theorem dJ9_floorMod_7cf53_14 : decode cJ9_floorMod_7cf53 14 = .ok (.iload_n 2, 1) := by decide +kernel
theorem dJ9_floorMod_7cf53_15 : decode cJ9_floorMod_7cf53 15 = .ok (.iload_n 1, 1) := by decide +kernel
theorem dJ9_floorMod_7cf53_16 : decode cJ9_floorMod_7cf53 16 = .ok (.iadd, 1) := by decide +kernel
theorem dJ9_floorMod_7cf53_17 : decode cJ9_floorMod_7cf53 17 = .ok (.ireturn, 1) := by decide +kernel
theorem dJ9_floorMod_7cf53_18 : decode cJ9_floorMod_7cf53 18 = .ok (.iload_n 2, 1) := by decide +kernel
theorem dJ9_floorMod_7cf53_19 : decode cJ9_floorMod_7cf53 19 = .ok (.ireturn, 1) := by decide +kernel
theorem dL_cell_0 : decode cL_cell 0 = .ok (.iload_n 1, 1) := by decide +kernel
theorem dL_cell_1 : decode cL_cell 1 = .ok (.aload_n 0, 1) := by decide +kernel
theorem dL_cell_2 : decode cL_cell 2 = .ok (.arraylength, 1) := by decide +kernel
theorem dL_cell_3 : decode cL_cell 3 = .ok (.if_icmp .ge 9, 3) := by decide +kernel
theorem dL_cell_6 : decode cL_cell 6 = .ok (.aload_n 0, 1) := by decide +kernel
theorem dL_cell_7 : decode cL_cell 7 = .ok (.iload_n 1, 1) := by decide +kernel
theorem dL_cell_8 : decode cL_cell 8 = .ok (.iaload, 1) := by decide +kernel
theorem dL_cell_9 : decode cL_cell 9 = .ok (.goto 10, 3) := by decide +kernel
theorem dL_cell_12 : decode cL_cell 12 = .ok (.ldc 7, 2) := by decide +kernel
theorem dL_cell_14 : decode cL_cell 14 = .ok (.iload_n 1, 1) := by decide +kernel
theorem dL_cell_15 : decode cL_cell 15 = .ok (.imul, 1) := by decide +kernel
theorem dL_cell_16 : decode cL_cell 16 = .ok (.ldc 8, 2) := by decide +kernel
theorem dL_cell_18 : decode cL_cell 18 = .ok (.iadd, 1) := by decide +kernel
theorem dL_cell_19 : decode cL_cell 19 = .ok (.ireturn, 1) := by decide +kernel
theorem dL_low_0 : decode cL_low 0 = .ok (.iload_n 0, 1) := by decide +kernel
theorem dL_low_1 : decode cL_low 1 = .ok (.ldc 9, 2) := by decide +kernel
theorem dL_low_3 : decode cL_low 3 = .ok (.iand, 1) := by decide +kernel
theorem dL_low_4 : decode cL_low 4 = .ok (.iload_n 1, 1) := by decide +kernel
theorem dL_low_5 : decode cL_low 5 = .ok (.irem, 1) := by decide +kernel
theorem dL_low_6 : decode cL_low 6 = .ok (.ireturn, 1) := by decide +kernel
theorem dL_apart_0 : decode cL_apart 0 = .ok (.iconst 0, 1) := by decide +kernel
theorem dL_apart_1 : decode cL_apart 1 = .ok (.istore_n 2, 1) := by decide +kernel
theorem dL_apart_2 : decode cL_apart 2 = .ok (.iload_n 0, 1) := by decide +kernel
theorem dL_apart_3 : decode cL_apart 3 = .ok (.iload_n 2, 1) := by decide +kernel
theorem dL_apart_4 : decode cL_apart 4 = .ok (.iadd, 1) := by decide +kernel
theorem dL_apart_5 : decode cL_apart 5 = .ok (.sipush 720, 3) := by decide +kernel
theorem dL_apart_8 : decode cL_apart 8 = .ok (.irem, 1) := by decide +kernel
theorem dL_apart_9 : decode cL_apart 9 = .ok (.iload_n 1, 1) := by decide +kernel
theorem dL_apart_10 : decode cL_apart 10 = .ok (.if_icmp .eq 20, 3) := by decide +kernel
theorem dL_apart_13 : decode cL_apart 13 = .ok (.iload_n 1, 1) := by decide +kernel
theorem dL_apart_14 : decode cL_apart 14 = .ok (.iload_n 2, 1) := by decide +kernel
theorem dL_apart_15 : decode cL_apart 15 = .ok (.iadd, 1) := by decide +kernel
theorem dL_apart_16 : decode cL_apart 16 = .ok (.sipush 720, 3) := by decide +kernel
theorem dL_apart_19 : decode cL_apart 19 = .ok (.irem, 1) := by decide +kernel
theorem dL_apart_20 : decode cL_apart 20 = .ok (.iload_n 0, 1) := by decide +kernel
theorem dL_apart_21 : decode cL_apart 21 = .ok (.if_icmp .eq 9, 3) := by decide +kernel
theorem dL_apart_24 : decode cL_apart 24 = .ok (.iinc 2 1, 3) := by decide +kernel
theorem dL_apart_27 : decode cL_apart 27 = .ok (.goto (-25), 3) := by decide +kernel
theorem dL_apart_30 : decode cL_apart 30 = .ok (.iload_n 2, 1) := by decide +kernel
theorem dL_apart_31 : decode cL_apart 31 = .ok (.ireturn, 1) := by decide +kernel
theorem dL_watch_0 : decode cL_watch 0 = .ok (.iconst 0, 1) := by decide +kernel
theorem dL_watch_1 : decode cL_watch 1 = .ok (.istore_n 3, 1) := by decide +kernel
theorem dL_watch_2 : decode cL_watch 2 = .ok (.iload_n 3, 1) := by decide +kernel
theorem dL_watch_3 : decode cL_watch 3 = .ok (.sipush 1440, 3) := by decide +kernel
theorem dL_watch_6 : decode cL_watch 6 = .ok (.if_icmp .ge 50, 3) := by decide +kernel
theorem dL_watch_9 : decode cL_watch 9 = .ok (.iconst 0, 1) := by decide +kernel
theorem dL_watch_10 : decode cL_watch 10 = .ok (.istore 4, 2) := by decide +kernel
theorem dL_watch_12 : decode cL_watch 12 = .ok (.iload 4, 2) := by decide +kernel
theorem dL_watch_14 : decode cL_watch 14 = .ok (.aload_n 1, 1) := by decide +kernel
theorem dL_watch_15 : decode cL_watch 15 = .ok (.bipush 7, 2) := by decide +kernel
theorem dL_watch_17 : decode cL_watch 17 = .ok (.iaload, 1) := by decide +kernel
theorem dL_watch_18 : decode cL_watch 18 = .ok (.if_icmp .ge 32, 3) := by decide +kernel
theorem dL_watch_21 : decode cL_watch 21 = .ok (.aload_n 0, 1) := by decide +kernel
theorem dL_watch_22 : decode cL_watch 22 = .ok (.iconst 2, 1) := by decide +kernel
theorem dL_watch_23 : decode cL_watch 23 = .ok (.iload 4, 2) := by decide +kernel
theorem dL_watch_25 : decode cL_watch 25 = .ok (.imul, 1) := by decide +kernel
theorem dL_watch_26 : decode cL_watch 26 = .ok (.iaload, 1) := by decide +kernel
theorem dL_watch_27 : decode cL_watch 27 = .ok (.iload_n 2, 1) := by decide +kernel
theorem dL_watch_28 : decode cL_watch 28 = .ok (.sipush 1440, 3) := by decide +kernel
theorem dL_watch_31 : decode cL_watch 31 = .ok (.iadd, 1) := by decide +kernel
theorem dL_watch_32 : decode cL_watch 32 = .ok (.iload_n 3, 1) := by decide +kernel
theorem dL_watch_33 : decode cL_watch 33 = .ok (.isub, 1) := by decide +kernel
theorem dL_watch_34 : decode cL_watch 34 = .ok (.sipush 1440, 3) := by decide +kernel
theorem dL_watch_37 : decode cL_watch 37 = .ok (.irem, 1) := by decide +kernel
theorem dL_watch_38 : decode cL_watch 38 = .ok (.if_icmp .ne 6, 3) := by decide +kernel
theorem dL_watch_41 : decode cL_watch 41 = .ok (.iload 4, 2) := by decide +kernel
theorem dL_watch_43 : decode cL_watch 43 = .ok (.ireturn, 1) := by decide +kernel
theorem dL_watch_44 : decode cL_watch 44 = .ok (.iinc 4 1, 3) := by decide +kernel
theorem dL_watch_47 : decode cL_watch 47 = .ok (.goto (-35), 3) := by decide +kernel
theorem dL_watch_50 : decode cL_watch 50 = .ok (.iinc 3 1, 3) := by decide +kernel
theorem dL_watch_53 : decode cL_watch 53 = .ok (.goto (-51), 3) := by decide +kernel
theorem dL_watch_56 : decode cL_watch 56 = .ok (.iconst (-1), 1) := by decide +kernel
theorem dL_watch_57 : decode cL_watch 57 = .ok (.ireturn, 1) := by decide +kernel
theorem dL_keeperTime_0 : decode cL_keeperTime 0 = .ok (.aload_n 1, 1) := by decide +kernel
theorem dL_keeperTime_1 : decode cL_keeperTime 1 = .ok (.iconst 0, 1) := by decide +kernel
theorem dL_keeperTime_2 : decode cL_keeperTime 2 = .ok (.iaload, 1) := by decide +kernel
theorem dL_keeperTime_3 : decode cL_keeperTime 3 = .ok (.aload_n 0, 1) := by decide +kernel
theorem dL_keeperTime_4 : decode cL_keeperTime 4 = .ok (.iconst 2, 1) := by decide +kernel
theorem dL_keeperTime_5 : decode cL_keeperTime 5 = .ok (.aload_n 0, 1) := by decide +kernel
theorem dL_keeperTime_6 : decode cL_keeperTime 6 = .ok (.aload_n 1, 1) := by decide +kernel
theorem dL_keeperTime_7 : decode cL_keeperTime 7 = .ok (.aload_n 1, 1) := by decide +kernel
theorem dL_keeperTime_8 : decode cL_keeperTime 8 = .ok (.iconst 0, 1) := by decide +kernel
theorem dL_keeperTime_9 : decode cL_keeperTime 9 = .ok (.iaload, 1) := by decide +kernel
theorem dL_keeperTime_10 : decode cL_keeperTime 10 = .ok (.sipush 1440, 3) := by decide +kernel
theorem dL_keeperTime_13 : decode cL_keeperTime 13 = .ok (.irem, 1) := by decide +kernel
theorem dL_keeperTime_14 : decode cL_keeperTime 14 = .ok (.invokestatic 10, 3) := by decide +kernel
theorem dL_keeperTime_17 : decode cL_keeperTime 17 = .ok (.imul, 1) := by decide +kernel
theorem dL_keeperTime_18 : decode cL_keeperTime 18 = .ok (.iconst 1, 1) := by decide +kernel
theorem dL_keeperTime_19 : decode cL_keeperTime 19 = .ok (.iadd, 1) := by decide +kernel
theorem dL_keeperTime_20 : decode cL_keeperTime 20 = .ok (.iaload, 1) := by decide +kernel
theorem dL_keeperTime_21 : decode cL_keeperTime 21 = .ok (.iadd, 1) := by decide +kernel
theorem dL_keeperTime_22 : decode cL_keeperTime 22 = .ok (.sipush 720, 3) := by decide +kernel
theorem dL_keeperTime_25 : decode cL_keeperTime 25 = .ok (.iadd, 1) := by decide +kernel
theorem dL_keeperTime_26 : decode cL_keeperTime 26 = .ok (.sipush 720, 3) := by decide +kernel
theorem dL_keeperTime_29 : decode cL_keeperTime 29 = .ok (.irem, 1) := by decide +kernel
theorem dL_keeperTime_30 : decode cL_keeperTime 30 = .ok (.ireturn, 1) := by decide +kernel
theorem dL_reset_0 : decode cL_reset 0 = .ok (.iconst 0, 1) := by decide +kernel
theorem dL_reset_1 : decode cL_reset 1 = .ok (.istore_n 3, 1) := by decide +kernel
theorem dL_reset_2 : decode cL_reset 2 = .ok (.aload_n 1, 1) := by decide +kernel
theorem dL_reset_3 : decode cL_reset 3 = .ok (.aload_n 2, 1) := by decide +kernel
theorem dL_reset_4 : decode cL_reset 4 = .ok (.invokestatic 16, 3) := by decide +kernel
theorem dL_reset_7 : decode cL_reset 7 = .ok (.istore 4, 2) := by decide +kernel
theorem dL_reset_9 : decode cL_reset 9 = .ok (.iconst 0, 1) := by decide +kernel
theorem dL_reset_10 : decode cL_reset 10 = .ok (.istore 5, 2) := by decide +kernel
theorem dL_reset_12 : decode cL_reset 12 = .ok (.iload 5, 2) := by decide +kernel
theorem dL_reset_14 : decode cL_reset 14 = .ok (.iconst 4, 1) := by decide +kernel
theorem dL_reset_15 : decode cL_reset 15 = .ok (.if_icmp .ge 49, 3) := by decide +kernel
theorem dL_reset_18 : decode cL_reset 18 = .ok (.aload_n 0, 1) := by decide +kernel
theorem dL_reset_19 : decode cL_reset 19 = .ok (.bipush 7, 2) := by decide +kernel
theorem dL_reset_21 : decode cL_reset 21 = .ok (.iload 5, 2) := by decide +kernel
theorem dL_reset_23 : decode cL_reset 23 = .ok (.imul, 1) := by decide +kernel
theorem dL_reset_24 : decode cL_reset 24 = .ok (.iaload, 1) := by decide +kernel
theorem dL_reset_25 : decode cL_reset 25 = .ok (.iload 4, 2) := by decide +kernel
theorem dL_reset_27 : decode cL_reset 27 = .ok (.invokestatic 20, 3) := by decide +kernel
theorem dL_reset_30 : decode cL_reset 30 = .ok (.aload_n 2, 1) := by decide +kernel
theorem dL_reset_31 : decode cL_reset 31 = .ok (.iconst 2, 1) := by decide +kernel
theorem dL_reset_32 : decode cL_reset 32 = .ok (.iaload, 1) := by decide +kernel
theorem dL_reset_33 : decode cL_reset 33 = .ok (.if_icmp .le 25, 3) := by decide +kernel
theorem dL_reset_36 : decode cL_reset 36 = .ok (.aload_n 0, 1) := by decide +kernel
theorem dL_reset_37 : decode cL_reset 37 = .ok (.bipush 7, 2) := by decide +kernel
theorem dL_reset_39 : decode cL_reset 39 = .ok (.iload 5, 2) := by decide +kernel
theorem dL_reset_41 : decode cL_reset 41 = .ok (.imul, 1) := by decide +kernel
theorem dL_reset_42 : decode cL_reset 42 = .ok (.iload 4, 2) := by decide +kernel
theorem dL_reset_44 : decode cL_reset 44 = .ok (.iastore, 1) := by decide +kernel
theorem dL_reset_45 : decode cL_reset 45 = .ok (.aload_n 0, 1) := by decide +kernel
theorem dL_reset_46 : decode cL_reset 46 = .ok (.bipush 7, 2) := by decide +kernel
theorem dL_reset_48 : decode cL_reset 48 = .ok (.iload 5, 2) := by decide +kernel
theorem dL_reset_50 : decode cL_reset 50 = .ok (.imul, 1) := by decide +kernel
theorem dL_reset_51 : decode cL_reset 51 = .ok (.iconst 2, 1) := by decide +kernel
theorem dL_reset_52 : decode cL_reset 52 = .ok (.iadd, 1) := by decide +kernel
theorem dL_reset_53 : decode cL_reset 53 = .ok (.iconst 0, 1) := by decide +kernel
theorem dL_reset_54 : decode cL_reset 54 = .ok (.iastore, 1) := by decide +kernel
theorem dL_reset_55 : decode cL_reset 55 = .ok (.iinc 3 1, 3) := by decide +kernel
theorem dL_reset_58 : decode cL_reset 58 = .ok (.iinc 5 1, 3) := by decide +kernel
theorem dL_reset_61 : decode cL_reset 61 = .ok (.goto (-49), 3) := by decide +kernel
theorem dL_reset_64 : decode cL_reset 64 = .ok (.aload_n 2, 1) := by decide +kernel
theorem dL_reset_65 : decode cL_reset 65 = .ok (.bipush 6, 2) := by decide +kernel
theorem dL_reset_67 : decode cL_reset 67 = .ok (.dup2, 1) := by decide +kernel
theorem dL_reset_68 : decode cL_reset 68 = .ok (.iaload, 1) := by decide +kernel
theorem dL_reset_69 : decode cL_reset 69 = .ok (.iload_n 3, 1) := by decide +kernel
theorem dL_reset_70 : decode cL_reset 70 = .ok (.iadd, 1) := by decide +kernel
theorem dL_reset_71 : decode cL_reset 71 = .ok (.iastore, 1) := by decide +kernel
theorem dL_reset_72 : decode cL_reset 72 = .ok (.iload_n 3, 1) := by decide +kernel
theorem dL_reset_73 : decode cL_reset 73 = .ok (.ireturn, 1) := by decide +kernel
theorem dL_minute_0 : decode cL_minute 0 = .ok (.iconst 0, 1) := by decide +kernel
theorem dL_minute_1 : decode cL_minute 1 = .ok (.istore_n 3, 1) := by decide +kernel
theorem dL_minute_2 : decode cL_minute 2 = .ok (.aload_n 2, 1) := by decide +kernel
theorem dL_minute_3 : decode cL_minute 3 = .ok (.iconst 1, 1) := by decide +kernel
theorem dL_minute_4 : decode cL_minute 4 = .ok (.iaload, 1) := by decide +kernel
theorem dL_minute_5 : decode cL_minute 5 = .ok (.istore 4, 2) := by decide +kernel
theorem dL_minute_7 : decode cL_minute 7 = .ok (.aload_n 2, 1) := by decide +kernel
theorem dL_minute_8 : decode cL_minute 8 = .ok (.iconst 0, 1) := by decide +kernel
theorem dL_minute_9 : decode cL_minute 9 = .ok (.dup2, 1) := by decide +kernel
theorem dL_minute_10 : decode cL_minute 10 = .ok (.iaload, 1) := by decide +kernel
theorem dL_minute_11 : decode cL_minute 11 = .ok (.iconst 1, 1) := by decide +kernel
theorem dL_minute_12 : decode cL_minute 12 = .ok (.iadd, 1) := by decide +kernel
theorem dL_minute_13 : decode cL_minute 13 = .ok (.iastore, 1) := by decide +kernel
theorem dL_minute_14 : decode cL_minute 14 = .ok (.iconst 0, 1) := by decide +kernel
theorem dL_minute_15 : decode cL_minute 15 = .ok (.istore 5, 2) := by decide +kernel
theorem dL_minute_17 : decode cL_minute 17 = .ok (.iload 5, 2) := by decide +kernel
theorem dL_minute_19 : decode cL_minute 19 = .ok (.bipush 28, 2) := by decide +kernel
theorem dL_minute_21 : decode cL_minute 21 = .ok (.if_icmp .ge 211, 3) := by decide +kernel
theorem dL_minute_24 : decode cL_minute 24 = .ok (.aload_n 0, 1) := by decide +kernel
theorem dL_minute_25 : decode cL_minute 25 = .ok (.iload 5, 2) := by decide +kernel
theorem dL_minute_27 : decode cL_minute 27 = .ok (.iconst 2, 1) := by decide +kernel
theorem dL_minute_28 : decode cL_minute 28 = .ok (.iadd, 1) := by decide +kernel
theorem dL_minute_29 : decode cL_minute 29 = .ok (.dup2, 1) := by decide +kernel
theorem dL_minute_30 : decode cL_minute 30 = .ok (.iaload, 1) := by decide +kernel
theorem dL_minute_31 : decode cL_minute 31 = .ok (.aload_n 2, 1) := by decide +kernel
theorem dL_minute_32 : decode cL_minute 32 = .ok (.iconst 1, 1) := by decide +kernel
theorem dL_minute_33 : decode cL_minute 33 = .ok (.iaload, 1) := by decide +kernel
theorem dL_minute_34 : decode cL_minute 34 = .ok (.aload_n 0, 1) := by decide +kernel
theorem dL_minute_35 : decode cL_minute 35 = .ok (.iload 5, 2) := by decide +kernel
theorem dL_minute_37 : decode cL_minute 37 = .ok (.iconst 3, 1) := by decide +kernel
theorem dL_minute_38 : decode cL_minute 38 = .ok (.iadd, 1) := by decide +kernel
theorem dL_minute_39 : decode cL_minute 39 = .ok (.iaload, 1) := by decide +kernel
theorem dL_minute_40 : decode cL_minute 40 = .ok (.iadd, 1) := by decide +kernel
theorem dL_minute_41 : decode cL_minute 41 = .ok (.iadd, 1) := by decide +kernel
theorem dL_minute_42 : decode cL_minute 42 = .ok (.iastore, 1) := by decide +kernel
theorem dL_minute_43 : decode cL_minute 43 = .ok (.aload_n 0, 1) := by decide +kernel
theorem dL_minute_44 : decode cL_minute 44 = .ok (.iload 5, 2) := by decide +kernel
theorem dL_minute_46 : decode cL_minute 46 = .ok (.iconst 2, 1) := by decide +kernel
theorem dL_minute_47 : decode cL_minute 47 = .ok (.iadd, 1) := by decide +kernel
theorem dL_minute_48 : decode cL_minute 48 = .ok (.iaload, 1) := by decide +kernel
theorem dL_minute_49 : decode cL_minute 49 = .ok (.bipush 10, 2) := by decide +kernel
theorem dL_minute_51 : decode cL_minute 51 = .ok (.aload_n 0, 1) := by decide +kernel
theorem dL_minute_52 : decode cL_minute 52 = .ok (.iload 5, 2) := by decide +kernel
theorem dL_minute_54 : decode cL_minute 54 = .ok (.iconst 1, 1) := by decide +kernel
theorem dL_minute_55 : decode cL_minute 55 = .ok (.iadd, 1) := by decide +kernel
theorem dL_minute_56 : decode cL_minute 56 = .ok (.iaload, 1) := by decide +kernel
theorem dL_minute_57 : decode cL_minute 57 = .ok (.imul, 1) := by decide +kernel
theorem dL_minute_58 : decode cL_minute 58 = .ok (.if_icmp .ge 93, 3) := by decide +kernel
theorem dL_minute_61 : decode cL_minute 61 = .ok (.aload_n 0, 1) := by decide +kernel
theorem dL_minute_62 : decode cL_minute 62 = .ok (.iload 5, 2) := by decide +kernel
theorem dL_minute_64 : decode cL_minute 64 = .ok (.aload_n 0, 1) := by decide +kernel
theorem dL_minute_65 : decode cL_minute 65 = .ok (.iload 5, 2) := by decide +kernel
theorem dL_minute_67 : decode cL_minute 67 = .ok (.iaload, 1) := by decide +kernel
theorem dL_minute_68 : decode cL_minute 68 = .ok (.sipush 719, 3) := by decide +kernel
theorem dL_minute_71 : decode cL_minute 71 = .ok (.if_icmp .ne 7, 3) := by decide +kernel
theorem dL_minute_74 : decode cL_minute 74 = .ok (.iconst 0, 1) := by decide +kernel
theorem dL_minute_75 : decode cL_minute 75 = .ok (.goto 9, 3) := by decide +kernel
theorem dL_minute_78 : decode cL_minute 78 = .ok (.aload_n 0, 1) := by decide +kernel
theorem dL_minute_79 : decode cL_minute 79 = .ok (.iload 5, 2) := by decide +kernel
theorem dL_minute_81 : decode cL_minute 81 = .ok (.iaload, 1) := by decide +kernel
theorem dL_minute_82 : decode cL_minute 82 = .ok (.iconst 1, 1) := by decide +kernel
theorem dL_minute_83 : decode cL_minute 83 = .ok (.iadd, 1) := by decide +kernel
theorem dL_minute_84 : decode cL_minute 84 = .ok (.iastore, 1) := by decide +kernel
theorem dL_minute_85 : decode cL_minute 85 = .ok (.aload_n 0, 1) := by decide +kernel
theorem dL_minute_86 : decode cL_minute 86 = .ok (.iload 5, 2) := by decide +kernel
theorem dL_minute_88 : decode cL_minute 88 = .ok (.iconst 5, 1) := by decide +kernel
theorem dL_minute_89 : decode cL_minute 89 = .ok (.iadd, 1) := by decide +kernel
theorem dL_minute_90 : decode cL_minute 90 = .ok (.iaload, 1) := by decide +kernel
theorem dL_minute_91 : decode cL_minute 91 = .ok (.ifCond .eq 13, 3) := by decide +kernel
theorem dL_minute_94 : decode cL_minute 94 = .ok (.aload_n 0, 1) := by decide +kernel
theorem dL_minute_95 : decode cL_minute 95 = .ok (.iload 5, 2) := by decide +kernel
theorem dL_minute_97 : decode cL_minute 97 = .ok (.iaload, 1) := by decide +kernel
theorem dL_minute_98 : decode cL_minute 98 = .ok (.bipush 60, 2) := by decide +kernel
theorem dL_minute_100 : decode cL_minute 100 = .ok (.irem, 1) := by decide +kernel
theorem dL_minute_101 : decode cL_minute 101 = .ok (.ifCond .le 7, 3) := by decide +kernel
theorem dL_minute_104 : decode cL_minute 104 = .ok (.iconst 0, 1) := by decide +kernel
theorem dL_minute_105 : decode cL_minute 105 = .ok (.goto 24, 3) := by decide +kernel
theorem dL_minute_108 : decode cL_minute 108 = .ok (.aload_n 0, 1) := by decide +kernel
theorem dL_minute_109 : decode cL_minute 109 = .ok (.iload 5, 2) := by decide +kernel
theorem dL_minute_111 : decode cL_minute 111 = .ok (.iaload, 1) := by decide +kernel
theorem dL_minute_112 : decode cL_minute 112 = .ok (.bipush 60, 2) := by decide +kernel
theorem dL_minute_114 : decode cL_minute 114 = .ok (.if_icmp .ge 8, 3) := by decide +kernel
theorem dL_minute_117 : decode cL_minute 117 = .ok (.bipush 12, 2) := by decide +kernel
theorem dL_minute_119 : decode cL_minute 119 = .ok (.goto 10, 3) := by decide +kernel
theorem dL_minute_122 : decode cL_minute 122 = .ok (.aload_n 0, 1) := by decide +kernel
theorem dL_minute_123 : decode cL_minute 123 = .ok (.iload 5, 2) := by decide +kernel
theorem dL_minute_125 : decode cL_minute 125 = .ok (.iaload, 1) := by decide +kernel
theorem dL_minute_126 : decode cL_minute 126 = .ok (.bipush 60, 2) := by decide +kernel
theorem dL_minute_128 : decode cL_minute 128 = .ok (.idiv, 1) := by decide +kernel
theorem dL_minute_129 : decode cL_minute 129 = .ok (.istore 6, 2) := by decide +kernel
theorem dL_minute_131 : decode cL_minute 131 = .ok (.aload_n 0, 1) := by decide +kernel
theorem dL_minute_132 : decode cL_minute 132 = .ok (.iload 5, 2) := by decide +kernel
theorem dL_minute_134 : decode cL_minute 134 = .ok (.bipush 6, 2) := by decide +kernel
theorem dL_minute_136 : decode cL_minute 136 = .ok (.iadd, 1) := by decide +kernel
theorem dL_minute_137 : decode cL_minute 137 = .ok (.dup2, 1) := by decide +kernel
theorem dL_minute_138 : decode cL_minute 138 = .ok (.iaload, 1) := by decide +kernel
theorem dL_minute_139 : decode cL_minute 139 = .ok (.iload 6, 2) := by decide +kernel
theorem dL_minute_141 : decode cL_minute 141 = .ok (.iadd, 1) := by decide +kernel
theorem dL_minute_142 : decode cL_minute 142 = .ok (.iastore, 1) := by decide +kernel
theorem dL_minute_143 : decode cL_minute 143 = .ok (.iload_n 3, 1) := by decide +kernel
theorem dL_minute_144 : decode cL_minute 144 = .ok (.iload 6, 2) := by decide +kernel
theorem dL_minute_146 : decode cL_minute 146 = .ok (.iadd, 1) := by decide +kernel
theorem dL_minute_147 : decode cL_minute 147 = .ok (.istore_n 3, 1) := by decide +kernel
theorem dL_minute_148 : decode cL_minute 148 = .ok (.goto 67, 3) := by decide +kernel
theorem dL_minute_151 : decode cL_minute 151 = .ok (.aload_n 0, 1) := by decide +kernel
theorem dL_minute_152 : decode cL_minute 152 = .ok (.iload 5, 2) := by decide +kernel
theorem dL_minute_154 : decode cL_minute 154 = .ok (.iconst 2, 1) := by decide +kernel
theorem dL_minute_155 : decode cL_minute 155 = .ok (.iadd, 1) := by decide +kernel
theorem dL_minute_156 : decode cL_minute 156 = .ok (.dup2, 1) := by decide +kernel
theorem dL_minute_157 : decode cL_minute 157 = .ok (.iaload, 1) := by decide +kernel
theorem dL_minute_158 : decode cL_minute 158 = .ok (.bipush 10, 2) := by decide +kernel
theorem dL_minute_160 : decode cL_minute 160 = .ok (.aload_n 0, 1) := by decide +kernel
theorem dL_minute_161 : decode cL_minute 161 = .ok (.iload 5, 2) := by decide +kernel
theorem dL_minute_163 : decode cL_minute 163 = .ok (.iconst 1, 1) := by decide +kernel
theorem dL_minute_164 : decode cL_minute 164 = .ok (.iadd, 1) := by decide +kernel
theorem dL_minute_165 : decode cL_minute 165 = .ok (.iaload, 1) := by decide +kernel
theorem dL_minute_166 : decode cL_minute 166 = .ok (.imul, 1) := by decide +kernel
theorem dL_minute_167 : decode cL_minute 167 = .ok (.isub, 1) := by decide +kernel
theorem dL_minute_168 : decode cL_minute 168 = .ok (.iastore, 1) := by decide +kernel
theorem dL_minute_169 : decode cL_minute 169 = .ok (.aload_n 0, 1) := by decide +kernel
theorem dL_minute_170 : decode cL_minute 170 = .ok (.iload 5, 2) := by decide +kernel
theorem dL_minute_172 : decode cL_minute 172 = .ok (.iconst 4, 1) := by decide +kernel
theorem dL_minute_173 : decode cL_minute 173 = .ok (.iadd, 1) := by decide +kernel
theorem dL_minute_174 : decode cL_minute 174 = .ok (.dup2, 1) := by decide +kernel
theorem dL_minute_175 : decode cL_minute 175 = .ok (.iaload, 1) := by decide +kernel
theorem dL_minute_176 : decode cL_minute 176 = .ok (.iconst 1, 1) := by decide +kernel
theorem dL_minute_177 : decode cL_minute 177 = .ok (.iadd, 1) := by decide +kernel
theorem dL_minute_178 : decode cL_minute 178 = .ok (.iastore, 1) := by decide +kernel
theorem dL_minute_179 : decode cL_minute 179 = .ok (.aload_n 0, 1) := by decide +kernel
theorem dL_minute_180 : decode cL_minute 180 = .ok (.iload 5, 2) := by decide +kernel
theorem dL_minute_182 : decode cL_minute 182 = .ok (.iconst 3, 1) := by decide +kernel
theorem dL_minute_183 : decode cL_minute 183 = .ok (.iadd, 1) := by decide +kernel
theorem dL_minute_184 : decode cL_minute 184 = .ok (.dup2, 1) := by decide +kernel
theorem dL_minute_185 : decode cL_minute 185 = .ok (.iaload, 1) := by decide +kernel
theorem dL_minute_186 : decode cL_minute 186 = .ok (.aload_n 0, 1) := by decide +kernel
theorem dL_minute_187 : decode cL_minute 187 = .ok (.iload 5, 2) := by decide +kernel
theorem dL_minute_189 : decode cL_minute 189 = .ok (.iconst 4, 1) := by decide +kernel
theorem dL_minute_190 : decode cL_minute 190 = .ok (.iadd, 1) := by decide +kernel
theorem dL_minute_191 : decode cL_minute 191 = .ok (.iaload, 1) := by decide +kernel
theorem dL_minute_192 : decode cL_minute 192 = .ok (.iconst 3, 1) := by decide +kernel
theorem dL_minute_193 : decode cL_minute 193 = .ok (.irem, 1) := by decide +kernel
theorem dL_minute_194 : decode cL_minute 194 = .ok (.ifCond .ne 18, 3) := by decide +kernel
theorem dL_minute_197 : decode cL_minute 197 = .ok (.aload_n 0, 1) := by decide +kernel
theorem dL_minute_198 : decode cL_minute 198 = .ok (.iload 5, 2) := by decide +kernel
theorem dL_minute_200 : decode cL_minute 200 = .ok (.iconst 3, 1) := by decide +kernel
theorem dL_minute_201 : decode cL_minute 201 = .ok (.iadd, 1) := by decide +kernel
theorem dL_minute_202 : decode cL_minute 202 = .ok (.iaload, 1) := by decide +kernel
theorem dL_minute_203 : decode cL_minute 203 = .ok (.bipush 9, 2) := by decide +kernel
theorem dL_minute_205 : decode cL_minute 205 = .ok (.if_icmp .ge 7, 3) := by decide +kernel
theorem dL_minute_208 : decode cL_minute 208 = .ok (.iconst 1, 1) := by decide +kernel
theorem dL_minute_209 : decode cL_minute 209 = .ok (.goto 4, 3) := by decide +kernel
theorem dL_minute_212 : decode cL_minute 212 = .ok (.iconst 0, 1) := by decide +kernel
theorem dL_minute_213 : decode cL_minute 213 = .ok (.iadd, 1) := by decide +kernel
theorem dL_minute_214 : decode cL_minute 214 = .ok (.iastore, 1) := by decide +kernel
theorem dL_minute_215 : decode cL_minute 215 = .ok (.iload 4, 2) := by decide +kernel
theorem dL_minute_217 : decode cL_minute 217 = .ok (.aload_n 0, 1) := by decide +kernel
theorem dL_minute_218 : decode cL_minute 218 = .ok (.iload 5, 2) := by decide +kernel
theorem dL_minute_220 : decode cL_minute 220 = .ok (.iconst 3, 1) := by decide +kernel
theorem dL_minute_221 : decode cL_minute 221 = .ok (.iadd, 1) := by decide +kernel
theorem dL_minute_222 : decode cL_minute 222 = .ok (.iaload, 1) := by decide +kernel
theorem dL_minute_223 : decode cL_minute 223 = .ok (.iadd, 1) := by decide +kernel
theorem dL_minute_224 : decode cL_minute 224 = .ok (.istore 4, 2) := by decide +kernel
theorem dL_minute_226 : decode cL_minute 226 = .ok (.iinc 5 7, 3) := by decide +kernel
theorem dL_minute_229 : decode cL_minute 229 = .ok (.goto (-212), 3) := by decide +kernel
theorem dL_minute_232 : decode cL_minute 232 = .ok (.aload_n 2, 1) := by decide +kernel
theorem dL_minute_233 : decode cL_minute 233 = .ok (.iconst 4, 1) := by decide +kernel
theorem dL_minute_234 : decode cL_minute 234 = .ok (.dup2, 1) := by decide +kernel
theorem dL_minute_235 : decode cL_minute 235 = .ok (.iaload, 1) := by decide +kernel
theorem dL_minute_236 : decode cL_minute 236 = .ok (.iload 4, 2) := by decide +kernel
theorem dL_minute_238 : decode cL_minute 238 = .ok (.iadd, 1) := by decide +kernel
theorem dL_minute_239 : decode cL_minute 239 = .ok (.iastore, 1) := by decide +kernel
theorem dL_minute_240 : decode cL_minute 240 = .ok (.aload_n 2, 1) := by decide +kernel
theorem dL_minute_241 : decode cL_minute 241 = .ok (.iconst 4, 1) := by decide +kernel
theorem dL_minute_242 : decode cL_minute 242 = .ok (.iaload, 1) := by decide +kernel
theorem dL_minute_243 : decode cL_minute 243 = .ok (.aload_n 2, 1) := by decide +kernel
theorem dL_minute_244 : decode cL_minute 244 = .ok (.iconst 3, 1) := by decide +kernel
theorem dL_minute_245 : decode cL_minute 245 = .ok (.iaload, 1) := by decide +kernel
theorem dL_minute_246 : decode cL_minute 246 = .ok (.if_icmp .lt 53, 3) := by decide +kernel
theorem dL_minute_249 : decode cL_minute 249 = .ok (.aload_n 2, 1) := by decide +kernel
theorem dL_minute_250 : decode cL_minute 250 = .ok (.iconst 4, 1) := by decide +kernel
theorem dL_minute_251 : decode cL_minute 251 = .ok (.iconst 0, 1) := by decide +kernel
theorem dL_minute_252 : decode cL_minute 252 = .ok (.iastore, 1) := by decide +kernel
theorem dL_minute_253 : decode cL_minute 253 = .ok (.aload_n 2, 1) := by decide +kernel
theorem dL_minute_254 : decode cL_minute 254 = .ok (.iconst 5, 1) := by decide +kernel
theorem dL_minute_255 : decode cL_minute 255 = .ok (.dup2, 1) := by decide +kernel
theorem dL_minute_256 : decode cL_minute 256 = .ok (.iaload, 1) := by decide +kernel
theorem dL_minute_257 : decode cL_minute 257 = .ok (.iconst 1, 1) := by decide +kernel
theorem dL_minute_258 : decode cL_minute 258 = .ok (.iadd, 1) := by decide +kernel
theorem dL_minute_259 : decode cL_minute 259 = .ok (.iastore, 1) := by decide +kernel
theorem dL_minute_260 : decode cL_minute 260 = .ok (.iconst 0, 1) := by decide +kernel
theorem dL_minute_261 : decode cL_minute 261 = .ok (.istore 5, 2) := by decide +kernel
theorem dL_minute_263 : decode cL_minute 263 = .ok (.iload 5, 2) := by decide +kernel
theorem dL_minute_265 : decode cL_minute 265 = .ok (.bipush 28, 2) := by decide +kernel
theorem dL_minute_267 : decode cL_minute 267 = .ok (.if_icmp .ge 32, 3) := by decide +kernel
theorem dL_minute_270 : decode cL_minute 270 = .ok (.aload_n 0, 1) := by decide +kernel
theorem dL_minute_271 : decode cL_minute 271 = .ok (.iload 5, 2) := by decide +kernel
theorem dL_minute_273 : decode cL_minute 273 = .ok (.aload_n 0, 1) := by decide +kernel
theorem dL_minute_274 : decode cL_minute 274 = .ok (.iload 5, 2) := by decide +kernel
theorem dL_minute_276 : decode cL_minute 276 = .ok (.iaload, 1) := by decide +kernel
theorem dL_minute_277 : decode cL_minute 277 = .ok (.ifCond .ne 9, 3) := by decide +kernel
theorem dL_minute_280 : decode cL_minute 280 = .ok (.sipush 719, 3) := by decide +kernel
theorem dL_minute_283 : decode cL_minute 283 = .ok (.goto 9, 3) := by decide +kernel
theorem dL_minute_286 : decode cL_minute 286 = .ok (.aload_n 0, 1) := by decide +kernel
theorem dL_minute_287 : decode cL_minute 287 = .ok (.iload 5, 2) := by decide +kernel
theorem dL_minute_289 : decode cL_minute 289 = .ok (.iaload, 1) := by decide +kernel
theorem dL_minute_290 : decode cL_minute 290 = .ok (.iconst 1, 1) := by decide +kernel
theorem dL_minute_291 : decode cL_minute 291 = .ok (.isub, 1) := by decide +kernel
theorem dL_minute_292 : decode cL_minute 292 = .ok (.iastore, 1) := by decide +kernel
theorem dL_minute_293 : decode cL_minute 293 = .ok (.iinc 5 7, 3) := by decide +kernel
theorem dL_minute_296 : decode cL_minute 296 = .ok (.goto (-33), 3) := by decide +kernel
theorem dL_minute_299 : decode cL_minute 299 = .ok (.aload_n 2, 1) := by decide +kernel
theorem dL_minute_300 : decode cL_minute 300 = .ok (.iconst 0, 1) := by decide +kernel
theorem dL_minute_301 : decode cL_minute 301 = .ok (.iaload, 1) := by decide +kernel
theorem dL_minute_302 : decode cL_minute 302 = .ok (.sipush 1440, 3) := by decide +kernel
theorem dL_minute_305 : decode cL_minute 305 = .ok (.irem, 1) := by decide +kernel
theorem dL_minute_306 : decode cL_minute 306 = .ok (.sipush 720, 3) := by decide +kernel
theorem dL_minute_309 : decode cL_minute 309 = .ok (.if_icmp .ne 17, 3) := by decide +kernel
theorem dL_minute_312 : decode cL_minute 312 = .ok (.aload_n 2, 1) := by decide +kernel
theorem dL_minute_313 : decode cL_minute 313 = .ok (.bipush 7, 2) := by decide +kernel
theorem dL_minute_315 : decode cL_minute 315 = .ok (.iaload, 1) := by decide +kernel
theorem dL_minute_316 : decode cL_minute 316 = .ok (.ifCond .le 10, 3) := by decide +kernel
theorem dL_minute_319 : decode cL_minute 319 = .ok (.aload_n 0, 1) := by decide +kernel
theorem dL_minute_320 : decode cL_minute 320 = .ok (.aload_n 1, 1) := by decide +kernel
theorem dL_minute_321 : decode cL_minute 321 = .ok (.aload_n 2, 1) := by decide +kernel
theorem dL_minute_322 : decode cL_minute 322 = .ok (.invokestatic 24, 3) := by decide +kernel
theorem dL_minute_325 : decode cL_minute 325 = .ok (.pop, 1) := by decide +kernel
theorem dL_minute_326 : decode cL_minute 326 = .ok (.iload_n 3, 1) := by decide +kernel
theorem dL_minute_327 : decode cL_minute 327 = .ok (.ireturn, 1) := by decide +kernel
theorem dL_spread_0 : decode cL_spread 0 = .ok (.iconst 0, 1) := by decide +kernel
theorem dL_spread_1 : decode cL_spread 1 = .ok (.istore_n 1, 1) := by decide +kernel
theorem dL_spread_2 : decode cL_spread 2 = .ok (.iconst 0, 1) := by decide +kernel
theorem dL_spread_3 : decode cL_spread 3 = .ok (.istore_n 2, 1) := by decide +kernel
theorem dL_spread_4 : decode cL_spread 4 = .ok (.iload_n 2, 1) := by decide +kernel
theorem dL_spread_5 : decode cL_spread 5 = .ok (.bipush 16, 2) := by decide +kernel
theorem dL_spread_7 : decode cL_spread 7 = .ok (.if_icmp .ge 40, 3) := by decide +kernel
theorem dL_spread_10 : decode cL_spread 10 = .ok (.aload_n 0, 1) := by decide +kernel
theorem dL_spread_11 : decode cL_spread 11 = .ok (.bipush 7, 2) := by decide +kernel
theorem dL_spread_13 : decode cL_spread 13 = .ok (.iload_n 2, 1) := by decide +kernel
theorem dL_spread_14 : decode cL_spread 14 = .ok (.iconst 4, 1) := by decide +kernel
theorem dL_spread_15 : decode cL_spread 15 = .ok (.idiv, 1) := by decide +kernel
theorem dL_spread_16 : decode cL_spread 16 = .ok (.imul, 1) := by decide +kernel
theorem dL_spread_17 : decode cL_spread 17 = .ok (.iaload, 1) := by decide +kernel
theorem dL_spread_18 : decode cL_spread 18 = .ok (.aload_n 0, 1) := by decide +kernel
theorem dL_spread_19 : decode cL_spread 19 = .ok (.bipush 7, 2) := by decide +kernel
theorem dL_spread_21 : decode cL_spread 21 = .ok (.iload_n 2, 1) := by decide +kernel
theorem dL_spread_22 : decode cL_spread 22 = .ok (.iconst 4, 1) := by decide +kernel
theorem dL_spread_23 : decode cL_spread 23 = .ok (.irem, 1) := by decide +kernel
theorem dL_spread_24 : decode cL_spread 24 = .ok (.imul, 1) := by decide +kernel
theorem dL_spread_25 : decode cL_spread 25 = .ok (.iaload, 1) := by decide +kernel
theorem dL_spread_26 : decode cL_spread 26 = .ok (.invokestatic 20, 3) := by decide +kernel
theorem dL_spread_29 : decode cL_spread 29 = .ok (.istore_n 3, 1) := by decide +kernel
theorem dL_spread_30 : decode cL_spread 30 = .ok (.iload_n 3, 1) := by decide +kernel
theorem dL_spread_31 : decode cL_spread 31 = .ok (.iload_n 1, 1) := by decide +kernel
theorem dL_spread_32 : decode cL_spread 32 = .ok (.if_icmp .le 7, 3) := by decide +kernel
theorem dL_spread_35 : decode cL_spread 35 = .ok (.iload_n 3, 1) := by decide +kernel
theorem dL_spread_36 : decode cL_spread 36 = .ok (.goto 4, 3) := by decide +kernel
theorem dL_spread_39 : decode cL_spread 39 = .ok (.iload_n 1, 1) := by decide +kernel
theorem dL_spread_40 : decode cL_spread 40 = .ok (.istore_n 1, 1) := by decide +kernel
theorem dL_spread_41 : decode cL_spread 41 = .ok (.iinc 2 1, 3) := by decide +kernel
theorem dL_spread_44 : decode cL_spread 44 = .ok (.goto (-40), 3) := by decide +kernel
theorem dL_spread_47 : decode cL_spread 47 = .ok (.iload_n 1, 1) := by decide +kernel
theorem dL_spread_48 : decode cL_spread 48 = .ok (.ireturn, 1) := by decide +kernel
theorem dL_copy_0 : decode cL_copy 0 = .ok (.iconst 0, 1) := by decide +kernel
theorem dL_copy_1 : decode cL_copy 1 = .ok (.istore_n 2, 1) := by decide +kernel
theorem dL_copy_2 : decode cL_copy 2 = .ok (.iload_n 2, 1) := by decide +kernel
theorem dL_copy_3 : decode cL_copy 3 = .ok (.aload_n 0, 1) := by decide +kernel
theorem dL_copy_4 : decode cL_copy 4 = .ok (.arraylength, 1) := by decide +kernel
theorem dL_copy_5 : decode cL_copy 5 = .ok (.if_icmp .ge 15, 3) := by decide +kernel
theorem dL_copy_8 : decode cL_copy 8 = .ok (.aload_n 1, 1) := by decide +kernel
theorem dL_copy_9 : decode cL_copy 9 = .ok (.iload_n 2, 1) := by decide +kernel
theorem dL_copy_10 : decode cL_copy 10 = .ok (.aload_n 0, 1) := by decide +kernel
theorem dL_copy_11 : decode cL_copy 11 = .ok (.iload_n 2, 1) := by decide +kernel
theorem dL_copy_12 : decode cL_copy 12 = .ok (.iaload, 1) := by decide +kernel
theorem dL_copy_13 : decode cL_copy 13 = .ok (.iastore, 1) := by decide +kernel
theorem dL_copy_14 : decode cL_copy 14 = .ok (.iinc 2 1, 3) := by decide +kernel
theorem dL_copy_17 : decode cL_copy 17 = .ok (.goto (-15), 3) := by decide +kernel
theorem dL_copy_20 : decode cL_copy 20 = .ok (.aload_n 1, 1) := by decide +kernel
theorem dL_copy_21 : decode cL_copy 21 = .ok (.areturn, 1) := by decide +kernel
theorem dL_sum_0 : decode cL_sum 0 = .ok (.aload_n 0, 1) := by decide +kernel
theorem dL_sum_1 : decode cL_sum 1 = .ok (.iload_n 1, 1) := by decide +kernel
theorem dL_sum_2 : decode cL_sum 2 = .ok (.iaload, 1) := by decide +kernel
theorem dL_sum_3 : decode cL_sum 3 = .ok (.aload_n 0, 1) := by decide +kernel
theorem dL_sum_4 : decode cL_sum 4 = .ok (.bipush 7, 2) := by decide +kernel
theorem dL_sum_6 : decode cL_sum 6 = .ok (.iload_n 1, 1) := by decide +kernel
theorem dL_sum_7 : decode cL_sum 7 = .ok (.iadd, 1) := by decide +kernel
theorem dL_sum_8 : decode cL_sum 8 = .ok (.iaload, 1) := by decide +kernel
theorem dL_sum_9 : decode cL_sum 9 = .ok (.iadd, 1) := by decide +kernel
theorem dL_sum_10 : decode cL_sum 10 = .ok (.aload_n 0, 1) := by decide +kernel
theorem dL_sum_11 : decode cL_sum 11 = .ok (.bipush 14, 2) := by decide +kernel
theorem dL_sum_13 : decode cL_sum 13 = .ok (.iload_n 1, 1) := by decide +kernel
theorem dL_sum_14 : decode cL_sum 14 = .ok (.iadd, 1) := by decide +kernel
theorem dL_sum_15 : decode cL_sum 15 = .ok (.iaload, 1) := by decide +kernel
theorem dL_sum_16 : decode cL_sum 16 = .ok (.iadd, 1) := by decide +kernel
theorem dL_sum_17 : decode cL_sum 17 = .ok (.aload_n 0, 1) := by decide +kernel
theorem dL_sum_18 : decode cL_sum 18 = .ok (.bipush 21, 2) := by decide +kernel
theorem dL_sum_20 : decode cL_sum 20 = .ok (.iload_n 1, 1) := by decide +kernel
theorem dL_sum_21 : decode cL_sum 21 = .ok (.iadd, 1) := by decide +kernel
theorem dL_sum_22 : decode cL_sum 22 = .ok (.iaload, 1) := by decide +kernel
theorem dL_sum_23 : decode cL_sum 23 = .ok (.iadd, 1) := by decide +kernel
theorem dL_sum_24 : decode cL_sum 24 = .ok (.ireturn, 1) := by decide +kernel
theorem dL_tower_0 : decode cL_tower 0 = .ok (.iconst 0, 1) := by decide +kernel
theorem dL_tower_1 : decode cL_tower 1 = .ok (.istore 5, 2) := by decide +kernel
theorem dL_tower_3 : decode cL_tower 3 = .ok (.iconst 0, 1) := by decide +kernel
theorem dL_tower_4 : decode cL_tower 4 = .ok (.istore 6, 2) := by decide +kernel
theorem dL_tower_6 : decode cL_tower 6 = .ok (.iconst 0, 1) := by decide +kernel
theorem dL_tower_7 : decode cL_tower 7 = .ok (.istore 7, 2) := by decide +kernel
theorem dL_tower_9 : decode cL_tower 9 = .ok (.iload 7, 2) := by decide +kernel
theorem dL_tower_11 : decode cL_tower 11 = .ok (.iconst 4, 1) := by decide +kernel
theorem dL_tower_12 : decode cL_tower 12 = .ok (.if_icmp .ge 158, 3) := by decide +kernel
theorem dL_tower_15 : decode cL_tower 15 = .ok (.iconst 0, 1) := by decide +kernel
theorem dL_tower_16 : decode cL_tower 16 = .ok (.istore 8, 2) := by decide +kernel
theorem dL_tower_18 : decode cL_tower 18 = .ok (.iconst 0, 1) := by decide +kernel
theorem dL_tower_19 : decode cL_tower 19 = .ok (.istore 9, 2) := by decide +kernel
theorem dL_tower_21 : decode cL_tower 21 = .ok (.iload 9, 2) := by decide +kernel
theorem dL_tower_23 : decode cL_tower 23 = .ok (.bipush 7, 2) := by decide +kernel
theorem dL_tower_25 : decode cL_tower 25 = .ok (.if_icmp .ge 32, 3) := by decide +kernel
theorem dL_tower_28 : decode cL_tower 28 = .ok (.aload_n 0, 1) := by decide +kernel
theorem dL_tower_29 : decode cL_tower 29 = .ok (.iload 7, 2) := by decide +kernel
theorem dL_tower_31 : decode cL_tower 31 = .ok (.iload 9, 2) := by decide +kernel
theorem dL_tower_33 : decode cL_tower 33 = .ok (.invokevirtual 28, 3) := by decide +kernel
theorem dL_tower_36 : decode cL_tower 36 = .ok (.aload_n 1, 1) := by decide +kernel
theorem dL_tower_37 : decode cL_tower 37 = .ok (.bipush 7, 2) := by decide +kernel
theorem dL_tower_39 : decode cL_tower 39 = .ok (.iload 7, 2) := by decide +kernel
theorem dL_tower_41 : decode cL_tower 41 = .ok (.imul, 1) := by decide +kernel
theorem dL_tower_42 : decode cL_tower 42 = .ok (.iload 9, 2) := by decide +kernel
theorem dL_tower_44 : decode cL_tower 44 = .ok (.iadd, 1) := by decide +kernel
theorem dL_tower_45 : decode cL_tower 45 = .ok (.iaload, 1) := by decide +kernel
theorem dL_tower_46 : decode cL_tower 46 = .ok (.if_icmp .eq 5, 3) := by decide +kernel
theorem dL_tower_49 : decode cL_tower 49 = .ok (.iconst 0, 1) := by decide +kernel
theorem dL_tower_50 : decode cL_tower 50 = .ok (.ireturn, 1) := by decide +kernel
theorem dL_tower_51 : decode cL_tower 51 = .ok (.iinc 9 1, 3) := by decide +kernel
theorem dL_tower_54 : decode cL_tower 54 = .ok (.goto (-33), 3) := by decide +kernel
theorem dL_tower_57 : decode cL_tower 57 = .ok (.iconst 0, 1) := by decide +kernel
theorem dL_tower_58 : decode cL_tower 58 = .ok (.istore 9, 2) := by decide +kernel
theorem dL_tower_60 : decode cL_tower 60 = .ok (.iload 9, 2) := by decide +kernel
theorem dL_tower_62 : decode cL_tower 62 = .ok (.bipush 28, 2) := by decide +kernel
theorem dL_tower_64 : decode cL_tower 64 = .ok (.if_icmp .ge 33, 3) := by decide +kernel
theorem dL_tower_67 : decode cL_tower 67 = .ok (.iload 8, 2) := by decide +kernel
theorem dL_tower_69 : decode cL_tower 69 = .ok (.aload_n 1, 1) := by decide +kernel
theorem dL_tower_70 : decode cL_tower 70 = .ok (.iload 9, 2) := by decide +kernel
theorem dL_tower_72 : decode cL_tower 72 = .ok (.iaload, 1) := by decide +kernel
theorem dL_tower_73 : decode cL_tower 73 = .ok (.aload_n 1, 1) := by decide +kernel
theorem dL_tower_74 : decode cL_tower 74 = .ok (.bipush 7, 2) := by decide +kernel
theorem dL_tower_76 : decode cL_tower 76 = .ok (.iload 7, 2) := by decide +kernel
theorem dL_tower_78 : decode cL_tower 78 = .ok (.imul, 1) := by decide +kernel
theorem dL_tower_79 : decode cL_tower 79 = .ok (.iaload, 1) := by decide +kernel
theorem dL_tower_80 : decode cL_tower 80 = .ok (.if_icmp .ne 7, 3) := by decide +kernel
theorem dL_tower_83 : decode cL_tower 83 = .ok (.iconst 1, 1) := by decide +kernel
theorem dL_tower_84 : decode cL_tower 84 = .ok (.goto 4, 3) := by decide +kernel
theorem dL_tower_87 : decode cL_tower 87 = .ok (.iconst 0, 1) := by decide +kernel
theorem dL_tower_88 : decode cL_tower 88 = .ok (.iadd, 1) := by decide +kernel
theorem dL_tower_89 : decode cL_tower 89 = .ok (.istore 8, 2) := by decide +kernel
theorem dL_tower_91 : decode cL_tower 91 = .ok (.iinc 9 7, 3) := by decide +kernel
theorem dL_tower_94 : decode cL_tower 94 = .ok (.goto (-34), 3) := by decide +kernel
theorem dL_tower_97 : decode cL_tower 97 = .ok (.iload 8, 2) := by decide +kernel
theorem dL_tower_99 : decode cL_tower 99 = .ok (.iload 6, 2) := by decide +kernel
theorem dL_tower_101 : decode cL_tower 101 = .ok (.if_icmp .le 13, 3) := by decide +kernel
theorem dL_tower_104 : decode cL_tower 104 = .ok (.aload_n 1, 1) := by decide +kernel
theorem dL_tower_105 : decode cL_tower 105 = .ok (.bipush 7, 2) := by decide +kernel
theorem dL_tower_107 : decode cL_tower 107 = .ok (.iload 7, 2) := by decide +kernel
theorem dL_tower_109 : decode cL_tower 109 = .ok (.imul, 1) := by decide +kernel
theorem dL_tower_110 : decode cL_tower 110 = .ok (.iaload, 1) := by decide +kernel
theorem dL_tower_111 : decode cL_tower 111 = .ok (.goto 5, 3) := by decide +kernel
theorem dL_tower_114 : decode cL_tower 114 = .ok (.iload 5, 2) := by decide +kernel
theorem dL_tower_116 : decode cL_tower 116 = .ok (.istore 5, 2) := by decide +kernel
theorem dL_tower_118 : decode cL_tower 118 = .ok (.iload 8, 2) := by decide +kernel
theorem dL_tower_120 : decode cL_tower 120 = .ok (.iload 6, 2) := by decide +kernel
theorem dL_tower_122 : decode cL_tower 122 = .ok (.if_icmp .le 8, 3) := by decide +kernel
theorem dL_tower_125 : decode cL_tower 125 = .ok (.iload 8, 2) := by decide +kernel
theorem dL_tower_127 : decode cL_tower 127 = .ok (.goto 5, 3) := by decide +kernel
theorem dL_tower_130 : decode cL_tower 130 = .ok (.iload 6, 2) := by decide +kernel
theorem dL_tower_132 : decode cL_tower 132 = .ok (.istore 6, 2) := by decide +kernel
theorem dL_tower_134 : decode cL_tower 134 = .ok (.aload_n 0, 1) := by decide +kernel
theorem dL_tower_135 : decode cL_tower 135 = .ok (.iload 7, 2) := by decide +kernel
theorem dL_tower_137 : decode cL_tower 137 = .ok (.bipush 7, 2) := by decide +kernel
theorem dL_tower_139 : decode cL_tower 139 = .ok (.invokevirtual 28, 3) := by decide +kernel
theorem dL_tower_142 : decode cL_tower 142 = .ok (.aload_n 1, 1) := by decide +kernel
theorem dL_tower_143 : decode cL_tower 143 = .ok (.bipush 7, 2) := by decide +kernel
theorem dL_tower_145 : decode cL_tower 145 = .ok (.iload 7, 2) := by decide +kernel
theorem dL_tower_147 : decode cL_tower 147 = .ok (.imul, 1) := by decide +kernel
theorem dL_tower_148 : decode cL_tower 148 = .ok (.iaload, 1) := by decide +kernel
theorem dL_tower_149 : decode cL_tower 149 = .ok (.aload_n 3, 1) := by decide +kernel
theorem dL_tower_150 : decode cL_tower 150 = .ok (.iconst 0, 1) := by decide +kernel
theorem dL_tower_151 : decode cL_tower 151 = .ok (.iaload, 1) := by decide +kernel
theorem dL_tower_152 : decode cL_tower 152 = .ok (.sipush 720, 3) := by decide +kernel
theorem dL_tower_155 : decode cL_tower 155 = .ok (.irem, 1) := by decide +kernel
theorem dL_tower_156 : decode cL_tower 156 = .ok (.invokestatic 20, 3) := by decide +kernel
theorem dL_tower_159 : decode cL_tower 159 = .ok (.if_icmp .eq 5, 3) := by decide +kernel
theorem dL_tower_162 : decode cL_tower 162 = .ok (.iconst 0, 1) := by decide +kernel
theorem dL_tower_163 : decode cL_tower 163 = .ok (.ireturn, 1) := by decide +kernel
theorem dL_tower_164 : decode cL_tower 164 = .ok (.iinc 7 1, 3) := by decide +kernel
theorem dL_tower_167 : decode cL_tower 167 = .ok (.goto (-158), 3) := by decide +kernel
theorem dL_tower_170 : decode cL_tower 170 = .ok (.iload 4, 2) := by decide +kernel
theorem dL_tower_172 : decode cL_tower 172 = .ok (.sipush 1440, 3) := by decide +kernel
theorem dL_tower_175 : decode cL_tower 175 = .ok (.invokestatic 33, 3) := by decide +kernel
theorem dL_tower_178 : decode cL_tower 178 = .ok (.istore 7, 2) := by decide +kernel
theorem dL_tower_180 : decode cL_tower 180 = .ok (.aload_n 2, 1) := by decide +kernel
theorem dL_tower_181 : decode cL_tower 181 = .ok (.aload_n 3, 1) := by decide +kernel
theorem dL_tower_182 : decode cL_tower 182 = .ok (.iload 7, 2) := by decide +kernel
theorem dL_tower_184 : decode cL_tower 184 = .ok (.invokestatic 10, 3) := by decide +kernel
theorem dL_tower_187 : decode cL_tower 187 = .ok (.istore 8, 2) := by decide +kernel
theorem dL_tower_189 : decode cL_tower 189 = .ok (.sipush 1440, 3) := by decide +kernel
theorem dL_tower_192 : decode cL_tower 192 = .ok (.istore 9, 2) := by decide +kernel
theorem dL_tower_194 : decode cL_tower 194 = .ok (.iconst 0, 1) := by decide +kernel
theorem dL_tower_195 : decode cL_tower 195 = .ok (.istore 10, 2) := by decide +kernel
theorem dL_tower_197 : decode cL_tower 197 = .ok (.iload 10, 2) := by decide +kernel
theorem dL_tower_199 : decode cL_tower 199 = .ok (.aload_n 3, 1) := by decide +kernel
theorem dL_tower_200 : decode cL_tower 200 = .ok (.bipush 7, 2) := by decide +kernel
theorem dL_tower_202 : decode cL_tower 202 = .ok (.iaload, 1) := by decide +kernel
theorem dL_tower_203 : decode cL_tower 203 = .ok (.if_icmp .ge 51, 3) := by decide +kernel
theorem dL_tower_206 : decode cL_tower 206 = .ok (.aload_n 2, 1) := by decide +kernel
theorem dL_tower_207 : decode cL_tower 207 = .ok (.iconst 2, 1) := by decide +kernel
theorem dL_tower_208 : decode cL_tower 208 = .ok (.iload 10, 2) := by decide +kernel
theorem dL_tower_210 : decode cL_tower 210 = .ok (.imul, 1) := by decide +kernel
theorem dL_tower_211 : decode cL_tower 211 = .ok (.iaload, 1) := by decide +kernel
theorem dL_tower_212 : decode cL_tower 212 = .ok (.sipush 1440, 3) := by decide +kernel
theorem dL_tower_215 : decode cL_tower 215 = .ok (.iadd, 1) := by decide +kernel
theorem dL_tower_216 : decode cL_tower 216 = .ok (.iload 7, 2) := by decide +kernel
theorem dL_tower_218 : decode cL_tower 218 = .ok (.isub, 1) := by decide +kernel
theorem dL_tower_219 : decode cL_tower 219 = .ok (.sipush 1440, 3) := by decide +kernel
theorem dL_tower_222 : decode cL_tower 222 = .ok (.irem, 1) := by decide +kernel
theorem dL_tower_223 : decode cL_tower 223 = .ok (.istore 11, 2) := by decide +kernel
theorem dL_tower_225 : decode cL_tower 225 = .ok (.iload 10, 2) := by decide +kernel
theorem dL_tower_227 : decode cL_tower 227 = .ok (.iload 8, 2) := by decide +kernel
theorem dL_tower_229 : decode cL_tower 229 = .ok (.if_icmp .eq 15, 3) := by decide +kernel
theorem dL_tower_232 : decode cL_tower 232 = .ok (.iload 11, 2) := by decide +kernel
theorem dL_tower_234 : decode cL_tower 234 = .ok (.iload 9, 2) := by decide +kernel
theorem dL_tower_236 : decode cL_tower 236 = .ok (.if_icmp .ge 8, 3) := by decide +kernel
theorem dL_tower_239 : decode cL_tower 239 = .ok (.iload 11, 2) := by decide +kernel
theorem dL_tower_241 : decode cL_tower 241 = .ok (.goto 5, 3) := by decide +kernel
theorem dL_tower_244 : decode cL_tower 244 = .ok (.iload 9, 2) := by decide +kernel
theorem dL_tower_246 : decode cL_tower 246 = .ok (.istore 9, 2) := by decide +kernel
theorem dL_tower_248 : decode cL_tower 248 = .ok (.iinc 10 1, 3) := by decide +kernel
theorem dL_tower_251 : decode cL_tower 251 = .ok (.goto (-54), 3) := by decide +kernel
theorem dL_tower_254 : decode cL_tower 254 = .ok (.sipush (-1000), 3) := by decide +kernel
theorem dL_tower_257 : decode cL_tower 257 = .ok (.istore 10, 2) := by decide +kernel
theorem dL_tower_259 : decode cL_tower 259 = .ok (.aload_n 0, 1) := by decide +kernel
theorem dL_tower_260 : decode cL_tower 260 = .ok (.iload 7, 2) := by decide +kernel
theorem dL_tower_262 : decode cL_tower 262 = .ok (.iconst 0, 1) := by decide +kernel
theorem dL_tower_263 : decode cL_tower 263 = .ok (.invokevirtual 36, 3) := by decide +kernel
theorem dL_tower_266 : decode cL_tower 266 = .ok (.iload 8, 2) := by decide +kernel
theorem dL_tower_268 : decode cL_tower 268 = .ok (.ifCond .ge 8, 3) := by decide +kernel
theorem dL_tower_271 : decode cL_tower 271 = .ok (.iload 10, 2) := by decide +kernel
theorem dL_tower_273 : decode cL_tower 273 = .ok (.goto 9, 3) := by decide +kernel
theorem dL_tower_276 : decode cL_tower 276 = .ok (.aload_n 2, 1) := by decide +kernel
theorem dL_tower_277 : decode cL_tower 277 = .ok (.iconst 2, 1) := by decide +kernel
theorem dL_tower_278 : decode cL_tower 278 = .ok (.iload 8, 2) := by decide +kernel
theorem dL_tower_280 : decode cL_tower 280 = .ok (.imul, 1) := by decide +kernel
theorem dL_tower_281 : decode cL_tower 281 = .ok (.iaload, 1) := by decide +kernel
theorem dL_tower_282 : decode cL_tower 282 = .ok (.if_icmp .ne 79, 3) := by decide +kernel
theorem dL_tower_285 : decode cL_tower 285 = .ok (.aload_n 0, 1) := by decide +kernel
theorem dL_tower_286 : decode cL_tower 286 = .ok (.iload 7, 2) := by decide +kernel
theorem dL_tower_288 : decode cL_tower 288 = .ok (.iconst 1, 1) := by decide +kernel
theorem dL_tower_289 : decode cL_tower 289 = .ok (.invokevirtual 36, 3) := by decide +kernel
theorem dL_tower_292 : decode cL_tower 292 = .ok (.iload 8, 2) := by decide +kernel
theorem dL_tower_294 : decode cL_tower 294 = .ok (.ifCond .ge 8, 3) := by decide +kernel
theorem dL_tower_297 : decode cL_tower 297 = .ok (.iload 10, 2) := by decide +kernel
theorem dL_tower_299 : decode cL_tower 299 = .ok (.goto 11, 3) := by decide +kernel
theorem dL_tower_302 : decode cL_tower 302 = .ok (.aload_n 2, 1) := by decide +kernel
theorem dL_tower_303 : decode cL_tower 303 = .ok (.iconst 2, 1) := by decide +kernel
theorem dL_tower_304 : decode cL_tower 304 = .ok (.iload 8, 2) := by decide +kernel
theorem dL_tower_306 : decode cL_tower 306 = .ok (.imul, 1) := by decide +kernel
theorem dL_tower_307 : decode cL_tower 307 = .ok (.iconst 1, 1) := by decide +kernel
theorem dL_tower_308 : decode cL_tower 308 = .ok (.iadd, 1) := by decide +kernel
theorem dL_tower_309 : decode cL_tower 309 = .ok (.iaload, 1) := by decide +kernel
theorem dL_tower_310 : decode cL_tower 310 = .ok (.if_icmp .ne 51, 3) := by decide +kernel
theorem dL_tower_313 : decode cL_tower 313 = .ok (.aload_n 0, 1) := by decide +kernel
theorem dL_tower_314 : decode cL_tower 314 = .ok (.iload 7, 2) := by decide +kernel
theorem dL_tower_316 : decode cL_tower 316 = .ok (.iconst 2, 1) := by decide +kernel
theorem dL_tower_317 : decode cL_tower 317 = .ok (.invokevirtual 36, 3) := by decide +kernel
theorem dL_tower_320 : decode cL_tower 320 = .ok (.iload 8, 2) := by decide +kernel
theorem dL_tower_322 : decode cL_tower 322 = .ok (.ifCond .ge 8, 3) := by decide +kernel
theorem dL_tower_325 : decode cL_tower 325 = .ok (.iload 10, 2) := by decide +kernel
theorem dL_tower_327 : decode cL_tower 327 = .ok (.goto 5, 3) := by decide +kernel
theorem dL_tower_330 : decode cL_tower 330 = .ok (.iload 9, 2) := by decide +kernel
theorem dL_tower_332 : decode cL_tower 332 = .ok (.if_icmp .ne 29, 3) := by decide +kernel
theorem dL_tower_335 : decode cL_tower 335 = .ok (.aload_n 0, 1) := by decide +kernel
theorem dL_tower_336 : decode cL_tower 336 = .ok (.invokevirtual 39, 3) := by decide +kernel
theorem dL_tower_339 : decode cL_tower 339 = .ok (.iload 8, 2) := by decide +kernel
theorem dL_tower_341 : decode cL_tower 341 = .ok (.ifCond .ge 8, 3) := by decide +kernel
theorem dL_tower_344 : decode cL_tower 344 = .ok (.iload 10, 2) := by decide +kernel
theorem dL_tower_346 : decode cL_tower 346 = .ok (.goto 8, 3) := by decide +kernel
theorem dL_tower_349 : decode cL_tower 349 = .ok (.aload_n 2, 1) := by decide +kernel
theorem dL_tower_350 : decode cL_tower 350 = .ok (.aload_n 3, 1) := by decide +kernel
theorem dL_tower_351 : decode cL_tower 351 = .ok (.invokestatic 16, 3) := by decide +kernel
theorem dL_tower_354 : decode cL_tower 354 = .ok (.if_icmp .ne 7, 3) := by decide +kernel
theorem dL_tower_357 : decode cL_tower 357 = .ok (.iconst 1, 1) := by decide +kernel
theorem dL_tower_358 : decode cL_tower 358 = .ok (.goto 4, 3) := by decide +kernel
theorem dL_tower_361 : decode cL_tower 361 = .ok (.iconst 0, 1) := by decide +kernel
theorem dL_tower_362 : decode cL_tower 362 = .ok (.istore 11, 2) := by decide +kernel
theorem dL_tower_364 : decode cL_tower 364 = .ok (.iload 11, 2) := by decide +kernel
theorem dL_tower_366 : decode cL_tower 366 = .ok (.ifCond .eq 163, 3) := by decide +kernel
theorem dL_tower_369 : decode cL_tower 369 = .ok (.aload_n 0, 1) := by decide +kernel
theorem dL_tower_370 : decode cL_tower 370 = .ok (.invokevirtual 42, 3) := by decide +kernel
theorem dL_tower_373 : decode cL_tower 373 = .ok (.iload 5, 2) := by decide +kernel
theorem dL_tower_375 : decode cL_tower 375 = .ok (.if_icmp .ne 154, 3) := by decide +kernel
theorem dL_tower_378 : decode cL_tower 378 = .ok (.aload_n 0, 1) := by decide +kernel
theorem dL_tower_379 : decode cL_tower 379 = .ok (.iconst 0, 1) := by decide +kernel
theorem dL_tower_380 : decode cL_tower 380 = .ok (.invokevirtual 45, 3) := by decide +kernel
theorem dL_tower_383 : decode cL_tower 383 = .ok (.aload_n 3, 1) := by decide +kernel
theorem dL_tower_384 : decode cL_tower 384 = .ok (.iconst 0, 1) := by decide +kernel
theorem dL_tower_385 : decode cL_tower 385 = .ok (.iaload, 1) := by decide +kernel
theorem dL_tower_386 : decode cL_tower 386 = .ok (.if_icmp .ne 143, 3) := by decide +kernel
theorem dL_tower_389 : decode cL_tower 389 = .ok (.aload_n 0, 1) := by decide +kernel
theorem dL_tower_390 : decode cL_tower 390 = .ok (.iconst 1, 1) := by decide +kernel
theorem dL_tower_391 : decode cL_tower 391 = .ok (.invokevirtual 45, 3) := by decide +kernel
theorem dL_tower_394 : decode cL_tower 394 = .ok (.aload_n 3, 1) := by decide +kernel
theorem dL_tower_395 : decode cL_tower 395 = .ok (.iconst 0, 1) := by decide +kernel
theorem dL_tower_396 : decode cL_tower 396 = .ok (.iaload, 1) := by decide +kernel
theorem dL_tower_397 : decode cL_tower 397 = .ok (.sipush 1440, 3) := by decide +kernel
theorem dL_tower_400 : decode cL_tower 400 = .ok (.irem, 1) := by decide +kernel
theorem dL_tower_401 : decode cL_tower 401 = .ok (.if_icmp .ne 128, 3) := by decide +kernel
theorem dL_tower_404 : decode cL_tower 404 = .ok (.aload_n 0, 1) := by decide +kernel
theorem dL_tower_405 : decode cL_tower 405 = .ok (.iconst 2, 1) := by decide +kernel
theorem dL_tower_406 : decode cL_tower 406 = .ok (.invokevirtual 45, 3) := by decide +kernel
theorem dL_tower_409 : decode cL_tower 409 = .ok (.aload_n 3, 1) := by decide +kernel
theorem dL_tower_410 : decode cL_tower 410 = .ok (.iconst 4, 1) := by decide +kernel
theorem dL_tower_411 : decode cL_tower 411 = .ok (.iaload, 1) := by decide +kernel
theorem dL_tower_412 : decode cL_tower 412 = .ok (.if_icmp .ne 117, 3) := by decide +kernel
theorem dL_tower_415 : decode cL_tower 415 = .ok (.aload_n 0, 1) := by decide +kernel
theorem dL_tower_416 : decode cL_tower 416 = .ok (.iconst 3, 1) := by decide +kernel
theorem dL_tower_417 : decode cL_tower 417 = .ok (.invokevirtual 45, 3) := by decide +kernel
theorem dL_tower_420 : decode cL_tower 420 = .ok (.aload_n 3, 1) := by decide +kernel
theorem dL_tower_421 : decode cL_tower 421 = .ok (.iconst 5, 1) := by decide +kernel
theorem dL_tower_422 : decode cL_tower 422 = .ok (.iaload, 1) := by decide +kernel
theorem dL_tower_423 : decode cL_tower 423 = .ok (.if_icmp .ne 106, 3) := by decide +kernel
theorem dL_tower_426 : decode cL_tower 426 = .ok (.aload_n 0, 1) := by decide +kernel
theorem dL_tower_427 : decode cL_tower 427 = .ok (.iconst 4, 1) := by decide +kernel
theorem dL_tower_428 : decode cL_tower 428 = .ok (.invokevirtual 45, 3) := by decide +kernel
theorem dL_tower_431 : decode cL_tower 431 = .ok (.aload_n 1, 1) := by decide +kernel
theorem dL_tower_432 : decode cL_tower 432 = .ok (.iconst 4, 1) := by decide +kernel
theorem dL_tower_433 : decode cL_tower 433 = .ok (.invokestatic 49, 3) := by decide +kernel
theorem dL_tower_436 : decode cL_tower 436 = .ok (.if_icmp .ne 93, 3) := by decide +kernel
theorem dL_tower_439 : decode cL_tower 439 = .ok (.aload_n 0, 1) := by decide +kernel
theorem dL_tower_440 : decode cL_tower 440 = .ok (.iconst 5, 1) := by decide +kernel
theorem dL_tower_441 : decode cL_tower 441 = .ok (.invokevirtual 45, 3) := by decide +kernel
theorem dL_tower_444 : decode cL_tower 444 = .ok (.aload_n 1, 1) := by decide +kernel
theorem dL_tower_445 : decode cL_tower 445 = .ok (.bipush 6, 2) := by decide +kernel
theorem dL_tower_447 : decode cL_tower 447 = .ok (.invokestatic 49, 3) := by decide +kernel
theorem dL_tower_450 : decode cL_tower 450 = .ok (.if_icmp .ne 79, 3) := by decide +kernel
theorem dL_tower_453 : decode cL_tower 453 = .ok (.aload_n 0, 1) := by decide +kernel
theorem dL_tower_454 : decode cL_tower 454 = .ok (.bipush 6, 2) := by decide +kernel
theorem dL_tower_456 : decode cL_tower 456 = .ok (.invokevirtual 45, 3) := by decide +kernel
theorem dL_tower_459 : decode cL_tower 459 = .ok (.aload_n 3, 1) := by decide +kernel
theorem dL_tower_460 : decode cL_tower 460 = .ok (.bipush 6, 2) := by decide +kernel
theorem dL_tower_462 : decode cL_tower 462 = .ok (.iaload, 1) := by decide +kernel
theorem dL_tower_463 : decode cL_tower 463 = .ok (.if_icmp .ne 66, 3) := by decide +kernel
theorem dL_tower_466 : decode cL_tower 466 = .ok (.aload_n 0, 1) := by decide +kernel
theorem dL_tower_467 : decode cL_tower 467 = .ok (.bipush 7, 2) := by decide +kernel
theorem dL_tower_469 : decode cL_tower 469 = .ok (.invokevirtual 45, 3) := by decide +kernel
theorem dL_tower_472 : decode cL_tower 472 = .ok (.aload_n 3, 1) := by decide +kernel
theorem dL_tower_473 : decode cL_tower 473 = .ok (.bipush 7, 2) := by decide +kernel
theorem dL_tower_475 : decode cL_tower 475 = .ok (.iaload, 1) := by decide +kernel
theorem dL_tower_476 : decode cL_tower 476 = .ok (.if_icmp .ne 53, 3) := by decide +kernel
theorem dL_tower_479 : decode cL_tower 479 = .ok (.aload_n 0, 1) := by decide +kernel
theorem dL_tower_480 : decode cL_tower 480 = .ok (.bipush 8, 2) := by decide +kernel
theorem dL_tower_482 : decode cL_tower 482 = .ok (.invokevirtual 45, 3) := by decide +kernel
theorem dL_tower_485 : decode cL_tower 485 = .ok (.aload_n 1, 1) := by decide +kernel
theorem dL_tower_486 : decode cL_tower 486 = .ok (.invokestatic 53, 3) := by decide +kernel
theorem dL_tower_489 : decode cL_tower 489 = .ok (.if_icmp .ne 40, 3) := by decide +kernel
theorem dL_tower_492 : decode cL_tower 492 = .ok (.aload_n 0, 1) := by decide +kernel
theorem dL_tower_493 : decode cL_tower 493 = .ok (.iconst 0, 1) := by decide +kernel
theorem dL_tower_494 : decode cL_tower 494 = .ok (.invokevirtual 57, 3) := by decide +kernel
theorem dL_tower_497 : decode cL_tower 497 = .ok (.aload_n 3, 1) := by decide +kernel
theorem dL_tower_498 : decode cL_tower 498 = .ok (.iconst 1, 1) := by decide +kernel
theorem dL_tower_499 : decode cL_tower 499 = .ok (.iaload, 1) := by decide +kernel
theorem dL_tower_500 : decode cL_tower 500 = .ok (.if_icmp .ne 29, 3) := by decide +kernel
theorem dL_tower_503 : decode cL_tower 503 = .ok (.aload_n 0, 1) := by decide +kernel
theorem dL_tower_504 : decode cL_tower 504 = .ok (.iconst 1, 1) := by decide +kernel
theorem dL_tower_505 : decode cL_tower 505 = .ok (.invokevirtual 57, 3) := by decide +kernel
theorem dL_tower_508 : decode cL_tower 508 = .ok (.aload_n 3, 1) := by decide +kernel
theorem dL_tower_509 : decode cL_tower 509 = .ok (.iconst 2, 1) := by decide +kernel
theorem dL_tower_510 : decode cL_tower 510 = .ok (.iaload, 1) := by decide +kernel
theorem dL_tower_511 : decode cL_tower 511 = .ok (.if_icmp .ne 18, 3) := by decide +kernel
theorem dL_tower_514 : decode cL_tower 514 = .ok (.aload_n 0, 1) := by decide +kernel
theorem dL_tower_515 : decode cL_tower 515 = .ok (.iconst 2, 1) := by decide +kernel
theorem dL_tower_516 : decode cL_tower 516 = .ok (.invokevirtual 57, 3) := by decide +kernel
theorem dL_tower_519 : decode cL_tower 519 = .ok (.aload_n 3, 1) := by decide +kernel
theorem dL_tower_520 : decode cL_tower 520 = .ok (.iconst 3, 1) := by decide +kernel
theorem dL_tower_521 : decode cL_tower 521 = .ok (.iaload, 1) := by decide +kernel
theorem dL_tower_522 : decode cL_tower 522 = .ok (.if_icmp .ne 7, 3) := by decide +kernel
theorem dL_tower_525 : decode cL_tower 525 = .ok (.iconst 1, 1) := by decide +kernel
theorem dL_tower_526 : decode cL_tower 526 = .ok (.goto 4, 3) := by decide +kernel
theorem dL_tower_529 : decode cL_tower 529 = .ok (.iconst 0, 1) := by decide +kernel
theorem dL_tower_530 : decode cL_tower 530 = .ok (.ireturn, 1) := by decide +kernel
theorem dL_bells_0 : decode cL_bells 0 = .ok (.iconst 0, 1) := by decide +kernel
theorem dL_bells_1 : decode cL_bells 1 = .ok (.istore_n 2, 1) := by decide +kernel
theorem dL_bells_2 : decode cL_bells 2 = .ok (.iconst 1, 1) := by decide +kernel
theorem dL_bells_3 : decode cL_bells 3 = .ok (.istore_n 3, 1) := by decide +kernel
theorem dL_bells_4 : decode cL_bells 4 = .ok (.iload_n 3, 1) := by decide +kernel
theorem dL_bells_5 : decode cL_bells 5 = .ok (.sipush 1441, 3) := by decide +kernel
theorem dL_bells_8 : decode cL_bells 8 = .ok (.if_icmp .ge 121, 3) := by decide +kernel
theorem dL_bells_11 : decode cL_bells 11 = .ok (.iload_n 2, 1) := by decide +kernel
theorem dL_bells_12 : decode cL_bells 12 = .ok (.bipush 24, 2) := by decide +kernel
theorem dL_bells_14 : decode cL_bells 14 = .ok (.if_icmp .ge 115, 3) := by decide +kernel
theorem dL_bells_17 : decode cL_bells 17 = .ok (.iconst 0, 1) := by decide +kernel
theorem dL_bells_18 : decode cL_bells 18 = .ok (.istore 4, 2) := by decide +kernel
theorem dL_bells_20 : decode cL_bells 20 = .ok (.iload 4, 2) := by decide +kernel
theorem dL_bells_22 : decode cL_bells 22 = .ok (.iconst 4, 1) := by decide +kernel
theorem dL_bells_23 : decode cL_bells 23 = .ok (.if_icmp .ge 100, 3) := by decide +kernel
theorem dL_bells_26 : decode cL_bells 26 = .ok (.iload_n 2, 1) := by decide +kernel
theorem dL_bells_27 : decode cL_bells 27 = .ok (.bipush 24, 2) := by decide +kernel
theorem dL_bells_29 : decode cL_bells 29 = .ok (.if_icmp .ge 94, 3) := by decide +kernel
theorem dL_bells_32 : decode cL_bells 32 = .ok (.aload_n 1, 1) := by decide +kernel
theorem dL_bells_33 : decode cL_bells 33 = .ok (.bipush 7, 2) := by decide +kernel
theorem dL_bells_35 : decode cL_bells 35 = .ok (.iload 4, 2) := by decide +kernel
theorem dL_bells_37 : decode cL_bells 37 = .ok (.imul, 1) := by decide +kernel
theorem dL_bells_38 : decode cL_bells 38 = .ok (.iaload, 1) := by decide +kernel
theorem dL_bells_39 : decode cL_bells 39 = .ok (.iload_n 3, 1) := by decide +kernel
theorem dL_bells_40 : decode cL_bells 40 = .ok (.iadd, 1) := by decide +kernel
theorem dL_bells_41 : decode cL_bells 41 = .ok (.sipush 720, 3) := by decide +kernel
theorem dL_bells_44 : decode cL_bells 44 = .ok (.irem, 1) := by decide +kernel
theorem dL_bells_45 : decode cL_bells 45 = .ok (.istore 5, 2) := by decide +kernel
theorem dL_bells_47 : decode cL_bells 47 = .ok (.aload_n 1, 1) := by decide +kernel
theorem dL_bells_48 : decode cL_bells 48 = .ok (.bipush 7, 2) := by decide +kernel
theorem dL_bells_50 : decode cL_bells 50 = .ok (.iload 4, 2) := by decide +kernel
theorem dL_bells_52 : decode cL_bells 52 = .ok (.imul, 1) := by decide +kernel
theorem dL_bells_53 : decode cL_bells 53 = .ok (.iconst 5, 1) := by decide +kernel
theorem dL_bells_54 : decode cL_bells 54 = .ok (.iadd, 1) := by decide +kernel
theorem dL_bells_55 : decode cL_bells 55 = .ok (.iaload, 1) := by decide +kernel
theorem dL_bells_56 : decode cL_bells 56 = .ok (.iconst 1, 1) := by decide +kernel
theorem dL_bells_57 : decode cL_bells 57 = .ok (.if_icmp .ne 60, 3) := by decide +kernel
theorem dL_bells_60 : decode cL_bells 60 = .ok (.iload 5, 2) := by decide +kernel
theorem dL_bells_62 : decode cL_bells 62 = .ok (.bipush 60, 2) := by decide +kernel
theorem dL_bells_64 : decode cL_bells 64 = .ok (.irem, 1) := by decide +kernel
theorem dL_bells_65 : decode cL_bells 65 = .ok (.ifCond .ne 52, 3) := by decide +kernel
theorem dL_bells_68 : decode cL_bells 68 = .ok (.aload_n 0, 1) := by decide +kernel
theorem dL_bells_69 : decode cL_bells 69 = .ok (.iload_n 2, 1) := by decide +kernel
theorem dL_bells_70 : decode cL_bells 70 = .ok (.iconst 0, 1) := by decide +kernel
theorem dL_bells_71 : decode cL_bells 71 = .ok (.invokevirtual 60, 3) := by decide +kernel
theorem dL_bells_74 : decode cL_bells 74 = .ok (.iload 4, 2) := by decide +kernel
theorem dL_bells_76 : decode cL_bells 76 = .ok (.if_icmp .ne 36, 3) := by decide +kernel
theorem dL_bells_79 : decode cL_bells 79 = .ok (.aload_n 0, 1) := by decide +kernel
theorem dL_bells_80 : decode cL_bells 80 = .ok (.iload_n 2, 1) := by decide +kernel
theorem dL_bells_81 : decode cL_bells 81 = .ok (.iconst 1, 1) := by decide +kernel
theorem dL_bells_82 : decode cL_bells 82 = .ok (.invokevirtual 60, 3) := by decide +kernel
theorem dL_bells_85 : decode cL_bells 85 = .ok (.iload_n 3, 1) := by decide +kernel
theorem dL_bells_86 : decode cL_bells 86 = .ok (.if_icmp .ne 26, 3) := by decide +kernel
theorem dL_bells_89 : decode cL_bells 89 = .ok (.aload_n 0, 1) := by decide +kernel
theorem dL_bells_90 : decode cL_bells 90 = .ok (.iload_n 2, 1) := by decide +kernel
theorem dL_bells_91 : decode cL_bells 91 = .ok (.iconst 2, 1) := by decide +kernel
theorem dL_bells_92 : decode cL_bells 92 = .ok (.invokevirtual 60, 3) := by decide +kernel
theorem dL_bells_95 : decode cL_bells 95 = .ok (.iload 5, 2) := by decide +kernel
theorem dL_bells_97 : decode cL_bells 97 = .ok (.sipush 660, 3) := by decide +kernel
theorem dL_bells_100 : decode cL_bells 100 = .ok (.iadd, 1) := by decide +kernel
theorem dL_bells_101 : decode cL_bells 101 = .ok (.bipush 60, 2) := by decide +kernel
theorem dL_bells_103 : decode cL_bells 103 = .ok (.idiv, 1) := by decide +kernel
theorem dL_bells_104 : decode cL_bells 104 = .ok (.bipush 12, 2) := by decide +kernel
theorem dL_bells_106 : decode cL_bells 106 = .ok (.irem, 1) := by decide +kernel
theorem dL_bells_107 : decode cL_bells 107 = .ok (.iconst 1, 1) := by decide +kernel
theorem dL_bells_108 : decode cL_bells 108 = .ok (.iadd, 1) := by decide +kernel
theorem dL_bells_109 : decode cL_bells 109 = .ok (.if_icmp .eq 5, 3) := by decide +kernel
theorem dL_bells_112 : decode cL_bells 112 = .ok (.iconst 0, 1) := by decide +kernel
theorem dL_bells_113 : decode cL_bells 113 = .ok (.ireturn, 1) := by decide +kernel
theorem dL_bells_114 : decode cL_bells 114 = .ok (.iinc 2 1, 3) := by decide +kernel
theorem dL_bells_117 : decode cL_bells 117 = .ok (.iinc 4 1, 3) := by decide +kernel
theorem dL_bells_120 : decode cL_bells 120 = .ok (.goto (-100), 3) := by decide +kernel
theorem dL_bells_123 : decode cL_bells 123 = .ok (.iinc 3 1, 3) := by decide +kernel
theorem dL_bells_126 : decode cL_bells 126 = .ok (.goto (-122), 3) := by decide +kernel
theorem dL_bells_129 : decode cL_bells 129 = .ok (.iload_n 2, 1) := by decide +kernel
theorem dL_bells_130 : decode cL_bells 130 = .ok (.bipush 24, 2) := by decide +kernel
theorem dL_bells_132 : decode cL_bells 132 = .ok (.if_icmp .eq 32, 3) := by decide +kernel
theorem dL_bells_135 : decode cL_bells 135 = .ok (.iload_n 2, 1) := by decide +kernel
theorem dL_bells_136 : decode cL_bells 136 = .ok (.ifCond .ne 32, 3) := by decide +kernel
theorem dL_bells_139 : decode cL_bells 139 = .ok (.aload_n 0, 1) := by decide +kernel
theorem dL_bells_140 : decode cL_bells 140 = .ok (.iconst 0, 1) := by decide +kernel
theorem dL_bells_141 : decode cL_bells 141 = .ok (.iconst 0, 1) := by decide +kernel
theorem dL_bells_142 : decode cL_bells 142 = .ok (.invokevirtual 60, 3) := by decide +kernel
theorem dL_bells_145 : decode cL_bells 145 = .ok (.sipush (-1000), 3) := by decide +kernel
theorem dL_bells_148 : decode cL_bells 148 = .ok (.if_icmp .ne 20, 3) := by decide +kernel
theorem dL_bells_151 : decode cL_bells 151 = .ok (.aload_n 0, 1) := by decide +kernel
theorem dL_bells_152 : decode cL_bells 152 = .ok (.bipush 23, 2) := by decide +kernel
theorem dL_bells_154 : decode cL_bells 154 = .ok (.iconst 2, 1) := by decide +kernel
theorem dL_bells_155 : decode cL_bells 155 = .ok (.invokevirtual 60, 3) := by decide +kernel
theorem dL_bells_158 : decode cL_bells 158 = .ok (.sipush (-1000), 3) := by decide +kernel
theorem dL_bells_161 : decode cL_bells 161 = .ok (.if_icmp .ne 7, 3) := by decide +kernel
theorem dL_bells_164 : decode cL_bells 164 = .ok (.iconst 1, 1) := by decide +kernel
theorem dL_bells_165 : decode cL_bells 165 = .ok (.goto 4, 3) := by decide +kernel
theorem dL_bells_168 : decode cL_bells 168 = .ok (.iconst 0, 1) := by decide +kernel
theorem dL_bells_169 : decode cL_bells 169 = .ok (.ireturn, 1) := by decide +kernel
theorem dL_law_0 : decode cL_law 0 = .ok (.new 29, 3) := by decide +kernel
theorem dL_law_3 : decode cL_law 3 = .ok (.dup, 1) := by decide +kernel
theorem dL_law_4 : decode cL_law 4 = .ok (.invokespecial 63, 3) := by decide +kernel
theorem dL_law_7 : decode cL_law 7 = .ok (.astore_n 1, 1) := by decide +kernel
theorem dL_law_8 : decode cL_law 8 = .ok (.bipush 28, 2) := by decide +kernel
theorem dL_law_10 : decode cL_law 10 = .ok (.newarray .int, 2) := by decide +kernel
theorem dL_law_12 : decode cL_law 12 = .ok (.astore_n 2, 1) := by decide +kernel
theorem dL_law_13 : decode cL_law 13 = .ok (.bipush 12, 2) := by decide +kernel
theorem dL_law_15 : decode cL_law 15 = .ok (.newarray .int, 2) := by decide +kernel
theorem dL_law_17 : decode cL_law 17 = .ok (.astore_n 3, 1) := by decide +kernel
theorem dL_law_18 : decode cL_law 18 = .ok (.bipush 8, 2) := by decide +kernel
theorem dL_law_20 : decode cL_law 20 = .ok (.newarray .int, 2) := by decide +kernel
theorem dL_law_22 : decode cL_law 22 = .ok (.astore 4, 2) := by decide +kernel
theorem dL_law_24 : decode cL_law 24 = .ok (.aload 4, 2) := by decide +kernel
theorem dL_law_26 : decode cL_law 26 = .ok (.iconst 1, 1) := by decide +kernel
theorem dL_law_27 : decode cL_law 27 = .ok (.iconst 3, 1) := by decide +kernel
theorem dL_law_28 : decode cL_law 28 = .ok (.iastore, 1) := by decide +kernel
theorem dL_law_29 : decode cL_law 29 = .ok (.aload 4, 2) := by decide +kernel
theorem dL_law_31 : decode cL_law 31 = .ok (.iconst 2, 1) := by decide +kernel
theorem dL_law_32 : decode cL_law 32 = .ok (.iconst 1, 1) := by decide +kernel
theorem dL_law_33 : decode cL_law 33 = .ok (.iastore, 1) := by decide +kernel
theorem dL_law_34 : decode cL_law 34 = .ok (.aload 4, 2) := by decide +kernel
theorem dL_law_36 : decode cL_law 36 = .ok (.iconst 3, 1) := by decide +kernel
theorem dL_law_37 : decode cL_law 37 = .ok (.sipush 600, 3) := by decide +kernel
theorem dL_law_40 : decode cL_law 40 = .ok (.iastore, 1) := by decide +kernel
theorem dL_law_41 : decode cL_law 41 = .ok (.aload_n 2, 1) := by decide +kernel
theorem dL_law_42 : decode cL_law 42 = .ok (.iconst 5, 1) := by decide +kernel
theorem dL_law_43 : decode cL_law 43 = .ok (.iconst 1, 1) := by decide +kernel
theorem dL_law_44 : decode cL_law 44 = .ok (.iastore, 1) := by decide +kernel
theorem dL_law_45 : decode cL_law 45 = .ok (.iconst 0, 1) := by decide +kernel
theorem dL_law_46 : decode cL_law 46 = .ok (.istore 5, 2) := by decide +kernel
theorem dL_law_48 : decode cL_law 48 = .ok (.iload 5, 2) := by decide +kernel
theorem dL_law_50 : decode cL_law 50 = .ok (.iconst 4, 1) := by decide +kernel
theorem dL_law_51 : decode cL_law 51 = .ok (.if_icmp .ge 26, 3) := by decide +kernel
theorem dL_law_54 : decode cL_law 54 = .ok (.aload_n 2, 1) := by decide +kernel
theorem dL_law_55 : decode cL_law 55 = .ok (.bipush 7, 2) := by decide +kernel
theorem dL_law_57 : decode cL_law 57 = .ok (.iload 5, 2) := by decide +kernel
theorem dL_law_59 : decode cL_law 59 = .ok (.imul, 1) := by decide +kernel
theorem dL_law_60 : decode cL_law 60 = .ok (.iconst 1, 1) := by decide +kernel
theorem dL_law_61 : decode cL_law 61 = .ok (.iadd, 1) := by decide +kernel
theorem dL_law_62 : decode cL_law 62 = .ok (.bipush 20, 2) := by decide +kernel
theorem dL_law_64 : decode cL_law 64 = .ok (.bipush 10, 2) := by decide +kernel
theorem dL_law_66 : decode cL_law 66 = .ok (.iload 5, 2) := by decide +kernel
theorem dL_law_68 : decode cL_law 68 = .ok (.imul, 1) := by decide +kernel
theorem dL_law_69 : decode cL_law 69 = .ok (.iadd, 1) := by decide +kernel
theorem dL_law_70 : decode cL_law 70 = .ok (.iastore, 1) := by decide +kernel
theorem dL_law_71 : decode cL_law 71 = .ok (.iinc 5 1, 3) := by decide +kernel
theorem dL_law_74 : decode cL_law 74 = .ok (.goto (-26), 3) := by decide +kernel
theorem dL_law_77 : decode cL_law 77 = .ok (.iconst 0, 1) := by decide +kernel
theorem dL_law_78 : decode cL_law 78 = .ok (.istore 5, 2) := by decide +kernel
theorem dL_law_80 : decode cL_law 80 = .ok (.iload 5, 2) := by decide +kernel
theorem dL_law_82 : decode cL_law 82 = .ok (.bipush 36, 2) := by decide +kernel
theorem dL_law_84 : decode cL_law 84 = .ok (.if_icmp .ge 1325, 3) := by decide +kernel
theorem dL_law_87 : decode cL_law 87 = .ok (.aload_n 0, 1) := by decide +kernel
theorem dL_law_88 : decode cL_law 88 = .ok (.iload 5, 2) := by decide +kernel
theorem dL_law_90 : decode cL_law 90 = .ok (.invokestatic 64, 3) := by decide +kernel
theorem dL_law_93 : decode cL_law 93 = .ok (.istore 6, 2) := by decide +kernel
theorem dL_law_95 : decode cL_law 95 = .ok (.iload 6, 2) := by decide +kernel
theorem dL_law_97 : decode cL_law 97 = .ok (.iconst 5, 1) := by decide +kernel
theorem dL_law_98 : decode cL_law 98 = .ok (.ishr, 1) := by decide +kernel
theorem dL_law_99 : decode cL_law 99 = .ok (.iconst 4, 1) := by decide +kernel
theorem dL_law_100 : decode cL_law 100 = .ok (.invokestatic 33, 3) := by decide +kernel
theorem dL_law_103 : decode cL_law 103 = .ok (.istore 7, 2) := by decide +kernel
theorem dL_law_105 : decode cL_law 105 = .ok (.iconst 1, 1) := by decide +kernel
theorem dL_law_106 : decode cL_law 106 = .ok (.istore 8, 2) := by decide +kernel
theorem dL_law_108 : decode cL_law 108 = .ok (.iload 6, 2) := by decide +kernel
theorem dL_law_110 : decode cL_law 110 = .ok (.bipush 14, 2) := by decide +kernel
theorem dL_law_112 : decode cL_law 112 = .ok (.invokestatic 33, 3) := by decide +kernel
theorem dL_law_115 : decode cL_law 115 = .ok (.tableswitch 754 0 8 #[49, 132, 199, 254, 302, 302, 500, 591, 633], 49) := by decide +kernel
theorem dL_law_164 : decode cL_law 164 = .ok (.bipush 10, 2) := by decide +kernel
theorem dL_law_166 : decode cL_law 166 = .ok (.iload 6, 2) := by decide +kernel
theorem dL_law_168 : decode cL_law 168 = .ok (.bipush 7, 2) := by decide +kernel
theorem dL_law_170 : decode cL_law 170 = .ok (.ishr, 1) := by decide +kernel
theorem dL_law_171 : decode cL_law 171 = .ok (.iload 6, 2) := by decide +kernel
theorem dL_law_173 : decode cL_law 173 = .ok (.bipush 25, 2) := by decide +kernel
theorem dL_law_175 : decode cL_law 175 = .ok (.ishr, 1) := by decide +kernel
theorem dL_law_176 : decode cL_law 176 = .ok (.iconst 2, 1) := by decide +kernel
theorem dL_law_177 : decode cL_law 177 = .ok (.invokestatic 33, 3) := by decide +kernel
theorem dL_law_180 : decode cL_law 180 = .ok (.ifCond .ne 8, 3) := by decide +kernel
theorem dL_law_183 : decode cL_law 183 = .ok (.bipush 51, 2) := by decide +kernel
theorem dL_law_185 : decode cL_law 185 = .ok (.goto 5, 3) := by decide +kernel
theorem dL_law_188 : decode cL_law 188 = .ok (.bipush 6, 2) := by decide +kernel
theorem dL_law_190 : decode cL_law 190 = .ok (.invokestatic 33, 3) := by decide +kernel
theorem dL_law_193 : decode cL_law 193 = .ok (.iadd, 1) := by decide +kernel
theorem dL_law_194 : decode cL_law 194 = .ok (.istore 9, 2) := by decide +kernel
theorem dL_law_196 : decode cL_law 196 = .ok (.aload_n 1, 1) := by decide +kernel
theorem dL_law_197 : decode cL_law 197 = .ok (.iload 7, 2) := by decide +kernel
theorem dL_law_199 : decode cL_law 199 = .ok (.iload 9, 2) := by decide +kernel
theorem dL_law_201 : decode cL_law 201 = .ok (.invokevirtual 67, 3) := by decide +kernel
theorem dL_law_204 : decode cL_law 204 = .ok (.aload_n 2, 1) := by decide +kernel
theorem dL_law_205 : decode cL_law 205 = .ok (.bipush 7, 2) := by decide +kernel
theorem dL_law_207 : decode cL_law 207 = .ok (.iload 7, 2) := by decide +kernel
theorem dL_law_209 : decode cL_law 209 = .ok (.imul, 1) := by decide +kernel
theorem dL_law_210 : decode cL_law 210 = .ok (.iconst 1, 1) := by decide +kernel
theorem dL_law_211 : decode cL_law 211 = .ok (.iadd, 1) := by decide +kernel
theorem dL_law_212 : decode cL_law 212 = .ok (.iaload, 1) := by decide +kernel
theorem dL_law_213 : decode cL_law 213 = .ok (.if_icmp .ne 7, 3) := by decide +kernel
theorem dL_law_216 : decode cL_law 216 = .ok (.iconst 1, 1) := by decide +kernel
theorem dL_law_217 : decode cL_law 217 = .ok (.goto 4, 3) := by decide +kernel
theorem dL_law_220 : decode cL_law 220 = .ok (.iconst 0, 1) := by decide +kernel
theorem dL_law_221 : decode cL_law 221 = .ok (.istore 8, 2) := by decide +kernel
theorem dL_law_223 : decode cL_law 223 = .ok (.aload_n 2, 1) := by decide +kernel
theorem dL_law_224 : decode cL_law 224 = .ok (.bipush 7, 2) := by decide +kernel
theorem dL_law_226 : decode cL_law 226 = .ok (.iload 7, 2) := by decide +kernel
theorem dL_law_228 : decode cL_law 228 = .ok (.imul, 1) := by decide +kernel
theorem dL_law_229 : decode cL_law 229 = .ok (.iconst 1, 1) := by decide +kernel
theorem dL_law_230 : decode cL_law 230 = .ok (.iadd, 1) := by decide +kernel
theorem dL_law_231 : decode cL_law 231 = .ok (.iload 9, 2) := by decide +kernel
theorem dL_law_233 : decode cL_law 233 = .ok (.iastore, 1) := by decide +kernel
theorem dL_law_234 : decode cL_law 234 = .ok (.aload_n 2, 1) := by decide +kernel
theorem dL_law_235 : decode cL_law 235 = .ok (.bipush 7, 2) := by decide +kernel
theorem dL_law_237 : decode cL_law 237 = .ok (.iload 7, 2) := by decide +kernel
theorem dL_law_239 : decode cL_law 239 = .ok (.imul, 1) := by decide +kernel
theorem dL_law_240 : decode cL_law 240 = .ok (.iconst 2, 1) := by decide +kernel
theorem dL_law_241 : decode cL_law 241 = .ok (.iadd, 1) := by decide +kernel
theorem dL_law_242 : decode cL_law 242 = .ok (.iconst 0, 1) := by decide +kernel
theorem dL_law_243 : decode cL_law 243 = .ok (.iastore, 1) := by decide +kernel
theorem dL_law_244 : decode cL_law 244 = .ok (.goto 706, 3) := by decide +kernel
theorem dL_law_247 : decode cL_law 247 = .ok (.aload_n 2, 1) := by decide +kernel
theorem dL_law_248 : decode cL_law 248 = .ok (.bipush 7, 2) := by decide +kernel
theorem dL_law_250 : decode cL_law 250 = .ok (.iload 7, 2) := by decide +kernel
theorem dL_law_252 : decode cL_law 252 = .ok (.imul, 1) := by decide +kernel
theorem dL_law_253 : decode cL_law 253 = .ok (.iconst 3, 1) := by decide +kernel
theorem dL_law_254 : decode cL_law 254 = .ok (.iadd, 1) := by decide +kernel
theorem dL_law_255 : decode cL_law 255 = .ok (.dup2, 1) := by decide +kernel
theorem dL_law_256 : decode cL_law 256 = .ok (.iaload, 1) := by decide +kernel
theorem dL_law_257 : decode cL_law 257 = .ok (.aload_n 2, 1) := by decide +kernel
theorem dL_law_258 : decode cL_law 258 = .ok (.bipush 7, 2) := by decide +kernel
theorem dL_law_260 : decode cL_law 260 = .ok (.iload 7, 2) := by decide +kernel
theorem dL_law_262 : decode cL_law 262 = .ok (.imul, 1) := by decide +kernel
theorem dL_law_263 : decode cL_law 263 = .ok (.iconst 3, 1) := by decide +kernel
theorem dL_law_264 : decode cL_law 264 = .ok (.iadd, 1) := by decide +kernel
theorem dL_law_265 : decode cL_law 265 = .ok (.iaload, 1) := by decide +kernel
theorem dL_law_266 : decode cL_law 266 = .ok (.ifCond .le 7, 3) := by decide +kernel
theorem dL_law_269 : decode cL_law 269 = .ok (.iconst 1, 1) := by decide +kernel
theorem dL_law_270 : decode cL_law 270 = .ok (.goto 4, 3) := by decide +kernel
theorem dL_law_273 : decode cL_law 273 = .ok (.iconst 0, 1) := by decide +kernel
theorem dL_law_274 : decode cL_law 274 = .ok (.isub, 1) := by decide +kernel
theorem dL_law_275 : decode cL_law 275 = .ok (.iastore, 1) := by decide +kernel
theorem dL_law_276 : decode cL_law 276 = .ok (.aload_n 2, 1) := by decide +kernel
theorem dL_law_277 : decode cL_law 277 = .ok (.bipush 7, 2) := by decide +kernel
theorem dL_law_279 : decode cL_law 279 = .ok (.iload 7, 2) := by decide +kernel
theorem dL_law_281 : decode cL_law 281 = .ok (.imul, 1) := by decide +kernel
theorem dL_law_282 : decode cL_law 282 = .ok (.iconst 2, 1) := by decide +kernel
theorem dL_law_283 : decode cL_law 283 = .ok (.iadd, 1) := by decide +kernel
theorem dL_law_284 : decode cL_law 284 = .ok (.iconst 0, 1) := by decide +kernel
theorem dL_law_285 : decode cL_law 285 = .ok (.iastore, 1) := by decide +kernel
theorem dL_law_286 : decode cL_law 286 = .ok (.aload_n 1, 1) := by decide +kernel
theorem dL_law_287 : decode cL_law 287 = .ok (.iload 7, 2) := by decide +kernel
theorem dL_law_289 : decode cL_law 289 = .ok (.invokevirtual 70, 3) := by decide +kernel
theorem dL_law_292 : decode cL_law 292 = .ok (.aload_n 2, 1) := by decide +kernel
theorem dL_law_293 : decode cL_law 293 = .ok (.bipush 7, 2) := by decide +kernel
theorem dL_law_295 : decode cL_law 295 = .ok (.iload 7, 2) := by decide +kernel
theorem dL_law_297 : decode cL_law 297 = .ok (.imul, 1) := by decide +kernel
theorem dL_law_298 : decode cL_law 298 = .ok (.iconst 3, 1) := by decide +kernel
