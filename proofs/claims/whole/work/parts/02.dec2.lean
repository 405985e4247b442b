theorem dX9_fits_68 : decode cX9_fits 68 = .ok (.invokevirtual 109, 3) := by decide +kernel
theorem dX9_fits_71 : decode cX9_fits 71 = .ok (.iload_n 3, 1) := by decide +kernel
theorem dX9_fits_72 : decode cX9_fits 72 = .ok (.bipush 100, 2) := by decide +kernel
theorem dX9_fits_74 : decode cX9_fits 74 = .ok (.irem, 1) := by decide +kernel
theorem dX9_fits_75 : decode cX9_fits 75 = .ok (.if_icmp .ge 5, 3) := by decide +kernel
theorem dX9_fits_78 : decode cX9_fits 78 = .ok (.iconst 0, 1) := by decide +kernel
theorem dX9_fits_79 : decode cX9_fits 79 = .ok (.ireturn, 1) := by decide +kernel
theorem dX9_fits_80 : decode cX9_fits 80 = .ok (.iload 4, 2) := by decide +kernel
theorem dX9_fits_82 : decode cX9_fits 82 = .ok (.sipush 10000, 3) := by decide +kernel
theorem dX9_fits_85 : decode cX9_fits 85 = .ok (.idiv, 1) := by decide +kernel
theorem dX9_fits_86 : decode cX9_fits 86 = .ok (.iload_n 2, 1) := by decide +kernel
theorem dX9_fits_87 : decode cX9_fits 87 = .ok (.bipush 20, 2) := by decide +kernel
theorem dX9_fits_89 : decode cX9_fits 89 = .ok (.idiv, 1) := by decide +kernel
theorem dX9_fits_90 : decode cX9_fits 90 = .ok (.iconst 4, 1) := by decide +kernel
theorem dX9_fits_91 : decode cX9_fits 91 = .ok (.irem, 1) := by decide +kernel
theorem dX9_fits_92 : decode cX9_fits 92 = .ok (.ishr, 1) := by decide +kernel
theorem dX9_fits_93 : decode cX9_fits 93 = .ok (.iconst 1, 1) := by decide +kernel
theorem dX9_fits_94 : decode cX9_fits 94 = .ok (.iand, 1) := by decide +kernel
theorem dX9_fits_95 : decode cX9_fits 95 = .ok (.ifCond .eq 22, 3) := by decide +kernel
theorem dX9_fits_98 : decode cX9_fits 98 = .ok (.iload 4, 2) := by decide +kernel
theorem dX9_fits_100 : decode cX9_fits 100 = .ok (.bipush 100, 2) := by decide +kernel
theorem dX9_fits_102 : decode cX9_fits 102 = .ok (.idiv, 1) := by decide +kernel
theorem dX9_fits_103 : decode cX9_fits 103 = .ok (.bipush 100, 2) := by decide +kernel
theorem dX9_fits_105 : decode cX9_fits 105 = .ok (.irem, 1) := by decide +kernel
theorem dX9_fits_106 : decode cX9_fits 106 = .ok (.iload_n 2, 1) := by decide +kernel
theorem dX9_fits_107 : decode cX9_fits 107 = .ok (.iconst 5, 1) := by decide +kernel
theorem dX9_fits_108 : decode cX9_fits 108 = .ok (.idiv, 1) := by decide +kernel
theorem dX9_fits_109 : decode cX9_fits 109 = .ok (.iconst 4, 1) := by decide +kernel
theorem dX9_fits_110 : decode cX9_fits 110 = .ok (.irem, 1) := by decide +kernel
theorem dX9_fits_111 : decode cX9_fits 111 = .ok (.ishr, 1) := by decide +kernel
theorem dX9_fits_112 : decode cX9_fits 112 = .ok (.iconst 1, 1) := by decide +kernel
theorem dX9_fits_113 : decode cX9_fits 113 = .ok (.iand, 1) := by decide +kernel
theorem dX9_fits_114 : decode cX9_fits 114 = .ok (.ifCond .ne 5, 3) := by decide +kernel
theorem dX9_fits_117 : decode cX9_fits 117 = .ok (.iconst 0, 1) := by decide +kernel
theorem dX9_fits_118 : decode cX9_fits 118 = .ok (.ireturn, 1) := by decide +kernel
theorem dX9_fits_119 : decode cX9_fits 119 = .ok (.iload_n 2, 1) := by decide +kernel
theorem dX9_fits_120 : decode cX9_fits 120 = .ok (.iconst 5, 1) := by decide +kernel
theorem dX9_fits_121 : decode cX9_fits 121 = .ok (.irem, 1) := by decide +kernel
theorem dX9_fits_122 : decode cX9_fits 122 = .ok (.iload 4, 2) := by decide +kernel
theorem dX9_fits_124 : decode cX9_fits 124 = .ok (.bipush 10, 2) := by decide +kernel
theorem dX9_fits_126 : decode cX9_fits 126 = .ok (.idiv, 1) := by decide +kernel
theorem dX9_fits_127 : decode cX9_fits 127 = .ok (.bipush 10, 2) := by decide +kernel
theorem dX9_fits_129 : decode cX9_fits 129 = .ok (.irem, 1) := by decide +kernel
theorem dX9_fits_130 : decode cX9_fits 130 = .ok (.iload 4, 2) := by decide +kernel
theorem dX9_fits_132 : decode cX9_fits 132 = .ok (.bipush 10, 2) := by decide +kernel
theorem dX9_fits_134 : decode cX9_fits 134 = .ok (.irem, 1) := by decide +kernel
theorem dX9_fits_135 : decode cX9_fits 135 = .ok (.invokestatic 80, 3) := by decide +kernel
theorem dX9_fits_138 : decode cX9_fits 138 = .ok (.ireturn, 1) := by decide +kernel
theorem dX9_decides_0 : decode cX9_decides 0 = .ok (.iconst 0, 1) := by decide +kernel
theorem dX9_decides_1 : decode cX9_decides 1 = .ok (.istore_n 3, 1) := by decide +kernel
theorem dX9_decides_2 : decode cX9_decides 2 = .ok (.iload_n 3, 1) := by decide +kernel
theorem dX9_decides_3 : decode cX9_decides 3 = .ok (.aload_n 0, 1) := by decide +kernel
theorem dX9_decides_4 : decode cX9_decides 4 = .ok (.getfield 31, 3) := by decide +kernel
theorem dX9_decides_7 : decode cX9_decides 7 = .ok (.iload_n 1, 1) := by decide +kernel
theorem dX9_decides_8 : decode cX9_decides 8 = .ok (.iaload, 1) := by decide +kernel
theorem dX9_decides_9 : decode cX9_decides 9 = .ok (.if_icmp .ge 25, 3) := by decide +kernel
theorem dX9_decides_12 : decode cX9_decides 12 = .ok (.aload_n 0, 1) := by decide +kernel
theorem dX9_decides_13 : decode cX9_decides 13 = .ok (.bipush 12, 2) := by decide +kernel
theorem dX9_decides_15 : decode cX9_decides 15 = .ok (.iload_n 1, 1) := by decide +kernel
theorem dX9_decides_16 : decode cX9_decides 16 = .ok (.imul, 1) := by decide +kernel
theorem dX9_decides_17 : decode cX9_decides 17 = .ok (.iload_n 3, 1) := by decide +kernel
theorem dX9_decides_18 : decode cX9_decides 18 = .ok (.iadd, 1) := by decide +kernel
theorem dX9_decides_19 : decode cX9_decides 19 = .ok (.iload_n 2, 1) := by decide +kernel
theorem dX9_decides_20 : decode cX9_decides 20 = .ok (.invokevirtual 112, 3) := by decide +kernel
theorem dX9_decides_23 : decode cX9_decides 23 = .ok (.ifCond .eq 5, 3) := by decide +kernel
theorem dX9_decides_26 : decode cX9_decides 26 = .ok (.iload_n 3, 1) := by decide +kernel
theorem dX9_decides_27 : decode cX9_decides 27 = .ok (.ireturn, 1) := by decide +kernel
theorem dX9_decides_28 : decode cX9_decides 28 = .ok (.iinc 3 1, 3) := by decide +kernel
theorem dX9_decides_31 : decode cX9_decides 31 = .ok (.goto (-29), 3) := by decide +kernel
theorem dX9_decides_34 : decode cX9_decides 34 = .ok (.iconst (-1), 1) := by decide +kernel
theorem dX9_decides_35 : decode cX9_decides 35 = .ok (.ireturn, 1) := by decide +kernel
theorem dX9_isLet_0 : decode cX9_isLet 0 = .ok (.aload_n 0, 1) := by decide +kernel
theorem dX9_isLet_1 : decode cX9_isLet 1 = .ok (.iload_n 1, 1) := by decide +kernel
theorem dX9_isLet_2 : decode cX9_isLet 2 = .ok (.iload_n 2, 1) := by decide +kernel
theorem dX9_isLet_3 : decode cX9_isLet 3 = .ok (.invokevirtual 116, 3) := by decide +kernel
theorem dX9_isLet_6 : decode cX9_isLet 6 = .ok (.istore_n 3, 1) := by decide +kernel
theorem dX9_isLet_7 : decode cX9_isLet 7 = .ok (.iload_n 3, 1) := by decide +kernel
theorem dX9_isLet_8 : decode cX9_isLet 8 = .ok (.iconst (-1), 1) := by decide +kernel
theorem dX9_isLet_9 : decode cX9_isLet 9 = .ok (.if_icmp .eq 21, 3) := by decide +kernel
theorem dX9_isLet_12 : decode cX9_isLet 12 = .ok (.aload_n 0, 1) := by decide +kernel
theorem dX9_isLet_13 : decode cX9_isLet 13 = .ok (.getfield 40, 3) := by decide +kernel
theorem dX9_isLet_16 : decode cX9_isLet 16 = .ok (.bipush 12, 2) := by decide +kernel
theorem dX9_isLet_18 : decode cX9_isLet 18 = .ok (.iload_n 1, 1) := by decide +kernel
theorem dX9_isLet_19 : decode cX9_isLet 19 = .ok (.imul, 1) := by decide +kernel
theorem dX9_isLet_20 : decode cX9_isLet 20 = .ok (.iload_n 3, 1) := by decide +kernel
theorem dX9_isLet_21 : decode cX9_isLet 21 = .ok (.iadd, 1) := by decide +kernel
theorem dX9_isLet_22 : decode cX9_isLet 22 = .ok (.iaload, 1) := by decide +kernel
theorem dX9_isLet_23 : decode cX9_isLet 23 = .ok (.ifCond .ne 7, 3) := by decide +kernel
theorem dX9_isLet_26 : decode cX9_isLet 26 = .ok (.iconst 1, 1) := by decide +kernel
theorem dX9_isLet_27 : decode cX9_isLet 27 = .ok (.goto 4, 3) := by decide +kernel
theorem dX9_isLet_30 : decode cX9_isLet 30 = .ok (.iconst 0, 1) := by decide +kernel
theorem dX9_isLet_31 : decode cX9_isLet 31 = .ok (.ireturn, 1) := by decide +kernel
theorem dX9_answer_0 : decode cX9_answer 0 = .ok (.aload_n 0, 1) := by decide +kernel
theorem dX9_answer_1 : decode cX9_answer 1 = .ok (.iload_n 1, 1) := by decide +kernel
theorem dX9_answer_2 : decode cX9_answer 2 = .ok (.iload_n 2, 1) := by decide +kernel
theorem dX9_answer_3 : decode cX9_answer 3 = .ok (.invokevirtual 119, 3) := by decide +kernel
theorem dX9_answer_6 : decode cX9_answer 6 = .ok (.ifCond .eq 5, 3) := by decide +kernel
theorem dX9_answer_9 : decode cX9_answer 9 = .ok (.iconst 0, 1) := by decide +kernel
theorem dX9_answer_10 : decode cX9_answer 10 = .ok (.ireturn, 1) := by decide +kernel
theorem dX9_answer_11 : decode cX9_answer 11 = .ok (.aload_n 0, 1) := by decide +kernel
theorem dX9_answer_12 : decode cX9_answer 12 = .ok (.iload_n 1, 1) := by decide +kernel
theorem dX9_answer_13 : decode cX9_answer 13 = .ok (.iload_n 2, 1) := by decide +kernel
theorem dX9_answer_14 : decode cX9_answer 14 = .ok (.bipush 80, 2) := by decide +kernel
theorem dX9_answer_16 : decode cX9_answer 16 = .ok (.iconst 3, 1) := by decide +kernel
theorem dX9_answer_17 : decode cX9_answer 17 = .ok (.iload_n 2, 1) := by decide +kernel
theorem dX9_answer_18 : decode cX9_answer 18 = .ok (.iconst 2, 1) := by decide +kernel
theorem dX9_answer_19 : decode cX9_answer 19 = .ok (.invokestatic 102, 3) := by decide +kernel
theorem dX9_answer_22 : decode cX9_answer 22 = .ok (.isub, 1) := by decide +kernel
theorem dX9_answer_23 : decode cX9_answer 23 = .ok (.imul, 1) := by decide +kernel
theorem dX9_answer_24 : decode cX9_answer 24 = .ok (.iadd, 1) := by decide +kernel
theorem dX9_answer_25 : decode cX9_answer 25 = .ok (.invokevirtual 119, 3) := by decide +kernel
theorem dX9_answer_28 : decode cX9_answer 28 = .ok (.ifCond .eq 7, 3) := by decide +kernel
theorem dX9_answer_31 : decode cX9_answer 31 = .ok (.iconst 1, 1) := by decide +kernel
theorem dX9_answer_32 : decode cX9_answer 32 = .ok (.goto 4, 3) := by decide +kernel
theorem dX9_answer_35 : decode cX9_answer 35 = .ok (.iconst 2, 1) := by decide +kernel
theorem dX9_answer_36 : decode cX9_answer 36 = .ok (.ireturn, 1) := by decide +kernel
theorem dX9_logs_0 : decode cX9_logs 0 = .ok (.aload_n 0, 1) := by decide +kernel
theorem dX9_logs_1 : decode cX9_logs 1 = .ok (.getfield 60, 3) := by decide +kernel
theorem dX9_logs_4 : decode cX9_logs 4 = .ok (.aload_n 0, 1) := by decide +kernel
theorem dX9_logs_5 : decode cX9_logs 5 = .ok (.getfield 122, 3) := by decide +kernel
theorem dX9_logs_8 : decode cX9_logs 8 = .ok (.aload_n 0, 1) := by decide +kernel
theorem dX9_logs_9 : decode cX9_logs 9 = .ok (.getfield 84, 3) := by decide +kernel
theorem dX9_logs_12 : decode cX9_logs 12 = .ok (.iastore, 1) := by decide +kernel
theorem dX9_logs_13 : decode cX9_logs 13 = .ok (.aload_n 0, 1) := by decide +kernel
theorem dX9_logs_14 : decode cX9_logs 14 = .ok (.getfield 63, 3) := by decide +kernel
theorem dX9_logs_17 : decode cX9_logs 17 = .ok (.aload_n 0, 1) := by decide +kernel
theorem dX9_logs_18 : decode cX9_logs 18 = .ok (.getfield 122, 3) := by decide +kernel
theorem dX9_logs_21 : decode cX9_logs 21 = .ok (.iload_n 1, 1) := by decide +kernel
theorem dX9_logs_22 : decode cX9_logs 22 = .ok (.iastore, 1) := by decide +kernel
theorem dX9_logs_23 : decode cX9_logs 23 = .ok (.aload_n 0, 1) := by decide +kernel
theorem dX9_logs_24 : decode cX9_logs 24 = .ok (.getfield 66, 3) := by decide +kernel
theorem dX9_logs_27 : decode cX9_logs 27 = .ok (.aload_n 0, 1) := by decide +kernel
theorem dX9_logs_28 : decode cX9_logs 28 = .ok (.getfield 122, 3) := by decide +kernel
theorem dX9_logs_31 : decode cX9_logs 31 = .ok (.aload_n 0, 1) := by decide +kernel
theorem dX9_logs_32 : decode cX9_logs 32 = .ok (.iload_n 1, 1) := by decide +kernel
theorem dX9_logs_33 : decode cX9_logs 33 = .ok (.invokevirtual 125, 3) := by decide +kernel
theorem dX9_logs_36 : decode cX9_logs 36 = .ok (.iastore, 1) := by decide +kernel
theorem dX9_logs_37 : decode cX9_logs 37 = .ok (.aload_n 0, 1) := by decide +kernel
theorem dX9_logs_38 : decode cX9_logs 38 = .ok (.getfield 69, 3) := by decide +kernel
theorem dX9_logs_41 : decode cX9_logs 41 = .ok (.aload_n 0, 1) := by decide +kernel
theorem dX9_logs_42 : decode cX9_logs 42 = .ok (.getfield 122, 3) := by decide +kernel
theorem dX9_logs_45 : decode cX9_logs 45 = .ok (.iload_n 2, 1) := by decide +kernel
theorem dX9_logs_46 : decode cX9_logs 46 = .ok (.iastore, 1) := by decide +kernel
theorem dX9_logs_47 : decode cX9_logs 47 = .ok (.aload_n 0, 1) := by decide +kernel
theorem dX9_logs_48 : decode cX9_logs 48 = .ok (.getfield 72, 3) := by decide +kernel
theorem dX9_logs_51 : decode cX9_logs 51 = .ok (.aload_n 0, 1) := by decide +kernel
theorem dX9_logs_52 : decode cX9_logs 52 = .ok (.getfield 122, 3) := by decide +kernel
theorem dX9_logs_55 : decode cX9_logs 55 = .ok (.iload_n 3, 1) := by decide +kernel
theorem dX9_logs_56 : decode cX9_logs 56 = .ok (.iastore, 1) := by decide +kernel
theorem dX9_logs_57 : decode cX9_logs 57 = .ok (.aload_n 0, 1) := by decide +kernel
theorem dX9_logs_58 : decode cX9_logs 58 = .ok (.dup, 1) := by decide +kernel
theorem dX9_logs_59 : decode cX9_logs 59 = .ok (.getfield 122, 3) := by decide +kernel
theorem dX9_logs_62 : decode cX9_logs 62 = .ok (.iconst 1, 1) := by decide +kernel
theorem dX9_logs_63 : decode cX9_logs 63 = .ok (.iadd, 1) := by decide +kernel
theorem dX9_logs_64 : decode cX9_logs 64 = .ok (.putfield 122, 3) := by decide +kernel
theorem dX9_logs_67 : decode cX9_logs 67 = .ok (.iload_n 2, 1) := by decide +kernel
theorem dX9_logs_68 : decode cX9_logs 68 = .ok (.ifCond .ne 13, 3) := by decide +kernel
theorem dX9_logs_71 : decode cX9_logs 71 = .ok (.aload_n 0, 1) := by decide +kernel
theorem dX9_logs_72 : decode cX9_logs 72 = .ok (.dup, 1) := by decide +kernel
theorem dX9_logs_73 : decode cX9_logs 73 = .ok (.getfield 128, 3) := by decide +kernel
theorem dX9_logs_76 : decode cX9_logs 76 = .ok (.iconst 1, 1) := by decide +kernel
theorem dX9_logs_77 : decode cX9_logs 77 = .ok (.iadd, 1) := by decide +kernel
theorem dX9_logs_78 : decode cX9_logs 78 = .ok (.putfield 128, 3) := by decide +kernel
theorem dX9_logs_81 : decode cX9_logs 81 = .ok (.iload_n 2, 1) := by decide +kernel
theorem dX9_logs_82 : decode cX9_logs 82 = .ok (.ireturn, 1) := by decide +kernel
theorem dX9_ask_0 : decode cX9_ask 0 = .ok (.iload_n 1, 1) := by decide +kernel
theorem dX9_ask_1 : decode cX9_ask 1 = .ok (.invokestatic 131, 3) := by decide +kernel
theorem dX9_ask_4 : decode cX9_ask 4 = .ok (.ifCond .eq 35, 3) := by decide +kernel
theorem dX9_ask_7 : decode cX9_ask 7 = .ok (.aload_n 0, 1) := by decide +kernel
theorem dX9_ask_8 : decode cX9_ask 8 = .ok (.getfield 122, 3) := by decide +kernel
theorem dX9_ask_11 : decode cX9_ask 11 = .ok (.sipush 300, 3) := by decide +kernel
theorem dX9_ask_14 : decode cX9_ask 14 = .ok (.if_icmp .ge 25, 3) := by decide +kernel
theorem dX9_ask_17 : decode cX9_ask 17 = .ok (.aload_n 0, 1) := by decide +kernel
theorem dX9_ask_18 : decode cX9_ask 18 = .ok (.iload_n 1, 1) := by decide +kernel
theorem dX9_ask_19 : decode cX9_ask 19 = .ok (.aload_n 0, 1) := by decide +kernel
theorem dX9_ask_20 : decode cX9_ask 20 = .ok (.aload_n 0, 1) := by decide +kernel
theorem dX9_ask_21 : decode cX9_ask 21 = .ok (.getfield 134, 3) := by decide +kernel
theorem dX9_ask_24 : decode cX9_ask 24 = .ok (.aload_n 0, 1) := by decide +kernel
theorem dX9_ask_25 : decode cX9_ask 25 = .ok (.iload_n 1, 1) := by decide +kernel
theorem dX9_ask_26 : decode cX9_ask 26 = .ok (.invokevirtual 125, 3) := by decide +kernel
theorem dX9_ask_29 : decode cX9_ask 29 = .ok (.invokevirtual 137, 3) := by decide +kernel
theorem dX9_ask_32 : decode cX9_ask 32 = .ok (.iconst (-1), 1) := by decide +kernel
theorem dX9_ask_33 : decode cX9_ask 33 = .ok (.invokevirtual 140, 3) := by decide +kernel
theorem dX9_ask_36 : decode cX9_ask 36 = .ok (.goto 4, 3) := by decide +kernel
theorem dX9_ask_39 : decode cX9_ask 39 = .ok (.iconst (-1), 1) := by decide +kernel
theorem dX9_ask_40 : decode cX9_ask 40 = .ok (.ireturn, 1) := by decide +kernel
theorem dX9_behalf_0 : decode cX9_behalf 0 = .ok (.iload_n 1, 1) := by decide +kernel
theorem dX9_behalf_1 : decode cX9_behalf 1 = .ok (.invokestatic 131, 3) := by decide +kernel
theorem dX9_behalf_4 : decode cX9_behalf 4 = .ok (.ifCond .eq 29, 3) := by decide +kernel
theorem dX9_behalf_7 : decode cX9_behalf 7 = .ok (.iload_n 2, 1) := by decide +kernel
theorem dX9_behalf_8 : decode cX9_behalf 8 = .ok (.invokestatic 88, 3) := by decide +kernel
theorem dX9_behalf_11 : decode cX9_behalf 11 = .ok (.ifCond .eq 22, 3) := by decide +kernel
theorem dX9_behalf_14 : decode cX9_behalf 14 = .ok (.iload_n 2, 1) := by decide +kernel
theorem dX9_behalf_15 : decode cX9_behalf 15 = .ok (.iload_n 1, 1) := by decide +kernel
theorem dX9_behalf_16 : decode cX9_behalf 16 = .ok (.sipush 1000, 3) := by decide +kernel
theorem dX9_behalf_19 : decode cX9_behalf 19 = .ok (.idiv, 1) := by decide +kernel
theorem dX9_behalf_20 : decode cX9_behalf 20 = .ok (.if_icmp .eq 13, 3) := by decide +kernel
theorem dX9_behalf_23 : decode cX9_behalf 23 = .ok (.aload_n 0, 1) := by decide +kernel
theorem dX9_behalf_24 : decode cX9_behalf 24 = .ok (.getfield 122, 3) := by decide +kernel
theorem dX9_behalf_27 : decode cX9_behalf 27 = .ok (.sipush 300, 3) := by decide +kernel
theorem dX9_behalf_30 : decode cX9_behalf 30 = .ok (.if_icmp .ne 5, 3) := by decide +kernel
theorem dX9_behalf_33 : decode cX9_behalf 33 = .ok (.iconst (-1), 1) := by decide +kernel
theorem dX9_behalf_34 : decode cX9_behalf 34 = .ok (.ireturn, 1) := by decide +kernel
theorem dX9_behalf_35 : decode cX9_behalf 35 = .ok (.aload_n 0, 1) := by decide +kernel
theorem dX9_behalf_36 : decode cX9_behalf 36 = .ok (.aload_n 0, 1) := by decide +kernel
theorem dX9_behalf_37 : decode cX9_behalf 37 = .ok (.getfield 134, 3) := by decide +kernel
theorem dX9_behalf_40 : decode cX9_behalf 40 = .ok (.aload_n 0, 1) := by decide +kernel
theorem dX9_behalf_41 : decode cX9_behalf 41 = .ok (.iload_n 1, 1) := by decide +kernel
theorem dX9_behalf_42 : decode cX9_behalf 42 = .ok (.invokevirtual 125, 3) := by decide +kernel
theorem dX9_behalf_45 : decode cX9_behalf 45 = .ok (.invokevirtual 137, 3) := by decide +kernel
theorem dX9_behalf_48 : decode cX9_behalf 48 = .ok (.istore_n 3, 1) := by decide +kernel
theorem dX9_behalf_49 : decode cX9_behalf 49 = .ok (.aload_n 0, 1) := by decide +kernel
theorem dX9_behalf_50 : decode cX9_behalf 50 = .ok (.aload_n 0, 1) := by decide +kernel
theorem dX9_behalf_51 : decode cX9_behalf 51 = .ok (.getfield 134, 3) := by decide +kernel
theorem dX9_behalf_54 : decode cX9_behalf 54 = .ok (.aload_n 0, 1) := by decide +kernel
theorem dX9_behalf_55 : decode cX9_behalf 55 = .ok (.iload_n 2, 1) := by decide +kernel
theorem dX9_behalf_56 : decode cX9_behalf 56 = .ok (.sipush 1000, 3) := by decide +kernel
theorem dX9_behalf_59 : decode cX9_behalf 59 = .ok (.imul, 1) := by decide +kernel
theorem dX9_behalf_60 : decode cX9_behalf 60 = .ok (.iload_n 1, 1) := by decide +kernel
theorem dX9_behalf_61 : decode cX9_behalf 61 = .ok (.sipush 1000, 3) := by decide +kernel
theorem dX9_behalf_64 : decode cX9_behalf 64 = .ok (.irem, 1) := by decide +kernel
theorem dX9_behalf_65 : decode cX9_behalf 65 = .ok (.iadd, 1) := by decide +kernel
theorem dX9_behalf_66 : decode cX9_behalf 66 = .ok (.invokevirtual 125, 3) := by decide +kernel
theorem dX9_behalf_69 : decode cX9_behalf 69 = .ok (.invokevirtual 137, 3) := by decide +kernel
theorem dX9_behalf_72 : decode cX9_behalf 72 = .ok (.istore 4, 2) := by decide +kernel
theorem dX9_behalf_74 : decode cX9_behalf 74 = .ok (.aload_n 0, 1) := by decide +kernel
theorem dX9_behalf_75 : decode cX9_behalf 75 = .ok (.iload_n 1, 1) := by decide +kernel
theorem dX9_behalf_76 : decode cX9_behalf 76 = .ok (.iload_n 3, 1) := by decide +kernel
theorem dX9_behalf_77 : decode cX9_behalf 77 = .ok (.iload 4, 2) := by decide +kernel
theorem dX9_behalf_79 : decode cX9_behalf 79 = .ok (.if_icmp .le 7, 3) := by decide +kernel
theorem dX9_behalf_82 : decode cX9_behalf 82 = .ok (.iload_n 3, 1) := by decide +kernel
theorem dX9_behalf_83 : decode cX9_behalf 83 = .ok (.goto 5, 3) := by decide +kernel
theorem dX9_behalf_86 : decode cX9_behalf 86 = .ok (.iload 4, 2) := by decide +kernel
theorem dX9_behalf_88 : decode cX9_behalf 88 = .ok (.iload_n 2, 1) := by decide +kernel
theorem dX9_behalf_89 : decode cX9_behalf 89 = .ok (.invokevirtual 140, 3) := by decide +kernel
theorem dX9_behalf_92 : decode cX9_behalf 92 = .ok (.ireturn, 1) := by decide +kernel
theorem dX9_why_0 : decode cX9_why 0 = .ok (.iload_n 1, 1) := by decide +kernel
theorem dX9_why_1 : decode cX9_why 1 = .ok (.invokestatic 95, 3) := by decide +kernel
theorem dX9_why_4 : decode cX9_why 4 = .ok (.ifCond .eq 23, 3) := by decide +kernel
theorem dX9_why_7 : decode cX9_why 7 = .ok (.iload_n 2, 1) := by decide +kernel
theorem dX9_why_8 : decode cX9_why 8 = .ok (.invokestatic 131, 3) := by decide +kernel
theorem dX9_why_11 : decode cX9_why 11 = .ok (.ifCond .eq 16, 3) := by decide +kernel
theorem dX9_why_14 : decode cX9_why 14 = .ok (.aload_n 0, 1) := by decide +kernel
theorem dX9_why_15 : decode cX9_why 15 = .ok (.iload_n 1, 1) := by decide +kernel
theorem dX9_why_16 : decode cX9_why 16 = .ok (.aload_n 0, 1) := by decide +kernel
theorem dX9_why_17 : decode cX9_why 17 = .ok (.iload_n 2, 1) := by decide +kernel
theorem dX9_why_18 : decode cX9_why 18 = .ok (.invokevirtual 125, 3) := by decide +kernel
theorem dX9_why_21 : decode cX9_why 21 = .ok (.invokevirtual 116, 3) := by decide +kernel
theorem dX9_why_24 : decode cX9_why 24 = .ok (.goto 4, 3) := by decide +kernel
theorem dX9_why_27 : decode cX9_why 27 = .ok (.iconst (-1), 1) := by decide +kernel
theorem dX9_why_28 : decode cX9_why 28 = .ok (.ireturn, 1) := by decide +kernel
theorem dX9_facts_0 : decode cX9_facts 0 = .ok (.iload_n 1, 1) := by decide +kernel
theorem dX9_facts_1 : decode cX9_facts 1 = .ok (.invokestatic 131, 3) := by decide +kernel
theorem dX9_facts_4 : decode cX9_facts 4 = .ok (.ifCond .eq 11, 3) := by decide +kernel
theorem dX9_facts_7 : decode cX9_facts 7 = .ok (.aload_n 0, 1) := by decide +kernel
theorem dX9_facts_8 : decode cX9_facts 8 = .ok (.iload_n 1, 1) := by decide +kernel
theorem dX9_facts_9 : decode cX9_facts 9 = .ok (.invokevirtual 125, 3) := by decide +kernel
theorem dX9_facts_12 : decode cX9_facts 12 = .ok (.goto 4, 3) := by decide +kernel
theorem dX9_facts_15 : decode cX9_facts 15 = .ok (.iconst (-1), 1) := by decide +kernel
theorem dX9_facts_16 : decode cX9_facts 16 = .ok (.ireturn, 1) := by decide +kernel
theorem dX9_judge_0 : decode cX9_judge 0 = .ok (.iload_n 1, 1) := by decide +kernel
theorem dX9_judge_1 : decode cX9_judge 1 = .ok (.invokestatic 144, 3) := by decide +kernel
theorem dX9_judge_4 : decode cX9_judge 4 = .ok (.ifCond .eq 23, 3) := by decide +kernel
theorem dX9_judge_7 : decode cX9_judge 7 = .ok (.iload_n 2, 1) := by decide +kernel
theorem dX9_judge_8 : decode cX9_judge 8 = .ok (.iconst 0, 1) := by decide +kernel
theorem dX9_judge_9 : decode cX9_judge 9 = .ok (.bipush 50, 2) := by decide +kernel
theorem dX9_judge_11 : decode cX9_judge 11 = .ok (.invokestatic 80, 3) := by decide +kernel
theorem dX9_judge_14 : decode cX9_judge 14 = .ok (.ifCond .eq 13, 3) := by decide +kernel
theorem dX9_judge_17 : decode cX9_judge 17 = .ok (.iload_n 3, 1) := by decide +kernel
theorem dX9_judge_18 : decode cX9_judge 18 = .ok (.iconst 0, 1) := by decide +kernel
theorem dX9_judge_19 : decode cX9_judge 19 = .ok (.bipush 20, 2) := by decide +kernel
theorem dX9_judge_21 : decode cX9_judge 21 = .ok (.invokestatic 80, 3) := by decide +kernel
theorem dX9_judge_24 : decode cX9_judge 24 = .ok (.ifCond .ne 5, 3) := by decide +kernel
theorem dX9_judge_27 : decode cX9_judge 27 = .ok (.iconst 0, 1) := by decide +kernel
theorem dX9_judge_28 : decode cX9_judge 28 = .ok (.ireturn, 1) := by decide +kernel
theorem dX9_judge_29 : decode cX9_judge 29 = .ok (.aload_n 0, 1) := by decide +kernel
theorem dX9_judge_30 : decode cX9_judge 30 = .ok (.getfield 43, 3) := by decide +kernel
theorem dX9_judge_33 : decode cX9_judge 33 = .ok (.iload_n 1, 1) := by decide +kernel
theorem dX9_judge_34 : decode cX9_judge 34 = .ok (.iload_n 2, 1) := by decide +kernel
theorem dX9_judge_35 : decode cX9_judge 35 = .ok (.iastore, 1) := by decide +kernel
theorem dX9_judge_36 : decode cX9_judge 36 = .ok (.aload_n 0, 1) := by decide +kernel
theorem dX9_judge_37 : decode cX9_judge 37 = .ok (.getfield 46, 3) := by decide +kernel
theorem dX9_judge_40 : decode cX9_judge 40 = .ok (.iload_n 1, 1) := by decide +kernel
theorem dX9_judge_41 : decode cX9_judge 41 = .ok (.iload_n 3, 1) := by decide +kernel
theorem dX9_judge_42 : decode cX9_judge 42 = .ok (.iastore, 1) := by decide +kernel
theorem dX9_judge_43 : decode cX9_judge 43 = .ok (.iconst 1, 1) := by decide +kernel
theorem dX9_judge_44 : decode cX9_judge 44 = .ok (.ireturn, 1) := by decide +kernel
theorem dX9_judged_0 : decode cX9_judged 0 = .ok (.iload_n 1, 1) := by decide +kernel
theorem dX9_judged_1 : decode cX9_judged 1 = .ok (.invokestatic 144, 3) := by decide +kernel
theorem dX9_judged_4 : decode cX9_judged 4 = .ok (.ifCond .eq 10, 3) := by decide +kernel
theorem dX9_judged_7 : decode cX9_judged 7 = .ok (.iload_n 2, 1) := by decide +kernel
theorem dX9_judged_8 : decode cX9_judged 8 = .ok (.invokestatic 131, 3) := by decide +kernel
theorem dX9_judged_11 : decode cX9_judged 11 = .ok (.ifCond .ne 5, 3) := by decide +kernel
theorem dX9_judged_14 : decode cX9_judged 14 = .ok (.iconst (-1), 1) := by decide +kernel
theorem dX9_judged_15 : decode cX9_judged 15 = .ok (.ireturn, 1) := by decide +kernel
theorem dX9_judged_16 : decode cX9_judged 16 = .ok (.sipush 10000, 3) := by decide +kernel
theorem dX9_judged_19 : decode cX9_judged 19 = .ok (.iload_n 1, 1) := by decide +kernel
theorem dX9_judged_20 : decode cX9_judged 20 = .ok (.imul, 1) := by decide +kernel
theorem dX9_judged_21 : decode cX9_judged 21 = .ok (.iload_n 2, 1) := by decide +kernel
theorem dX9_judged_22 : decode cX9_judged 22 = .ok (.iadd, 1) := by decide +kernel
theorem dX9_judged_23 : decode cX9_judged 23 = .ok (.istore_n 3, 1) := by decide +kernel
theorem dX9_judged_24 : decode cX9_judged 24 = .ok (.aload_n 0, 1) := by decide +kernel
theorem dX9_judged_25 : decode cX9_judged 25 = .ok (.getfield 84, 3) := by decide +kernel
theorem dX9_judged_28 : decode cX9_judged 28 = .ok (.aload_n 0, 1) := by decide +kernel
theorem dX9_judged_29 : decode cX9_judged 29 = .ok (.getfield 50, 3) := by decide +kernel
theorem dX9_judged_32 : decode cX9_judged 32 = .ok (.iload_n 3, 1) := by decide +kernel
theorem dX9_judged_33 : decode cX9_judged 33 = .ok (.iaload, 1) := by decide +kernel
theorem dX9_judged_34 : decode cX9_judged 34 = .ok (.isub, 1) := by decide +kernel
theorem dX9_judged_35 : decode cX9_judged 35 = .ok (.aload_n 0, 1) := by decide +kernel
theorem dX9_judged_36 : decode cX9_judged 36 = .ok (.getfield 43, 3) := by decide +kernel
theorem dX9_judged_39 : decode cX9_judged 39 = .ok (.iload_n 1, 1) := by decide +kernel
theorem dX9_judged_40 : decode cX9_judged 40 = .ok (.iaload, 1) := by decide +kernel
theorem dX9_judged_41 : decode cX9_judged 41 = .ok (.if_icmp .gt 20, 3) := by decide +kernel
theorem dX9_judged_44 : decode cX9_judged 44 = .ok (.aload_n 0, 1) := by decide +kernel
theorem dX9_judged_45 : decode cX9_judged 45 = .ok (.dup, 1) := by decide +kernel
theorem dX9_judged_46 : decode cX9_judged 46 = .ok (.getfield 147, 3) := by decide +kernel
theorem dX9_judged_49 : decode cX9_judged 49 = .ok (.iconst 1, 1) := by decide +kernel
theorem dX9_judged_50 : decode cX9_judged 50 = .ok (.iadd, 1) := by decide +kernel
theorem dX9_judged_51 : decode cX9_judged 51 = .ok (.putfield 147, 3) := by decide +kernel
theorem dX9_judged_54 : decode cX9_judged 54 = .ok (.aload_n 0, 1) := by decide +kernel
theorem dX9_judged_55 : decode cX9_judged 55 = .ok (.getfield 53, 3) := by decide +kernel
theorem dX9_judged_58 : decode cX9_judged 58 = .ok (.iload_n 3, 1) := by decide +kernel
theorem dX9_judged_59 : decode cX9_judged 59 = .ok (.iaload, 1) := by decide +kernel
theorem dX9_judged_60 : decode cX9_judged 60 = .ok (.ireturn, 1) := by decide +kernel
theorem dX9_judged_61 : decode cX9_judged 61 = .ok (.aload_n 0, 1) := by decide +kernel
theorem dX9_judged_62 : decode cX9_judged 62 = .ok (.getfield 50, 3) := by decide +kernel
theorem dX9_judged_65 : decode cX9_judged 65 = .ok (.iload_n 3, 1) := by decide +kernel
theorem dX9_judged_66 : decode cX9_judged 66 = .ok (.aload_n 0, 1) := by decide +kernel
theorem dX9_judged_67 : decode cX9_judged 67 = .ok (.getfield 84, 3) := by decide +kernel
theorem dX9_judged_70 : decode cX9_judged 70 = .ok (.iastore, 1) := by decide +kernel
theorem dX9_judged_71 : decode cX9_judged 71 = .ok (.aload_n 0, 1) := by decide +kernel
theorem dX9_judged_72 : decode cX9_judged 72 = .ok (.getfield 53, 3) := by decide +kernel
theorem dX9_judged_75 : decode cX9_judged 75 = .ok (.iload_n 3, 1) := by decide +kernel
theorem dX9_judged_76 : decode cX9_judged 76 = .ok (.aload_n 0, 1) := by decide +kernel
theorem dX9_judged_77 : decode cX9_judged 77 = .ok (.aload_n 0, 1) := by decide +kernel
theorem dX9_judged_78 : decode cX9_judged 78 = .ok (.getfield 134, 3) := by decide +kernel
theorem dX9_judged_81 : decode cX9_judged 81 = .ok (.aload_n 0, 1) := by decide +kernel
theorem dX9_judged_82 : decode cX9_judged 82 = .ok (.iload_n 2, 1) := by decide +kernel
theorem dX9_judged_83 : decode cX9_judged 83 = .ok (.invokevirtual 125, 3) := by decide +kernel
theorem dX9_judged_86 : decode cX9_judged 86 = .ok (.invokevirtual 137, 3) := by decide +kernel
theorem dX9_judged_89 : decode cX9_judged 89 = .ok (.iastore, 1) := by decide +kernel
theorem dX9_judged_90 : decode cX9_judged 90 = .ok (.aload_n 0, 1) := by decide +kernel
theorem dX9_judged_91 : decode cX9_judged 91 = .ok (.getfield 53, 3) := by decide +kernel
theorem dX9_judged_94 : decode cX9_judged 94 = .ok (.iload_n 3, 1) := by decide +kernel
theorem dX9_judged_95 : decode cX9_judged 95 = .ok (.iaload, 1) := by decide +kernel
theorem dX9_judged_96 : decode cX9_judged 96 = .ok (.ireturn, 1) := by decide +kernel
theorem dX9_keeps_0 : decode cX9_keeps 0 = .ok (.iload_n 1, 1) := by decide +kernel
theorem dX9_keeps_1 : decode cX9_keeps 1 = .ok (.invokestatic 144, 3) := by decide +kernel
theorem dX9_keeps_4 : decode cX9_keeps 4 = .ok (.ifCond .ne 5, 3) := by decide +kernel
theorem dX9_keeps_7 : decode cX9_keeps 7 = .ok (.iconst (-1), 1) := by decide +kernel
theorem dX9_keeps_8 : decode cX9_keeps 8 = .ok (.ireturn, 1) := by decide +kernel
theorem dX9_keeps_9 : decode cX9_keeps 9 = .ok (.iconst 0, 1) := by decide +kernel
theorem dX9_keeps_10 : decode cX9_keeps 10 = .ok (.istore_n 2, 1) := by decide +kernel
theorem dX9_keeps_11 : decode cX9_keeps 11 = .ok (.iconst 0, 1) := by decide +kernel
theorem dX9_keeps_12 : decode cX9_keeps 12 = .ok (.istore_n 3, 1) := by decide +kernel
theorem dX9_keeps_13 : decode cX9_keeps 13 = .ok (.iload_n 3, 1) := by decide +kernel
theorem dX9_keeps_14 : decode cX9_keeps 14 = .ok (.sipush 10000, 3) := by decide +kernel
theorem dX9_keeps_17 : decode cX9_keeps 17 = .ok (.if_icmp .ge 43, 3) := by decide +kernel
theorem dX9_keeps_20 : decode cX9_keeps 20 = .ok (.iload_n 2, 1) := by decide +kernel
theorem dX9_keeps_21 : decode cX9_keeps 21 = .ok (.aload_n 0, 1) := by decide +kernel
theorem dX9_keeps_22 : decode cX9_keeps 22 = .ok (.getfield 84, 3) := by decide +kernel
theorem dX9_keeps_25 : decode cX9_keeps 25 = .ok (.aload_n 0, 1) := by decide +kernel
theorem dX9_keeps_26 : decode cX9_keeps 26 = .ok (.getfield 50, 3) := by decide +kernel
theorem dX9_keeps_29 : decode cX9_keeps 29 = .ok (.sipush 10000, 3) := by decide +kernel
theorem dX9_keeps_32 : decode cX9_keeps 32 = .ok (.iload_n 1, 1) := by decide +kernel
theorem dX9_keeps_33 : decode cX9_keeps 33 = .ok (.imul, 1) := by decide +kernel
theorem dX9_keeps_34 : decode cX9_keeps 34 = .ok (.iload_n 3, 1) := by decide +kernel
theorem dX9_keeps_35 : decode cX9_keeps 35 = .ok (.iadd, 1) := by decide +kernel
theorem dX9_keeps_36 : decode cX9_keeps 36 = .ok (.iaload, 1) := by decide +kernel
theorem dX9_keeps_37 : decode cX9_keeps 37 = .ok (.isub, 1) := by decide +kernel
theorem dX9_keeps_38 : decode cX9_keeps 38 = .ok (.aload_n 0, 1) := by decide +kernel
theorem dX9_keeps_39 : decode cX9_keeps 39 = .ok (.getfield 43, 3) := by decide +kernel
theorem dX9_keeps_42 : decode cX9_keeps 42 = .ok (.iload_n 1, 1) := by decide +kernel
theorem dX9_keeps_43 : decode cX9_keeps 43 = .ok (.iaload, 1) := by decide +kernel
theorem dX9_keeps_44 : decode cX9_keeps 44 = .ok (.if_icmp .gt 7, 3) := by decide +kernel
theorem dX9_keeps_47 : decode cX9_keeps 47 = .ok (.iconst 1, 1) := by decide +kernel
theorem dX9_keeps_48 : decode cX9_keeps 48 = .ok (.goto 4, 3) := by decide +kernel
theorem dX9_keeps_51 : decode cX9_keeps 51 = .ok (.iconst 0, 1) := by decide +kernel
theorem dX9_keeps_52 : decode cX9_keeps 52 = .ok (.iadd, 1) := by decide +kernel
theorem dX9_keeps_53 : decode cX9_keeps 53 = .ok (.istore_n 2, 1) := by decide +kernel
theorem dX9_keeps_54 : decode cX9_keeps 54 = .ok (.iinc 3 1, 3) := by decide +kernel
theorem dX9_keeps_57 : decode cX9_keeps 57 = .ok (.goto (-44), 3) := by decide +kernel
theorem dX9_keeps_60 : decode cX9_keeps 60 = .ok (.iload_n 2, 1) := by decide +kernel
theorem dX9_keeps_61 : decode cX9_keeps 61 = .ok (.ireturn, 1) := by decide +kernel
theorem dX9_law_0 : decode cX9_law 0 = .ok (.iload_n 2, 1) := by decide +kernel
theorem dX9_law_1 : decode cX9_law 1 = .ok (.sipush 10000, 3) := by decide +kernel
theorem dX9_law_4 : decode cX9_law 4 = .ok (.idiv, 1) := by decide +kernel
theorem dX9_law_5 : decode cX9_law 5 = .ok (.istore_n 3, 1) := by decide +kernel
theorem dX9_law_6 : decode cX9_law 6 = .ok (.iload_n 2, 1) := by decide +kernel
theorem dX9_law_7 : decode cX9_law 7 = .ok (.bipush 100, 2) := by decide +kernel
theorem dX9_law_9 : decode cX9_law 9 = .ok (.idiv, 1) := by decide +kernel
theorem dX9_law_10 : decode cX9_law 10 = .ok (.bipush 10, 2) := by decide +kernel
theorem dX9_law_12 : decode cX9_law 12 = .ok (.irem, 1) := by decide +kernel
theorem dX9_law_13 : decode cX9_law 13 = .ok (.istore 4, 2) := by decide +kernel
theorem dX9_law_15 : decode cX9_law 15 = .ok (.iload_n 2, 1) := by decide +kernel
theorem dX9_law_16 : decode cX9_law 16 = .ok (.bipush 10, 2) := by decide +kernel
theorem dX9_law_18 : decode cX9_law 18 = .ok (.idiv, 1) := by decide +kernel
theorem dX9_law_19 : decode cX9_law 19 = .ok (.bipush 10, 2) := by decide +kernel
theorem dX9_law_21 : decode cX9_law 21 = .ok (.irem, 1) := by decide +kernel
theorem dX9_law_22 : decode cX9_law 22 = .ok (.istore 5, 2) := by decide +kernel
theorem dX9_law_24 : decode cX9_law 24 = .ok (.iload_n 1, 1) := by decide +kernel
theorem dX9_law_25 : decode cX9_law 25 = .ok (.invokestatic 95, 3) := by decide +kernel
theorem dX9_law_28 : decode cX9_law 28 = .ok (.ifCond .eq 44, 3) := by decide +kernel
theorem dX9_law_31 : decode cX9_law 31 = .ok (.iload_n 2, 1) := by decide +kernel
theorem dX9_law_32 : decode cX9_law 32 = .ok (.ifCond .lt 40, 3) := by decide +kernel
theorem dX9_law_35 : decode cX9_law 35 = .ok (.iload_n 3, 1) := by decide +kernel
theorem dX9_law_36 : decode cX9_law 36 = .ok (.iconst 3, 1) := by decide +kernel
theorem dX9_law_37 : decode cX9_law 37 = .ok (.if_icmp .gt 35, 3) := by decide +kernel
theorem dX9_law_40 : decode cX9_law 40 = .ok (.iload_n 2, 1) := by decide +kernel
theorem dX9_law_41 : decode cX9_law 41 = .ok (.sipush 1000, 3) := by decide +kernel
theorem dX9_law_44 : decode cX9_law 44 = .ok (.idiv, 1) := by decide +kernel
theorem dX9_law_45 : decode cX9_law 45 = .ok (.bipush 10, 2) := by decide +kernel
theorem dX9_law_47 : decode cX9_law 47 = .ok (.irem, 1) := by decide +kernel
theorem dX9_law_48 : decode cX9_law 48 = .ok (.iconst 4, 1) := by decide +kernel
theorem dX9_law_49 : decode cX9_law 49 = .ok (.if_icmp .gt 23, 3) := by decide +kernel
theorem dX9_law_52 : decode cX9_law 52 = .ok (.iload 4, 2) := by decide +kernel
theorem dX9_law_54 : decode cX9_law 54 = .ok (.iconst 4, 1) := by decide +kernel
theorem dX9_law_55 : decode cX9_law 55 = .ok (.if_icmp .gt 17, 3) := by decide +kernel
theorem dX9_law_58 : decode cX9_law 58 = .ok (.iload 5, 2) := by decide +kernel
theorem dX9_law_60 : decode cX9_law 60 = .ok (.iconst 3, 1) := by decide +kernel
theorem dX9_law_61 : decode cX9_law 61 = .ok (.if_icmp .gt 11, 3) := by decide +kernel
theorem dX9_law_64 : decode cX9_law 64 = .ok (.iload_n 2, 1) := by decide +kernel
theorem dX9_law_65 : decode cX9_law 65 = .ok (.bipush 10, 2) := by decide +kernel
theorem dX9_law_67 : decode cX9_law 67 = .ok (.irem, 1) := by decide +kernel
theorem dX9_law_68 : decode cX9_law 68 = .ok (.iconst 3, 1) := by decide +kernel
theorem dX9_law_69 : decode cX9_law 69 = .ok (.if_icmp .le 6, 3) := by decide +kernel
theorem dX9_law_72 : decode cX9_law 72 = .ok (.bipush (-2), 2) := by decide +kernel
theorem dX9_law_74 : decode cX9_law 74 = .ok (.ireturn, 1) := by decide +kernel
theorem dX9_law_75 : decode cX9_law 75 = .ok (.iconst 0, 1) := by decide +kernel
theorem dX9_law_76 : decode cX9_law 76 = .ok (.istore 6, 2) := by decide +kernel
theorem dX9_law_78 : decode cX9_law 78 = .ok (.iload 6, 2) := by decide +kernel
theorem dX9_law_80 : decode cX9_law 80 = .ok (.ldc 150, 2) := by decide +kernel
theorem dX9_law_82 : decode cX9_law 82 = .ok (.if_icmp .ge 101, 3) := by decide +kernel
theorem dX9_law_85 : decode cX9_law 85 = .ok (.iload 6, 2) := by decide +kernel
theorem dX9_law_87 : decode cX9_law 87 = .ok (.iconst 5, 1) := by decide +kernel
theorem dX9_law_88 : decode cX9_law 88 = .ok (.idiv, 1) := by decide +kernel
theorem dX9_law_89 : decode cX9_law 89 = .ok (.iconst 4, 1) := by decide +kernel
theorem dX9_law_90 : decode cX9_law 90 = .ok (.irem, 1) := by decide +kernel
theorem dX9_law_91 : decode cX9_law 91 = .ok (.iload_n 3, 1) := by decide +kernel
theorem dX9_law_92 : decode cX9_law 92 = .ok (.if_icmp .ne 85, 3) := by decide +kernel
theorem dX9_law_95 : decode cX9_law 95 = .ok (.iload 6, 2) := by decide +kernel
theorem dX9_law_97 : decode cX9_law 97 = .ok (.iconst 5, 1) := by decide +kernel
theorem dX9_law_98 : decode cX9_law 98 = .ok (.irem, 1) := by decide +kernel
theorem dX9_law_99 : decode cX9_law 99 = .ok (.iload_n 2, 1) := by decide +kernel
theorem dX9_law_100 : decode cX9_law 100 = .ok (.sipush 1000, 3) := by decide +kernel
theorem dX9_law_103 : decode cX9_law 103 = .ok (.idiv, 1) := by decide +kernel
theorem dX9_law_104 : decode cX9_law 104 = .ok (.bipush 10, 2) := by decide +kernel
theorem dX9_law_106 : decode cX9_law 106 = .ok (.irem, 1) := by decide +kernel
theorem dX9_law_107 : decode cX9_law 107 = .ok (.if_icmp .ge 6, 3) := by decide +kernel
theorem dX9_law_110 : decode cX9_law 110 = .ok (.goto 67, 3) := by decide +kernel
theorem dX9_law_113 : decode cX9_law 113 = .ok (.iload 4, 2) := by decide +kernel
theorem dX9_law_115 : decode cX9_law 115 = .ok (.iconst 4, 1) := by decide +kernel
theorem dX9_law_116 : decode cX9_law 116 = .ok (.if_icmp .ge 16, 3) := by decide +kernel
theorem dX9_law_119 : decode cX9_law 119 = .ok (.iload 6, 2) := by decide +kernel
theorem dX9_law_121 : decode cX9_law 121 = .ok (.invokestatic 105, 3) := by decide +kernel
theorem dX9_law_124 : decode cX9_law 124 = .ok (.iload 4, 2) := by decide +kernel
theorem dX9_law_126 : decode cX9_law 126 = .ok (.ishr, 1) := by decide +kernel
theorem dX9_law_127 : decode cX9_law 127 = .ok (.iconst 1, 1) := by decide +kernel
theorem dX9_law_128 : decode cX9_law 128 = .ok (.iand, 1) := by decide +kernel
theorem dX9_law_129 : decode cX9_law 129 = .ok (.ifCond .eq 23, 3) := by decide +kernel
theorem dX9_law_132 : decode cX9_law 132 = .ok (.iload 5, 2) := by decide +kernel
theorem dX9_law_134 : decode cX9_law 134 = .ok (.iconst 3, 1) := by decide +kernel
theorem dX9_law_135 : decode cX9_law 135 = .ok (.if_icmp .ge 21, 3) := by decide +kernel
theorem dX9_law_138 : decode cX9_law 138 = .ok (.iload 6, 2) := by decide +kernel
theorem dX9_law_140 : decode cX9_law 140 = .ok (.iload 5, 2) := by decide +kernel
theorem dX9_law_142 : decode cX9_law 142 = .ok (.invokestatic 102, 3) := by decide +kernel
theorem dX9_law_145 : decode cX9_law 145 = .ok (.iload_n 2, 1) := by decide +kernel
theorem dX9_law_146 : decode cX9_law 146 = .ok (.bipush 10, 2) := by decide +kernel
theorem dX9_law_148 : decode cX9_law 148 = .ok (.irem, 1) := by decide +kernel
theorem dX9_law_149 : decode cX9_law 149 = .ok (.if_icmp .ge 7, 3) := by decide +kernel
theorem dX9_law_152 : decode cX9_law 152 = .ok (.iconst 1, 1) := by decide +kernel
theorem dX9_law_153 : decode cX9_law 153 = .ok (.goto 4, 3) := by decide +kernel
theorem dX9_law_156 : decode cX9_law 156 = .ok (.iconst 0, 1) := by decide +kernel
theorem dX9_law_157 : decode cX9_law 157 = .ok (.istore 7, 2) := by decide +kernel
theorem dX9_law_159 : decode cX9_law 159 = .ok (.iload 7, 2) := by decide +kernel
theorem dX9_law_161 : decode cX9_law 161 = .ok (.ifCond .eq 16, 3) := by decide +kernel
theorem dX9_law_164 : decode cX9_law 164 = .ok (.aload_n 0, 1) := by decide +kernel
theorem dX9_law_165 : decode cX9_law 165 = .ok (.iload_n 1, 1) := by decide +kernel
theorem dX9_law_166 : decode cX9_law 166 = .ok (.iload 6, 2) := by decide +kernel
theorem dX9_law_168 : decode cX9_law 168 = .ok (.invokevirtual 119, 3) := by decide +kernel
theorem dX9_law_171 : decode cX9_law 171 = .ok (.ifCond .eq 6, 3) := by decide +kernel
theorem dX9_law_174 : decode cX9_law 174 = .ok (.iload 6, 2) := by decide +kernel
theorem dX9_law_176 : decode cX9_law 176 = .ok (.ireturn, 1) := by decide +kernel
theorem dX9_law_177 : decode cX9_law 177 = .ok (.iinc 6 1, 3) := by decide +kernel
theorem dX9_law_180 : decode cX9_law 180 = .ok (.goto (-102), 3) := by decide +kernel
theorem dX9_law_183 : decode cX9_law 183 = .ok (.iconst (-1), 1) := by decide +kernel
theorem dX9_law_184 : decode cX9_law 184 = .ok (.ireturn, 1) := by decide +kernel
theorem dX9_isRule_0 : decode cX9_isRule 0 = .ok (.iload_n 1, 1) := by decide +kernel
theorem dX9_isRule_1 : decode cX9_isRule 1 = .ok (.invokestatic 95, 3) := by decide +kernel
theorem dX9_isRule_4 : decode cX9_isRule 4 = .ok (.ifCond .eq 23, 3) := by decide +kernel
theorem dX9_isRule_7 : decode cX9_isRule 7 = .ok (.iload_n 2, 1) := by decide +kernel
theorem dX9_isRule_8 : decode cX9_isRule 8 = .ok (.iconst 0, 1) := by decide +kernel
theorem dX9_isRule_9 : decode cX9_isRule 9 = .ok (.aload_n 0, 1) := by decide +kernel
theorem dX9_isRule_10 : decode cX9_isRule 10 = .ok (.getfield 31, 3) := by decide +kernel
theorem dX9_isRule_13 : decode cX9_isRule 13 = .ok (.iload_n 1, 1) := by decide +kernel
theorem dX9_isRule_14 : decode cX9_isRule 14 = .ok (.iaload, 1) := by decide +kernel
theorem dX9_isRule_15 : decode cX9_isRule 15 = .ok (.iconst 1, 1) := by decide +kernel
theorem dX9_isRule_16 : decode cX9_isRule 16 = .ok (.isub, 1) := by decide +kernel
theorem dX9_isRule_17 : decode cX9_isRule 17 = .ok (.invokestatic 80, 3) := by decide +kernel
theorem dX9_isRule_20 : decode cX9_isRule 20 = .ok (.ifCond .eq 7, 3) := by decide +kernel
theorem dX9_isRule_23 : decode cX9_isRule 23 = .ok (.iconst 1, 1) := by decide +kernel
theorem dX9_isRule_24 : decode cX9_isRule 24 = .ok (.goto 4, 3) := by decide +kernel
theorem dX9_isRule_27 : decode cX9_isRule 27 = .ok (.iconst 0, 1) := by decide +kernel
theorem dX9_isRule_28 : decode cX9_isRule 28 = .ok (.ireturn, 1) := by decide +kernel
theorem dX9_idle_0 : decode cX9_idle 0 = .ok (.aload_n 0, 1) := by decide +kernel
theorem dX9_idle_1 : decode cX9_idle 1 = .ok (.iload_n 1, 1) := by decide +kernel
theorem dX9_idle_2 : decode cX9_idle 2 = .ok (.iload_n 2, 1) := by decide +kernel
theorem dX9_idle_3 : decode cX9_idle 3 = .ok (.invokevirtual 151, 3) := by decide +kernel
theorem dX9_idle_6 : decode cX9_idle 6 = .ok (.ifCond .ne 5, 3) := by decide +kernel
theorem dX9_idle_9 : decode cX9_idle 9 = .ok (.iconst 0, 1) := by decide +kernel
theorem dX9_idle_10 : decode cX9_idle 10 = .ok (.ireturn, 1) := by decide +kernel
theorem dX9_idle_11 : decode cX9_idle 11 = .ok (.iconst 0, 1) := by decide +kernel
theorem dX9_idle_12 : decode cX9_idle 12 = .ok (.istore_n 3, 1) := by decide +kernel
theorem dX9_idle_13 : decode cX9_idle 13 = .ok (.iload_n 3, 1) := by decide +kernel
theorem dX9_idle_14 : decode cX9_idle 14 = .ok (.ldc 150, 2) := by decide +kernel
theorem dX9_idle_16 : decode cX9_idle 16 = .ok (.if_icmp .ge 35, 3) := by decide +kernel
theorem dX9_idle_19 : decode cX9_idle 19 = .ok (.aload_n 0, 1) := by decide +kernel
theorem dX9_idle_20 : decode cX9_idle 20 = .ok (.bipush 12, 2) := by decide +kernel
theorem dX9_idle_22 : decode cX9_idle 22 = .ok (.iload_n 1, 1) := by decide +kernel
theorem dX9_idle_23 : decode cX9_idle 23 = .ok (.imul, 1) := by decide +kernel
theorem dX9_idle_24 : decode cX9_idle 24 = .ok (.iload_n 2, 1) := by decide +kernel
theorem dX9_idle_25 : decode cX9_idle 25 = .ok (.iadd, 1) := by decide +kernel
theorem dX9_idle_26 : decode cX9_idle 26 = .ok (.iload_n 3, 1) := by decide +kernel
theorem dX9_idle_27 : decode cX9_idle 27 = .ok (.invokevirtual 112, 3) := by decide +kernel
theorem dX9_idle_30 : decode cX9_idle 30 = .ok (.ifCond .eq 15, 3) := by decide +kernel
theorem dX9_idle_33 : decode cX9_idle 33 = .ok (.aload_n 0, 1) := by decide +kernel
theorem dX9_idle_34 : decode cX9_idle 34 = .ok (.iload_n 1, 1) := by decide +kernel
theorem dX9_idle_35 : decode cX9_idle 35 = .ok (.iload_n 3, 1) := by decide +kernel
theorem dX9_idle_36 : decode cX9_idle 36 = .ok (.invokevirtual 116, 3) := by decide +kernel
theorem dX9_idle_39 : decode cX9_idle 39 = .ok (.iload_n 2, 1) := by decide +kernel
theorem dX9_idle_40 : decode cX9_idle 40 = .ok (.if_icmp .ne 5, 3) := by decide +kernel
theorem dX9_idle_43 : decode cX9_idle 43 = .ok (.iconst 0, 1) := by decide +kernel
theorem dX9_idle_44 : decode cX9_idle 44 = .ok (.ireturn, 1) := by decide +kernel
theorem dX9_idle_45 : decode cX9_idle 45 = .ok (.iinc 3 1, 3) := by decide +kernel
theorem dX9_idle_48 : decode cX9_idle 48 = .ok (.goto (-35), 3) := by decide +kernel
theorem dX9_idle_51 : decode cX9_idle 51 = .ok (.iconst 1, 1) := by decide +kernel
theorem dX9_idle_52 : decode cX9_idle 52 = .ok (.ireturn, 1) := by decide +kernel
theorem dX9_quarrel_0 : decode cX9_quarrel 0 = .ok (.aload_n 0, 1) := by decide +kernel
theorem dX9_quarrel_1 : decode cX9_quarrel 1 = .ok (.iload_n 1, 1) := by decide +kernel
theorem dX9_quarrel_2 : decode cX9_quarrel 2 = .ok (.iload_n 2, 1) := by decide +kernel
theorem dX9_quarrel_3 : decode cX9_quarrel 3 = .ok (.invokevirtual 151, 3) := by decide +kernel
theorem dX9_quarrel_6 : decode cX9_quarrel 6 = .ok (.ifCond .eq 37, 3) := by decide +kernel
theorem dX9_quarrel_9 : decode cX9_quarrel 9 = .ok (.aload_n 0, 1) := by decide +kernel
theorem dX9_quarrel_10 : decode cX9_quarrel 10 = .ok (.iload_n 1, 1) := by decide +kernel
theorem dX9_quarrel_11 : decode cX9_quarrel 11 = .ok (.iload_n 3, 1) := by decide +kernel
theorem dX9_quarrel_12 : decode cX9_quarrel 12 = .ok (.invokevirtual 151, 3) := by decide +kernel
theorem dX9_quarrel_15 : decode cX9_quarrel 15 = .ok (.ifCond .eq 28, 3) := by decide +kernel
theorem dX9_quarrel_18 : decode cX9_quarrel 18 = .ok (.aload_n 0, 1) := by decide +kernel
theorem dX9_quarrel_19 : decode cX9_quarrel 19 = .ok (.getfield 40, 3) := by decide +kernel
theorem dX9_quarrel_22 : decode cX9_quarrel 22 = .ok (.bipush 12, 2) := by decide +kernel
theorem dX9_quarrel_24 : decode cX9_quarrel 24 = .ok (.iload_n 1, 1) := by decide +kernel
theorem dX9_quarrel_25 : decode cX9_quarrel 25 = .ok (.imul, 1) := by decide +kernel
theorem dX9_quarrel_26 : decode cX9_quarrel 26 = .ok (.iload_n 2, 1) := by decide +kernel
theorem dX9_quarrel_27 : decode cX9_quarrel 27 = .ok (.iadd, 1) := by decide +kernel
theorem dX9_quarrel_28 : decode cX9_quarrel 28 = .ok (.iaload, 1) := by decide +kernel
theorem dX9_quarrel_29 : decode cX9_quarrel 29 = .ok (.aload_n 0, 1) := by decide +kernel
theorem dX9_quarrel_30 : decode cX9_quarrel 30 = .ok (.getfield 40, 3) := by decide +kernel
theorem dX9_quarrel_33 : decode cX9_quarrel 33 = .ok (.bipush 12, 2) := by decide +kernel
theorem dX9_quarrel_35 : decode cX9_quarrel 35 = .ok (.iload_n 1, 1) := by decide +kernel
theorem dX9_quarrel_36 : decode cX9_quarrel 36 = .ok (.imul, 1) := by decide +kernel
theorem dX9_quarrel_37 : decode cX9_quarrel 37 = .ok (.iload_n 3, 1) := by decide +kernel
theorem dX9_quarrel_38 : decode cX9_quarrel 38 = .ok (.iadd, 1) := by decide +kernel
theorem dX9_quarrel_39 : decode cX9_quarrel 39 = .ok (.iaload, 1) := by decide +kernel
theorem dX9_quarrel_40 : decode cX9_quarrel 40 = .ok (.if_icmp .ne 5, 3) := by decide +kernel
theorem dX9_quarrel_43 : decode cX9_quarrel 43 = .ok (.iconst (-1), 1) := by decide +kernel
theorem dX9_quarrel_44 : decode cX9_quarrel 44 = .ok (.ireturn, 1) := by decide +kernel
theorem dX9_quarrel_45 : decode cX9_quarrel 45 = .ok (.iconst 0, 1) := by decide +kernel
theorem dX9_quarrel_46 : decode cX9_quarrel 46 = .ok (.istore 4, 2) := by decide +kernel
theorem dX9_quarrel_48 : decode cX9_quarrel 48 = .ok (.iload 4, 2) := by decide +kernel
theorem dX9_quarrel_50 : decode cX9_quarrel 50 = .ok (.ldc 150, 2) := by decide +kernel
theorem dX9_quarrel_52 : decode cX9_quarrel 52 = .ok (.if_icmp .ge 42, 3) := by decide +kernel
theorem dX9_quarrel_55 : decode cX9_quarrel 55 = .ok (.aload_n 0, 1) := by decide +kernel
theorem dX9_quarrel_56 : decode cX9_quarrel 56 = .ok (.bipush 12, 2) := by decide +kernel
theorem dX9_quarrel_58 : decode cX9_quarrel 58 = .ok (.iload_n 1, 1) := by decide +kernel
theorem dX9_quarrel_59 : decode cX9_quarrel 59 = .ok (.imul, 1) := by decide +kernel
theorem dX9_quarrel_60 : decode cX9_quarrel 60 = .ok (.iload_n 2, 1) := by decide +kernel
theorem dX9_quarrel_61 : decode cX9_quarrel 61 = .ok (.iadd, 1) := by decide +kernel
theorem dX9_quarrel_62 : decode cX9_quarrel 62 = .ok (.iload 4, 2) := by decide +kernel
theorem dX9_quarrel_64 : decode cX9_quarrel 64 = .ok (.invokevirtual 112, 3) := by decide +kernel
theorem dX9_quarrel_67 : decode cX9_quarrel 67 = .ok (.ifCond .eq 21, 3) := by decide +kernel
theorem dX9_quarrel_70 : decode cX9_quarrel 70 = .ok (.aload_n 0, 1) := by decide +kernel
theorem dX9_quarrel_71 : decode cX9_quarrel 71 = .ok (.bipush 12, 2) := by decide +kernel
theorem dX9_quarrel_73 : decode cX9_quarrel 73 = .ok (.iload_n 1, 1) := by decide +kernel
theorem dX9_quarrel_74 : decode cX9_quarrel 74 = .ok (.imul, 1) := by decide +kernel
theorem dX9_quarrel_75 : decode cX9_quarrel 75 = .ok (.iload_n 3, 1) := by decide +kernel
theorem dX9_quarrel_76 : decode cX9_quarrel 76 = .ok (.iadd, 1) := by decide +kernel
theorem dX9_quarrel_77 : decode cX9_quarrel 77 = .ok (.iload 4, 2) := by decide +kernel
theorem dX9_quarrel_79 : decode cX9_quarrel 79 = .ok (.invokevirtual 112, 3) := by decide +kernel
theorem dX9_quarrel_82 : decode cX9_quarrel 82 = .ok (.ifCond .eq 6, 3) := by decide +kernel
theorem dX9_quarrel_85 : decode cX9_quarrel 85 = .ok (.iload 4, 2) := by decide +kernel
theorem dX9_quarrel_87 : decode cX9_quarrel 87 = .ok (.ireturn, 1) := by decide +kernel
theorem dX9_quarrel_88 : decode cX9_quarrel 88 = .ok (.iinc 4 1, 3) := by decide +kernel
theorem dX9_quarrel_91 : decode cX9_quarrel 91 = .ok (.goto (-43), 3) := by decide +kernel
theorem dX9_quarrel_94 : decode cX9_quarrel 94 = .ok (.iconst (-1), 1) := by decide +kernel
theorem dX9_quarrel_95 : decode cX9_quarrel 95 = .ok (.ireturn, 1) := by decide +kernel
theorem dX9_log_0 : decode cX9_log 0 = .ok (.iload_n 1, 1) := by decide +kernel
theorem dX9_log_1 : decode cX9_log 1 = .ok (.iconst 0, 1) := by decide +kernel
theorem dX9_log_2 : decode cX9_log 2 = .ok (.aload_n 0, 1) := by decide +kernel
theorem dX9_log_3 : decode cX9_log 3 = .ok (.getfield 122, 3) := by decide +kernel
theorem dX9_log_6 : decode cX9_log 6 = .ok (.iconst 1, 1) := by decide +kernel
theorem dX9_log_7 : decode cX9_log 7 = .ok (.isub, 1) := by decide +kernel
theorem dX9_log_8 : decode cX9_log 8 = .ok (.invokestatic 80, 3) := by decide +kernel
theorem dX9_log_11 : decode cX9_log 11 = .ok (.ifCond .ne 5, 3) := by decide +kernel
theorem dX9_log_14 : decode cX9_log 14 = .ok (.iconst (-1), 1) := by decide +kernel
theorem dX9_log_15 : decode cX9_log 15 = .ok (.ireturn, 1) := by decide +kernel
theorem dX9_log_16 : decode cX9_log 16 = .ok (.iload_n 2, 1) := by decide +kernel
theorem dX9_log_17 : decode cX9_log 17 = .ok (.tableswitch 70 0 4 #[35, 42, 49, 56, 63], 35) := by decide +kernel
theorem dX9_log_52 : decode cX9_log 52 = .ok (.aload_n 0, 1) := by decide +kernel
theorem dX9_log_53 : decode cX9_log 53 = .ok (.getfield 60, 3) := by decide +kernel
theorem dX9_log_56 : decode cX9_log 56 = .ok (.iload_n 1, 1) := by decide +kernel
theorem dX9_log_57 : decode cX9_log 57 = .ok (.iaload, 1) := by decide +kernel
theorem dX9_log_58 : decode cX9_log 58 = .ok (.ireturn, 1) := by decide +kernel
theorem dX9_log_59 : decode cX9_log 59 = .ok (.aload_n 0, 1) := by decide +kernel
theorem dX9_log_60 : decode cX9_log 60 = .ok (.getfield 63, 3) := by decide +kernel
theorem dX9_log_63 : decode cX9_log 63 = .ok (.iload_n 1, 1) := by decide +kernel
theorem dX9_log_64 : decode cX9_log 64 = .ok (.iaload, 1) := by decide +kernel
theorem dX9_log_65 : decode cX9_log 65 = .ok (.ireturn, 1) := by decide +kernel
theorem dX9_log_66 : decode cX9_log 66 = .ok (.aload_n 0, 1) := by decide +kernel
theorem dX9_log_67 : decode cX9_log 67 = .ok (.getfield 66, 3) := by decide +kernel
theorem dX9_log_70 : decode cX9_log 70 = .ok (.iload_n 1, 1) := by decide +kernel
theorem dX9_log_71 : decode cX9_log 71 = .ok (.iaload, 1) := by decide +kernel
theorem dX9_log_72 : decode cX9_log 72 = .ok (.ireturn, 1) := by decide +kernel
theorem dX9_log_73 : decode cX9_log 73 = .ok (.aload_n 0, 1) := by decide +kernel
theorem dX9_log_74 : decode cX9_log 74 = .ok (.getfield 69, 3) := by decide +kernel
theorem dX9_log_77 : decode cX9_log 77 = .ok (.iload_n 1, 1) := by decide +kernel
theorem dX9_log_78 : decode cX9_log 78 = .ok (.iaload, 1) := by decide +kernel
theorem dX9_log_79 : decode cX9_log 79 = .ok (.ireturn, 1) := by decide +kernel
theorem dX9_log_80 : decode cX9_log 80 = .ok (.aload_n 0, 1) := by decide +kernel
theorem dX9_log_81 : decode cX9_log 81 = .ok (.getfield 72, 3) := by decide +kernel
theorem dX9_log_84 : decode cX9_log 84 = .ok (.iload_n 1, 1) := by decide +kernel
theorem dX9_log_85 : decode cX9_log 85 = .ok (.iaload, 1) := by decide +kernel
theorem dX9_log_86 : decode cX9_log 86 = .ok (.ireturn, 1) := by decide +kernel
theorem dX9_log_87 : decode cX9_log 87 = .ok (.iconst (-1), 1) := by decide +kernel
theorem dX9_log_88 : decode cX9_log 88 = .ok (.ireturn, 1) := by decide +kernel
theorem dX9_lost_0 : decode cX9_lost 0 = .ok (.iconst 0, 1) := by decide +kernel
theorem dX9_lost_1 : decode cX9_lost 1 = .ok (.istore_n 1, 1) := by decide +kernel
theorem dX9_lost_2 : decode cX9_lost 2 = .ok (.aload_n 0, 1) := by decide +kernel
theorem dX9_lost_3 : decode cX9_lost 3 = .ok (.getfield 122, 3) := by decide +kernel
theorem dX9_lost_6 : decode cX9_lost 6 = .ok (.bipush 40, 2) := by decide +kernel
theorem dX9_lost_8 : decode cX9_lost 8 = .ok (.if_icmp .le 13, 3) := by decide +kernel
theorem dX9_lost_11 : decode cX9_lost 11 = .ok (.aload_n 0, 1) := by decide +kernel
theorem dX9_lost_12 : decode cX9_lost 12 = .ok (.getfield 122, 3) := by decide +kernel
theorem dX9_lost_15 : decode cX9_lost 15 = .ok (.bipush 40, 2) := by decide +kernel
theorem dX9_lost_17 : decode cX9_lost 17 = .ok (.isub, 1) := by decide +kernel
theorem dX9_lost_18 : decode cX9_lost 18 = .ok (.goto 4, 3) := by decide +kernel
theorem dX9_lost_21 : decode cX9_lost 21 = .ok (.iconst 0, 1) := by decide +kernel
theorem dX9_lost_22 : decode cX9_lost 22 = .ok (.istore_n 2, 1) := by decide +kernel
theorem dX9_lost_23 : decode cX9_lost 23 = .ok (.iload_n 2, 1) := by decide +kernel
theorem dX9_lost_24 : decode cX9_lost 24 = .ok (.aload_n 0, 1) := by decide +kernel
theorem dX9_lost_25 : decode cX9_lost 25 = .ok (.getfield 122, 3) := by decide +kernel
theorem dX9_lost_28 : decode cX9_lost 28 = .ok (.if_icmp .ge 45, 3) := by decide +kernel
theorem dX9_lost_31 : decode cX9_lost 31 = .ok (.iload_n 1, 1) := by decide +kernel
theorem dX9_lost_32 : decode cX9_lost 32 = .ok (.aload_n 0, 1) := by decide +kernel
theorem dX9_lost_33 : decode cX9_lost 33 = .ok (.getfield 69, 3) := by decide +kernel
theorem dX9_lost_36 : decode cX9_lost 36 = .ok (.iload_n 2, 1) := by decide +kernel
theorem dX9_lost_37 : decode cX9_lost 37 = .ok (.iaload, 1) := by decide +kernel
theorem dX9_lost_38 : decode cX9_lost 38 = .ok (.ifCond .ne 26, 3) := by decide +kernel
theorem dX9_lost_41 : decode cX9_lost 41 = .ok (.aload_n 0, 1) := by decide +kernel
theorem dX9_lost_42 : decode cX9_lost 42 = .ok (.iconst 1, 1) := by decide +kernel
theorem dX9_lost_43 : decode cX9_lost 43 = .ok (.aload_n 0, 1) := by decide +kernel
theorem dX9_lost_44 : decode cX9_lost 44 = .ok (.getfield 134, 3) := by decide +kernel
theorem dX9_lost_47 : decode cX9_lost 47 = .ok (.isub, 1) := by decide +kernel
theorem dX9_lost_48 : decode cX9_lost 48 = .ok (.aload_n 0, 1) := by decide +kernel
theorem dX9_lost_49 : decode cX9_lost 49 = .ok (.getfield 66, 3) := by decide +kernel
theorem dX9_lost_52 : decode cX9_lost 52 = .ok (.iload_n 2, 1) := by decide +kernel
theorem dX9_lost_53 : decode cX9_lost 53 = .ok (.iaload, 1) := by decide +kernel
theorem dX9_lost_54 : decode cX9_lost 54 = .ok (.invokevirtual 119, 3) := by decide +kernel
theorem dX9_lost_57 : decode cX9_lost 57 = .ok (.ifCond .ne 7, 3) := by decide +kernel
theorem dX9_lost_60 : decode cX9_lost 60 = .ok (.iconst 1, 1) := by decide +kernel
theorem dX9_lost_61 : decode cX9_lost 61 = .ok (.goto 4, 3) := by decide +kernel
theorem dX9_lost_64 : decode cX9_lost 64 = .ok (.iconst 0, 1) := by decide +kernel
theorem dX9_lost_65 : decode cX9_lost 65 = .ok (.iadd, 1) := by decide +kernel
theorem dX9_lost_66 : decode cX9_lost 66 = .ok (.istore_n 1, 1) := by decide +kernel
theorem dX9_lost_67 : decode cX9_lost 67 = .ok (.iinc 2 1, 3) := by decide +kernel
theorem dX9_lost_70 : decode cX9_lost 70 = .ok (.goto (-47), 3) := by decide +kernel
theorem dX9_lost_73 : decode cX9_lost 73 = .ok (.iload_n 1, 1) := by decide +kernel
theorem dX9_lost_74 : decode cX9_lost 74 = .ok (.ireturn, 1) := by decide +kernel
theorem dX9_move_0 : decode cX9_move 0 = .ok (.iload_n 1, 1) := by decide +kernel
theorem dX9_move_1 : decode cX9_move 1 = .ok (.ifCond .ne 12, 3) := by decide +kernel
theorem dX9_move_4 : decode cX9_move 4 = .ok (.aload_n 0, 1) := by decide +kernel
theorem dX9_move_5 : decode cX9_move 5 = .ok (.invokevirtual 154, 3) := by decide +kernel
theorem dX9_move_8 : decode cX9_move 8 = .ok (.ifCond .le 5, 3) := by decide +kernel
theorem dX9_move_11 : decode cX9_move 11 = .ok (.iconst 0, 1) := by decide +kernel
theorem dX9_move_12 : decode cX9_move 12 = .ok (.ireturn, 1) := by decide +kernel
theorem dX9_move_13 : decode cX9_move 13 = .ok (.aload_n 0, 1) := by decide +kernel
theorem dX9_move_14 : decode cX9_move 14 = .ok (.iconst 1, 1) := by decide +kernel
theorem dX9_move_15 : decode cX9_move 15 = .ok (.aload_n 0, 1) := by decide +kernel
theorem dX9_move_16 : decode cX9_move 16 = .ok (.getfield 134, 3) := by decide +kernel
theorem dX9_move_19 : decode cX9_move 19 = .ok (.isub, 1) := by decide +kernel
theorem dX9_move_20 : decode cX9_move 20 = .ok (.putfield 134, 3) := by decide +kernel
theorem dX9_move_23 : decode cX9_move 23 = .ok (.aload_n 0, 1) := by decide +kernel
theorem dX9_move_24 : decode cX9_move 24 = .ok (.invokevirtual 92, 3) := by decide +kernel
theorem dX9_move_27 : decode cX9_move 27 = .ok (.iconst 1, 1) := by decide +kernel
theorem dX9_move_28 : decode cX9_move 28 = .ok (.ireturn, 1) := by decide +kernel
theorem dX9_count_0 : decode cX9_count 0 = .ok (.iload_n 1, 1) := by decide +kernel
theorem dX9_count_1 : decode cX9_count 1 = .ok (.tableswitch 82 0 6 #[43, 48, 53, 60, 67, 72, 77], 43) := by decide +kernel
theorem dX9_count_44 : decode cX9_count 44 = .ok (.aload_n 0, 1) := by decide +kernel
theorem dX9_count_45 : decode cX9_count 45 = .ok (.getfield 84, 3) := by decide +kernel
theorem dX9_count_48 : decode cX9_count 48 = .ok (.ireturn, 1) := by decide +kernel
theorem dX9_count_49 : decode cX9_count 49 = .ok (.aload_n 0, 1) := by decide +kernel
theorem dX9_count_50 : decode cX9_count 50 = .ok (.getfield 134, 3) := by decide +kernel
theorem dX9_count_53 : decode cX9_count 53 = .ok (.ireturn, 1) := by decide +kernel
theorem dX9_count_54 : decode cX9_count 54 = .ok (.aload_n 0, 1) := by decide +kernel
theorem dX9_count_55 : decode cX9_count 55 = .ok (.getfield 31, 3) := by decide +kernel
theorem dX9_count_58 : decode cX9_count 58 = .ok (.iconst 0, 1) := by decide +kernel
theorem dX9_count_59 : decode cX9_count 59 = .ok (.iaload, 1) := by decide +kernel
theorem dX9_count_60 : decode cX9_count 60 = .ok (.ireturn, 1) := by decide +kernel
theorem dX9_count_61 : decode cX9_count 61 = .ok (.aload_n 0, 1) := by decide +kernel
theorem dX9_count_62 : decode cX9_count 62 = .ok (.getfield 31, 3) := by decide +kernel
theorem dX9_count_65 : decode cX9_count 65 = .ok (.iconst 1, 1) := by decide +kernel
theorem dX9_count_66 : decode cX9_count 66 = .ok (.iaload, 1) := by decide +kernel
theorem dX9_count_67 : decode cX9_count 67 = .ok (.ireturn, 1) := by decide +kernel
theorem dX9_count_68 : decode cX9_count 68 = .ok (.aload_n 0, 1) := by decide +kernel
theorem dX9_count_69 : decode cX9_count 69 = .ok (.getfield 122, 3) := by decide +kernel
theorem dX9_count_72 : decode cX9_count 72 = .ok (.ireturn, 1) := by decide +kernel
theorem dX9_count_73 : decode cX9_count 73 = .ok (.aload_n 0, 1) := by decide +kernel
theorem dX9_count_74 : decode cX9_count 74 = .ok (.getfield 128, 3) := by decide +kernel
theorem dX9_count_77 : decode cX9_count 77 = .ok (.ireturn, 1) := by decide +kernel
theorem dX9_count_78 : decode cX9_count 78 = .ok (.aload_n 0, 1) := by decide +kernel
theorem dX9_count_79 : decode cX9_count 79 = .ok (.getfield 147, 3) := by decide +kernel
theorem dX9_count_82 : decode cX9_count 82 = .ok (.ireturn, 1) := by decide +kernel
theorem dX9_count_83 : decode cX9_count 83 = .ok (.iconst (-1), 1) := by decide +kernel
theorem dX9_count_84 : decode cX9_count 84 = .ok (.ireturn, 1) := by decide +kernel
theorem dJ9_max_7cf53_0 : decode cJ9_max_7cf53 0 = .ok (.iload_n 0, 1) := by decide +kernel
theorem dJ9_max_7cf53_1 : decode cJ9_max_7cf53 1 = .ok (.iload_n 1, 1) := by decide +kernel
theorem dJ9_max_7cf53_2 : decode cJ9_max_7cf53 2 = .ok (.if_icmp .lt 7, 3) := by decide +kernel
theorem dJ9_max_7cf53_5 : decode cJ9_max_7cf53 5 = .ok (.iload_n 0, 1) := by decide +kernel
theorem dJ9_max_7cf53_6 : decode cJ9_max_7cf53 6 = .ok (.goto 4, 3) := by decide +kernel
theorem dJ9_max_7cf53_9 : decode cJ9_max_7cf53 9 = .ok (.iload_n 1, 1) := by decide +kernel
theorem dJ9_max_7cf53_10 : decode cJ9_max_7cf53 10 = .ok (.ireturn, 1) := by decide +kernel
theorem dJ9_min_7cf53_0 : decode cJ9_min_7cf53 0 = .ok (.iload_n 0, 1) := by decide +kernel
theorem dJ9_min_7cf53_1 : decode cJ9_min_7cf53 1 = .ok (.iload_n 1, 1) := by decide +kernel
theorem dJ9_min_7cf53_2 : decode cJ9_min_7cf53 2 = .ok (.if_icmp .gt 7, 3) := by decide +kernel
theorem dJ9_min_7cf53_5 : decode cJ9_min_7cf53 5 = .ok (.iload_n 0, 1) := by decide +kernel
theorem dJ9_min_7cf53_6 : decode cJ9_min_7cf53 6 = .ok (.goto 4, 3) := by decide +kernel
theorem dJ9_min_7cf53_9 : decode cJ9_min_7cf53 9 = .ok (.iload_n 1, 1) := by decide +kernel
theorem dJ9_min_7cf53_10 : decode cJ9_min_7cf53 10 = .ok (.ireturn, 1) := by decide +kernel
theorem dJ7_fill_53178_0 : decode cJ7_fill_53178 0 = .ok (.iconst 0, 1) := by decide +kernel
theorem dJ7_fill_53178_1 : decode cJ7_fill_53178 1 = .ok (.istore_n 2, 1) := by decide +kernel
theorem dJ7_fill_53178_2 : decode cJ7_fill_53178 2 = .ok (.aload_n 0, 1) := by decide +kernel
theorem dJ7_fill_53178_3 : decode cJ7_fill_53178 3 = .ok (.arraylength, 1) := by decide +kernel
theorem dJ7_fill_53178_4 : decode cJ7_fill_53178 4 = .ok (.istore_n 3, 1) := by decide +kernel
theorem dJ7_fill_53178_5 : decode cJ7_fill_53178 5 = .ok (.iload_n 2, 1) := by decide +kernel
theorem dJ7_fill_53178_6 : decode cJ7_fill_53178 6 = .ok (.iload_n 3, 1) := by decide +kernel
theorem dJ7_fill_53178_7 : decode cJ7_fill_53178 7 = .ok (.if_icmp .ge 13, 3) := by decide +kernel
theorem dJ7_fill_53178_10 : decode cJ7_fill_53178 10 = .ok (.aload_n 0, 1) := by decide +kernel
theorem dJ7_fill_53178_11 : decode cJ7_fill_53178 11 = .ok (.iload_n 2, 1) := by decide +kernel
theorem dJ7_fill_53178_12 : decode cJ7_fill_53178 12 = .ok (.iload_n 1, 1) := by decide +kernel
theorem dJ7_fill_53178_13 : decode cJ7_fill_53178 13 = .ok (.iastore, 1) := by decide +kernel
theorem dJ7_fill_53178_14 : decode cJ7_fill_53178 14 = .ok (.iinc 2 1, 3) := by decide +kernel
theorem dJ7_fill_53178_17 : decode cJ7_fill_53178 17 = .ok (.goto (-12), 3) := by decide +kernel
theorem dJ7_fill_53178_20 : decode cJ7_fill_53178 20 = .ok (.return_, 1) := by decide +kernel
theorem dL_law_0 : decode cL_law 0 = .ok (.new 7, 3) := by decide +kernel
theorem dL_law_3 : decode cL_law 3 = .ok (.dup, 1) := by decide +kernel
theorem dL_law_4 : decode cL_law 4 = .ok (.invokespecial 9, 3) := by decide +kernel
theorem dL_law_7 : decode cL_law 7 = .ok (.astore_n 1, 1) := by decide +kernel
theorem dL_law_8 : decode cL_law 8 = .ok (.new 10, 3) := by decide +kernel
theorem dL_law_11 : decode cL_law 11 = .ok (.dup, 1) := by decide +kernel
theorem dL_law_12 : decode cL_law 12 = .ok (.invokespecial 12, 3) := by decide +kernel
theorem dL_law_15 : decode cL_law 15 = .ok (.astore_n 2, 1) := by decide +kernel
theorem dL_law_16 : decode cL_law 16 = .ok (.iconst 0, 1) := by decide +kernel
theorem dL_law_17 : decode cL_law 17 = .ok (.istore_n 3, 1) := by decide +kernel
theorem dL_law_18 : decode cL_law 18 = .ok (.iload_n 3, 1) := by decide +kernel
theorem dL_law_19 : decode cL_law 19 = .ok (.aload_n 0, 1) := by decide +kernel
theorem dL_law_20 : decode cL_law 20 = .ok (.arraylength, 1) := by decide +kernel
theorem dL_law_21 : decode cL_law 21 = .ok (.iconst 5, 1) := by decide +kernel
theorem dL_law_22 : decode cL_law 22 = .ok (.isub, 1) := by decide +kernel
theorem dL_law_23 : decode cL_law 23 = .ok (.if_icmp .gt 814, 3) := by decide +kernel
theorem dL_law_26 : decode cL_law 26 = .ok (.aload_n 0, 1) := by decide +kernel
theorem dL_law_27 : decode cL_law 27 = .ok (.iload_n 3, 1) := by decide +kernel
theorem dL_law_28 : decode cL_law 28 = .ok (.iaload, 1) := by decide +kernel
theorem dL_law_29 : decode cL_law 29 = .ok (.bipush 31, 2) := by decide +kernel
theorem dL_law_31 : decode cL_law 31 = .ok (.iand, 1) := by decide +kernel
theorem dL_law_32 : decode cL_law 32 = .ok (.tableswitch 799 0 20 #[100, 123, 156, 199, 242, 285, 338, 371, 394, 427, 460, 483, 526, 559, 582, 615, 648, 691, 724, 737, 776], 100) := by decide +kernel
theorem dL_law_132 : decode cL_law 132 = .ok (.aload_n 1, 1) := by decide +kernel
theorem dL_law_133 : decode cL_law 133 = .ok (.aload_n 0, 1) := by decide +kernel
theorem dL_law_134 : decode cL_law 134 = .ok (.iload_n 3, 1) := by decide +kernel
theorem dL_law_135 : decode cL_law 135 = .ok (.iconst 1, 1) := by decide +kernel
theorem dL_law_136 : decode cL_law 136 = .ok (.iadd, 1) := by decide +kernel
theorem dL_law_137 : decode cL_law 137 = .ok (.iaload, 1) := by decide +kernel
theorem dL_law_138 : decode cL_law 138 = .ok (.invokevirtual 13, 3) := by decide +kernel
theorem dL_law_141 : decode cL_law 141 = .ok (.aload_n 2, 1) := by decide +kernel
theorem dL_law_142 : decode cL_law 142 = .ok (.aload_n 0, 1) := by decide +kernel
theorem dL_law_143 : decode cL_law 143 = .ok (.iload_n 3, 1) := by decide +kernel
theorem dL_law_144 : decode cL_law 144 = .ok (.iconst 1, 1) := by decide +kernel
theorem dL_law_145 : decode cL_law 145 = .ok (.iadd, 1) := by decide +kernel
theorem dL_law_146 : decode cL_law 146 = .ok (.iaload, 1) := by decide +kernel
theorem dL_law_147 : decode cL_law 147 = .ok (.invokevirtual 17, 3) := by decide +kernel
theorem dL_law_150 : decode cL_law 150 = .ok (.if_icmp .eq 681, 3) := by decide +kernel
theorem dL_law_153 : decode cL_law 153 = .ok (.iconst 0, 1) := by decide +kernel
theorem dL_law_154 : decode cL_law 154 = .ok (.ireturn, 1) := by decide +kernel
theorem dL_law_155 : decode cL_law 155 = .ok (.aload_n 1, 1) := by decide +kernel
theorem dL_law_156 : decode cL_law 156 = .ok (.aload_n 0, 1) := by decide +kernel
theorem dL_law_157 : decode cL_law 157 = .ok (.iload_n 3, 1) := by decide +kernel
theorem dL_law_158 : decode cL_law 158 = .ok (.iconst 1, 1) := by decide +kernel
theorem dL_law_159 : decode cL_law 159 = .ok (.iadd, 1) := by decide +kernel
theorem dL_law_160 : decode cL_law 160 = .ok (.iaload, 1) := by decide +kernel
theorem dL_law_161 : decode cL_law 161 = .ok (.aload_n 0, 1) := by decide +kernel
theorem dL_law_162 : decode cL_law 162 = .ok (.iload_n 3, 1) := by decide +kernel
theorem dL_law_163 : decode cL_law 163 = .ok (.iconst 2, 1) := by decide +kernel
theorem dL_law_164 : decode cL_law 164 = .ok (.iadd, 1) := by decide +kernel
theorem dL_law_165 : decode cL_law 165 = .ok (.iaload, 1) := by decide +kernel
theorem dL_law_166 : decode cL_law 166 = .ok (.invokevirtual 18, 3) := by decide +kernel
theorem dL_law_169 : decode cL_law 169 = .ok (.aload_n 2, 1) := by decide +kernel
theorem dL_law_170 : decode cL_law 170 = .ok (.aload_n 0, 1) := by decide +kernel
theorem dL_law_171 : decode cL_law 171 = .ok (.iload_n 3, 1) := by decide +kernel
theorem dL_law_172 : decode cL_law 172 = .ok (.iconst 1, 1) := by decide +kernel
theorem dL_law_173 : decode cL_law 173 = .ok (.iadd, 1) := by decide +kernel
theorem dL_law_174 : decode cL_law 174 = .ok (.iaload, 1) := by decide +kernel
theorem dL_law_175 : decode cL_law 175 = .ok (.aload_n 0, 1) := by decide +kernel
theorem dL_law_176 : decode cL_law 176 = .ok (.iload_n 3, 1) := by decide +kernel
theorem dL_law_177 : decode cL_law 177 = .ok (.iconst 2, 1) := by decide +kernel
theorem dL_law_178 : decode cL_law 178 = .ok (.iadd, 1) := by decide +kernel
theorem dL_law_179 : decode cL_law 179 = .ok (.iaload, 1) := by decide +kernel
theorem dL_law_180 : decode cL_law 180 = .ok (.invokevirtual 22, 3) := by decide +kernel
theorem dL_law_183 : decode cL_law 183 = .ok (.if_icmp .eq 648, 3) := by decide +kernel
theorem dL_law_186 : decode cL_law 186 = .ok (.iconst 0, 1) := by decide +kernel
theorem dL_law_187 : decode cL_law 187 = .ok (.ireturn, 1) := by decide +kernel
theorem dL_law_188 : decode cL_law 188 = .ok (.aload_n 1, 1) := by decide +kernel
theorem dL_law_189 : decode cL_law 189 = .ok (.aload_n 0, 1) := by decide +kernel
theorem dL_law_190 : decode cL_law 190 = .ok (.iload_n 3, 1) := by decide +kernel
theorem dL_law_191 : decode cL_law 191 = .ok (.iconst 1, 1) := by decide +kernel
theorem dL_law_192 : decode cL_law 192 = .ok (.iadd, 1) := by decide +kernel
theorem dL_law_193 : decode cL_law 193 = .ok (.iaload, 1) := by decide +kernel
theorem dL_law_194 : decode cL_law 194 = .ok (.aload_n 0, 1) := by decide +kernel
theorem dL_law_195 : decode cL_law 195 = .ok (.iload_n 3, 1) := by decide +kernel
theorem dL_law_196 : decode cL_law 196 = .ok (.iconst 2, 1) := by decide +kernel
theorem dL_law_197 : decode cL_law 197 = .ok (.iadd, 1) := by decide +kernel
theorem dL_law_198 : decode cL_law 198 = .ok (.iaload, 1) := by decide +kernel
theorem dL_law_199 : decode cL_law 199 = .ok (.aload_n 0, 1) := by decide +kernel
theorem dL_law_200 : decode cL_law 200 = .ok (.iload_n 3, 1) := by decide +kernel
theorem dL_law_201 : decode cL_law 201 = .ok (.iconst 3, 1) := by decide +kernel
theorem dL_law_202 : decode cL_law 202 = .ok (.iadd, 1) := by decide +kernel
theorem dL_law_203 : decode cL_law 203 = .ok (.iaload, 1) := by decide +kernel
theorem dL_law_204 : decode cL_law 204 = .ok (.invokevirtual 23, 3) := by decide +kernel
theorem dL_law_207 : decode cL_law 207 = .ok (.aload_n 2, 1) := by decide +kernel
theorem dL_law_208 : decode cL_law 208 = .ok (.aload_n 0, 1) := by decide +kernel
theorem dL_law_209 : decode cL_law 209 = .ok (.iload_n 3, 1) := by decide +kernel
theorem dL_law_210 : decode cL_law 210 = .ok (.iconst 1, 1) := by decide +kernel
theorem dL_law_211 : decode cL_law 211 = .ok (.iadd, 1) := by decide +kernel
theorem dL_law_212 : decode cL_law 212 = .ok (.iaload, 1) := by decide +kernel
theorem dL_law_213 : decode cL_law 213 = .ok (.aload_n 0, 1) := by decide +kernel
theorem dL_law_214 : decode cL_law 214 = .ok (.iload_n 3, 1) := by decide +kernel
theorem dL_law_215 : decode cL_law 215 = .ok (.iconst 2, 1) := by decide +kernel
theorem dL_law_216 : decode cL_law 216 = .ok (.iadd, 1) := by decide +kernel
theorem dL_law_217 : decode cL_law 217 = .ok (.iaload, 1) := by decide +kernel
theorem dL_law_218 : decode cL_law 218 = .ok (.aload_n 0, 1) := by decide +kernel
theorem dL_law_219 : decode cL_law 219 = .ok (.iload_n 3, 1) := by decide +kernel
theorem dL_law_220 : decode cL_law 220 = .ok (.iconst 3, 1) := by decide +kernel
theorem dL_law_221 : decode cL_law 221 = .ok (.iadd, 1) := by decide +kernel
theorem dL_law_222 : decode cL_law 222 = .ok (.iaload, 1) := by decide +kernel
theorem dL_law_223 : decode cL_law 223 = .ok (.invokevirtual 27, 3) := by decide +kernel
theorem dL_law_226 : decode cL_law 226 = .ok (.if_icmp .eq 605, 3) := by decide +kernel
theorem dL_law_229 : decode cL_law 229 = .ok (.iconst 0, 1) := by decide +kernel
theorem dL_law_230 : decode cL_law 230 = .ok (.ireturn, 1) := by decide +kernel
theorem dL_law_231 : decode cL_law 231 = .ok (.aload_n 1, 1) := by decide +kernel
theorem dL_law_232 : decode cL_law 232 = .ok (.aload_n 0, 1) := by decide +kernel
theorem dL_law_233 : decode cL_law 233 = .ok (.iload_n 3, 1) := by decide +kernel
theorem dL_law_234 : decode cL_law 234 = .ok (.iconst 1, 1) := by decide +kernel
theorem dL_law_235 : decode cL_law 235 = .ok (.iadd, 1) := by decide +kernel
theorem dL_law_236 : decode cL_law 236 = .ok (.iaload, 1) := by decide +kernel
theorem dL_law_237 : decode cL_law 237 = .ok (.aload_n 0, 1) := by decide +kernel
theorem dL_law_238 : decode cL_law 238 = .ok (.iload_n 3, 1) := by decide +kernel
theorem dL_law_239 : decode cL_law 239 = .ok (.iconst 2, 1) := by decide +kernel
theorem dL_law_240 : decode cL_law 240 = .ok (.iadd, 1) := by decide +kernel
theorem dL_law_241 : decode cL_law 241 = .ok (.iaload, 1) := by decide +kernel
theorem dL_law_242 : decode cL_law 242 = .ok (.aload_n 0, 1) := by decide +kernel
theorem dL_law_243 : decode cL_law 243 = .ok (.iload_n 3, 1) := by decide +kernel
theorem dL_law_244 : decode cL_law 244 = .ok (.iconst 3, 1) := by decide +kernel
theorem dL_law_245 : decode cL_law 245 = .ok (.iadd, 1) := by decide +kernel
theorem dL_law_246 : decode cL_law 246 = .ok (.iaload, 1) := by decide +kernel
theorem dL_law_247 : decode cL_law 247 = .ok (.invokevirtual 28, 3) := by decide +kernel
theorem dL_law_250 : decode cL_law 250 = .ok (.aload_n 2, 1) := by decide +kernel
theorem dL_law_251 : decode cL_law 251 = .ok (.aload_n 0, 1) := by decide +kernel
theorem dL_law_252 : decode cL_law 252 = .ok (.iload_n 3, 1) := by decide +kernel
theorem dL_law_253 : decode cL_law 253 = .ok (.iconst 1, 1) := by decide +kernel
theorem dL_law_254 : decode cL_law 254 = .ok (.iadd, 1) := by decide +kernel
theorem dL_law_255 : decode cL_law 255 = .ok (.iaload, 1) := by decide +kernel
theorem dL_law_256 : decode cL_law 256 = .ok (.aload_n 0, 1) := by decide +kernel
theorem dL_law_257 : decode cL_law 257 = .ok (.iload_n 3, 1) := by decide +kernel
theorem dL_law_258 : decode cL_law 258 = .ok (.iconst 2, 1) := by decide +kernel
theorem dL_law_259 : decode cL_law 259 = .ok (.iadd, 1) := by decide +kernel
theorem dL_law_260 : decode cL_law 260 = .ok (.iaload, 1) := by decide +kernel
theorem dL_law_261 : decode cL_law 261 = .ok (.aload_n 0, 1) := by decide +kernel
theorem dL_law_262 : decode cL_law 262 = .ok (.iload_n 3, 1) := by decide +kernel
theorem dL_law_263 : decode cL_law 263 = .ok (.iconst 3, 1) := by decide +kernel
theorem dL_law_264 : decode cL_law 264 = .ok (.iadd, 1) := by decide +kernel
theorem dL_law_265 : decode cL_law 265 = .ok (.iaload, 1) := by decide +kernel
theorem dL_law_266 : decode cL_law 266 = .ok (.invokevirtual 31, 3) := by decide +kernel
theorem dL_law_269 : decode cL_law 269 = .ok (.if_icmp .eq 562, 3) := by decide +kernel
theorem dL_law_272 : decode cL_law 272 = .ok (.iconst 0, 1) := by decide +kernel
theorem dL_law_273 : decode cL_law 273 = .ok (.ireturn, 1) := by decide +kernel
theorem dL_law_274 : decode cL_law 274 = .ok (.aload_n 1, 1) := by decide +kernel
theorem dL_law_275 : decode cL_law 275 = .ok (.aload_n 0, 1) := by decide +kernel
theorem dL_law_276 : decode cL_law 276 = .ok (.iload_n 3, 1) := by decide +kernel
theorem dL_law_277 : decode cL_law 277 = .ok (.iconst 1, 1) := by decide +kernel
theorem dL_law_278 : decode cL_law 278 = .ok (.iadd, 1) := by decide +kernel
theorem dL_law_279 : decode cL_law 279 = .ok (.iaload, 1) := by decide +kernel
theorem dL_law_280 : decode cL_law 280 = .ok (.aload_n 0, 1) := by decide +kernel
theorem dL_law_281 : decode cL_law 281 = .ok (.iload_n 3, 1) := by decide +kernel
theorem dL_law_282 : decode cL_law 282 = .ok (.iconst 2, 1) := by decide +kernel
theorem dL_law_283 : decode cL_law 283 = .ok (.iadd, 1) := by decide +kernel
theorem dL_law_284 : decode cL_law 284 = .ok (.iaload, 1) := by decide +kernel
theorem dL_law_285 : decode cL_law 285 = .ok (.aload_n 0, 1) := by decide +kernel
theorem dL_law_286 : decode cL_law 286 = .ok (.iload_n 3, 1) := by decide +kernel
theorem dL_law_287 : decode cL_law 287 = .ok (.iconst 3, 1) := by decide +kernel
theorem dL_law_288 : decode cL_law 288 = .ok (.iadd, 1) := by decide +kernel
theorem dL_law_289 : decode cL_law 289 = .ok (.iaload, 1) := by decide +kernel
theorem dL_law_290 : decode cL_law 290 = .ok (.invokevirtual 32, 3) := by decide +kernel
theorem dL_law_293 : decode cL_law 293 = .ok (.aload_n 2, 1) := by decide +kernel
theorem dL_law_294 : decode cL_law 294 = .ok (.aload_n 0, 1) := by decide +kernel
theorem dL_law_295 : decode cL_law 295 = .ok (.iload_n 3, 1) := by decide +kernel
theorem dL_law_296 : decode cL_law 296 = .ok (.iconst 1, 1) := by decide +kernel
theorem dL_law_297 : decode cL_law 297 = .ok (.iadd, 1) := by decide +kernel
theorem dL_law_298 : decode cL_law 298 = .ok (.iaload, 1) := by decide +kernel
theorem dL_law_299 : decode cL_law 299 = .ok (.aload_n 0, 1) := by decide +kernel
theorem dL_law_300 : decode cL_law 300 = .ok (.iload_n 3, 1) := by decide +kernel
theorem dL_law_301 : decode cL_law 301 = .ok (.iconst 2, 1) := by decide +kernel
theorem dL_law_302 : decode cL_law 302 = .ok (.iadd, 1) := by decide +kernel
theorem dL_law_303 : decode cL_law 303 = .ok (.iaload, 1) := by decide +kernel
theorem dL_law_304 : decode cL_law 304 = .ok (.aload_n 0, 1) := by decide +kernel
theorem dL_law_305 : decode cL_law 305 = .ok (.iload_n 3, 1) := by decide +kernel
theorem dL_law_306 : decode cL_law 306 = .ok (.iconst 3, 1) := by decide +kernel
theorem dL_law_307 : decode cL_law 307 = .ok (.iadd, 1) := by decide +kernel
theorem dL_law_308 : decode cL_law 308 = .ok (.iaload, 1) := by decide +kernel
theorem dL_law_309 : decode cL_law 309 = .ok (.invokevirtual 35, 3) := by decide +kernel
theorem dL_law_312 : decode cL_law 312 = .ok (.if_icmp .eq 519, 3) := by decide +kernel
theorem dL_law_315 : decode cL_law 315 = .ok (.iconst 0, 1) := by decide +kernel
theorem dL_law_316 : decode cL_law 316 = .ok (.ireturn, 1) := by decide +kernel
theorem dL_law_317 : decode cL_law 317 = .ok (.aload_n 1, 1) := by decide +kernel
theorem dL_law_318 : decode cL_law 318 = .ok (.aload_n 0, 1) := by decide +kernel
theorem dL_law_319 : decode cL_law 319 = .ok (.iload_n 3, 1) := by decide +kernel
theorem dL_law_320 : decode cL_law 320 = .ok (.iconst 1, 1) := by decide +kernel
theorem dL_law_321 : decode cL_law 321 = .ok (.iadd, 1) := by decide +kernel
theorem dL_law_322 : decode cL_law 322 = .ok (.iaload, 1) := by decide +kernel
theorem dL_law_323 : decode cL_law 323 = .ok (.aload_n 0, 1) := by decide +kernel
theorem dL_law_324 : decode cL_law 324 = .ok (.iload_n 3, 1) := by decide +kernel
theorem dL_law_325 : decode cL_law 325 = .ok (.iconst 2, 1) := by decide +kernel
theorem dL_law_326 : decode cL_law 326 = .ok (.iadd, 1) := by decide +kernel
theorem dL_law_327 : decode cL_law 327 = .ok (.iaload, 1) := by decide +kernel
theorem dL_law_328 : decode cL_law 328 = .ok (.aload_n 0, 1) := by decide +kernel
theorem dL_law_329 : decode cL_law 329 = .ok (.iload_n 3, 1) := by decide +kernel
theorem dL_law_330 : decode cL_law 330 = .ok (.iconst 3, 1) := by decide +kernel
theorem dL_law_331 : decode cL_law 331 = .ok (.iadd, 1) := by decide +kernel
theorem dL_law_332 : decode cL_law 332 = .ok (.iaload, 1) := by decide +kernel
theorem dL_law_333 : decode cL_law 333 = .ok (.aload_n 0, 1) := by decide +kernel
theorem dL_law_334 : decode cL_law 334 = .ok (.iload_n 3, 1) := by decide +kernel
theorem dL_law_335 : decode cL_law 335 = .ok (.iconst 4, 1) := by decide +kernel
theorem dL_law_336 : decode cL_law 336 = .ok (.iadd, 1) := by decide +kernel
theorem dL_law_337 : decode cL_law 337 = .ok (.iaload, 1) := by decide +kernel
theorem dL_law_338 : decode cL_law 338 = .ok (.invokevirtual 36, 3) := by decide +kernel
theorem dL_law_341 : decode cL_law 341 = .ok (.aload_n 2, 1) := by decide +kernel
theorem dL_law_342 : decode cL_law 342 = .ok (.aload_n 0, 1) := by decide +kernel
theorem dL_law_343 : decode cL_law 343 = .ok (.iload_n 3, 1) := by decide +kernel
theorem dL_law_344 : decode cL_law 344 = .ok (.iconst 1, 1) := by decide +kernel
theorem dL_law_345 : decode cL_law 345 = .ok (.iadd, 1) := by decide +kernel
theorem dL_law_346 : decode cL_law 346 = .ok (.iaload, 1) := by decide +kernel
theorem dL_law_347 : decode cL_law 347 = .ok (.aload_n 0, 1) := by decide +kernel
theorem dL_law_348 : decode cL_law 348 = .ok (.iload_n 3, 1) := by decide +kernel
theorem dL_law_349 : decode cL_law 349 = .ok (.iconst 2, 1) := by decide +kernel
theorem dL_law_350 : decode cL_law 350 = .ok (.iadd, 1) := by decide +kernel
theorem dL_law_351 : decode cL_law 351 = .ok (.iaload, 1) := by decide +kernel
theorem dL_law_352 : decode cL_law 352 = .ok (.aload_n 0, 1) := by decide +kernel
theorem dL_law_353 : decode cL_law 353 = .ok (.iload_n 3, 1) := by decide +kernel
theorem dL_law_354 : decode cL_law 354 = .ok (.iconst 3, 1) := by decide +kernel
theorem dL_law_355 : decode cL_law 355 = .ok (.iadd, 1) := by decide +kernel
theorem dL_law_356 : decode cL_law 356 = .ok (.iaload, 1) := by decide +kernel
theorem dL_law_357 : decode cL_law 357 = .ok (.aload_n 0, 1) := by decide +kernel
theorem dL_law_358 : decode cL_law 358 = .ok (.iload_n 3, 1) := by decide +kernel
theorem dL_law_359 : decode cL_law 359 = .ok (.iconst 4, 1) := by decide +kernel
theorem dL_law_360 : decode cL_law 360 = .ok (.iadd, 1) := by decide +kernel
theorem dL_law_361 : decode cL_law 361 = .ok (.iaload, 1) := by decide +kernel
theorem dL_law_362 : decode cL_law 362 = .ok (.invokevirtual 40, 3) := by decide +kernel
theorem dL_law_365 : decode cL_law 365 = .ok (.if_icmp .eq 466, 3) := by decide +kernel
theorem dL_law_368 : decode cL_law 368 = .ok (.iconst 0, 1) := by decide +kernel
theorem dL_law_369 : decode cL_law 369 = .ok (.ireturn, 1) := by decide +kernel
theorem dL_law_370 : decode cL_law 370 = .ok (.aload_n 1, 1) := by decide +kernel
theorem dL_law_371 : decode cL_law 371 = .ok (.aload_n 0, 1) := by decide +kernel
theorem dL_law_372 : decode cL_law 372 = .ok (.iload_n 3, 1) := by decide +kernel
theorem dL_law_373 : decode cL_law 373 = .ok (.iconst 1, 1) := by decide +kernel
theorem dL_law_374 : decode cL_law 374 = .ok (.iadd, 1) := by decide +kernel
theorem dL_law_375 : decode cL_law 375 = .ok (.iaload, 1) := by decide +kernel
theorem dL_law_376 : decode cL_law 376 = .ok (.aload_n 0, 1) := by decide +kernel
theorem dL_law_377 : decode cL_law 377 = .ok (.iload_n 3, 1) := by decide +kernel
theorem dL_law_378 : decode cL_law 378 = .ok (.iconst 2, 1) := by decide +kernel
theorem dL_law_379 : decode cL_law 379 = .ok (.iadd, 1) := by decide +kernel
theorem dL_law_380 : decode cL_law 380 = .ok (.iaload, 1) := by decide +kernel
theorem dL_law_381 : decode cL_law 381 = .ok (.invokevirtual 41, 3) := by decide +kernel
theorem dL_law_384 : decode cL_law 384 = .ok (.aload_n 2, 1) := by decide +kernel
theorem dL_law_385 : decode cL_law 385 = .ok (.aload_n 0, 1) := by decide +kernel
theorem dL_law_386 : decode cL_law 386 = .ok (.iload_n 3, 1) := by decide +kernel
theorem dL_law_387 : decode cL_law 387 = .ok (.iconst 1, 1) := by decide +kernel
theorem dL_law_388 : decode cL_law 388 = .ok (.iadd, 1) := by decide +kernel
theorem dL_law_389 : decode cL_law 389 = .ok (.iaload, 1) := by decide +kernel
theorem dL_law_390 : decode cL_law 390 = .ok (.aload_n 0, 1) := by decide +kernel
theorem dL_law_391 : decode cL_law 391 = .ok (.iload_n 3, 1) := by decide +kernel
theorem dL_law_392 : decode cL_law 392 = .ok (.iconst 2, 1) := by decide +kernel
theorem dL_law_393 : decode cL_law 393 = .ok (.iadd, 1) := by decide +kernel
theorem dL_law_394 : decode cL_law 394 = .ok (.iaload, 1) := by decide +kernel
theorem dL_law_395 : decode cL_law 395 = .ok (.invokevirtual 44, 3) := by decide +kernel
theorem dL_law_398 : decode cL_law 398 = .ok (.if_icmp .eq 433, 3) := by decide +kernel
theorem dL_law_401 : decode cL_law 401 = .ok (.iconst 0, 1) := by decide +kernel
theorem dL_law_402 : decode cL_law 402 = .ok (.ireturn, 1) := by decide +kernel
theorem dL_law_403 : decode cL_law 403 = .ok (.aload_n 1, 1) := by decide +kernel
theorem dL_law_404 : decode cL_law 404 = .ok (.aload_n 0, 1) := by decide +kernel
theorem dL_law_405 : decode cL_law 405 = .ok (.iload_n 3, 1) := by decide +kernel
theorem dL_law_406 : decode cL_law 406 = .ok (.iconst 1, 1) := by decide +kernel
theorem dL_law_407 : decode cL_law 407 = .ok (.iadd, 1) := by decide +kernel
theorem dL_law_408 : decode cL_law 408 = .ok (.iaload, 1) := by decide +kernel
theorem dL_law_409 : decode cL_law 409 = .ok (.invokevirtual 45, 3) := by decide +kernel
theorem dL_law_412 : decode cL_law 412 = .ok (.aload_n 2, 1) := by decide +kernel
theorem dL_law_413 : decode cL_law 413 = .ok (.aload_n 0, 1) := by decide +kernel
theorem dL_law_414 : decode cL_law 414 = .ok (.iload_n 3, 1) := by decide +kernel
theorem dL_law_415 : decode cL_law 415 = .ok (.iconst 1, 1) := by decide +kernel
theorem dL_law_416 : decode cL_law 416 = .ok (.iadd, 1) := by decide +kernel
theorem dL_law_417 : decode cL_law 417 = .ok (.iaload, 1) := by decide +kernel
theorem dL_law_418 : decode cL_law 418 = .ok (.invokevirtual 48, 3) := by decide +kernel
theorem dL_law_421 : decode cL_law 421 = .ok (.if_icmp .eq 410, 3) := by decide +kernel
theorem dL_law_424 : decode cL_law 424 = .ok (.iconst 0, 1) := by decide +kernel
theorem dL_law_425 : decode cL_law 425 = .ok (.ireturn, 1) := by decide +kernel
theorem dL_law_426 : decode cL_law 426 = .ok (.aload_n 1, 1) := by decide +kernel
theorem dL_law_427 : decode cL_law 427 = .ok (.aload_n 0, 1) := by decide +kernel
theorem dL_law_428 : decode cL_law 428 = .ok (.iload_n 3, 1) := by decide +kernel
theorem dL_law_429 : decode cL_law 429 = .ok (.iconst 1, 1) := by decide +kernel
theorem dL_law_430 : decode cL_law 430 = .ok (.iadd, 1) := by decide +kernel
theorem dL_law_431 : decode cL_law 431 = .ok (.iaload, 1) := by decide +kernel
theorem dL_law_432 : decode cL_law 432 = .ok (.aload_n 0, 1) := by decide +kernel
theorem dL_law_433 : decode cL_law 433 = .ok (.iload_n 3, 1) := by decide +kernel
theorem dL_law_434 : decode cL_law 434 = .ok (.iconst 2, 1) := by decide +kernel
theorem dL_law_435 : decode cL_law 435 = .ok (.iadd, 1) := by decide +kernel
theorem dL_law_436 : decode cL_law 436 = .ok (.iaload, 1) := by decide +kernel
theorem dL_law_437 : decode cL_law 437 = .ok (.invokevirtual 49, 3) := by decide +kernel
theorem dL_law_440 : decode cL_law 440 = .ok (.aload_n 2, 1) := by decide +kernel
theorem dL_law_441 : decode cL_law 441 = .ok (.aload_n 0, 1) := by decide +kernel
theorem dL_law_442 : decode cL_law 442 = .ok (.iload_n 3, 1) := by decide +kernel
theorem dL_law_443 : decode cL_law 443 = .ok (.iconst 1, 1) := by decide +kernel
theorem dL_law_444 : decode cL_law 444 = .ok (.iadd, 1) := by decide +kernel
theorem dL_law_445 : decode cL_law 445 = .ok (.iaload, 1) := by decide +kernel
theorem dL_law_446 : decode cL_law 446 = .ok (.aload_n 0, 1) := by decide +kernel
theorem dL_law_447 : decode cL_law 447 = .ok (.iload_n 3, 1) := by decide +kernel
theorem dL_law_448 : decode cL_law 448 = .ok (.iconst 2, 1) := by decide +kernel
theorem dL_law_449 : decode cL_law 449 = .ok (.iadd, 1) := by decide +kernel
theorem dL_law_450 : decode cL_law 450 = .ok (.iaload, 1) := by decide +kernel
theorem dL_law_451 : decode cL_law 451 = .ok (.invokevirtual 53, 3) := by decide +kernel
theorem dL_law_454 : decode cL_law 454 = .ok (.if_icmp .eq 377, 3) := by decide +kernel
theorem dL_law_457 : decode cL_law 457 = .ok (.iconst 0, 1) := by decide +kernel
theorem dL_law_458 : decode cL_law 458 = .ok (.ireturn, 1) := by decide +kernel
theorem dL_law_459 : decode cL_law 459 = .ok (.aload_n 1, 1) := by decide +kernel
theorem dL_law_460 : decode cL_law 460 = .ok (.aload_n 0, 1) := by decide +kernel
theorem dL_law_461 : decode cL_law 461 = .ok (.iload_n 3, 1) := by decide +kernel
theorem dL_law_462 : decode cL_law 462 = .ok (.iconst 1, 1) := by decide +kernel
theorem dL_law_463 : decode cL_law 463 = .ok (.iadd, 1) := by decide +kernel
theorem dL_law_464 : decode cL_law 464 = .ok (.iaload, 1) := by decide +kernel
theorem dL_law_465 : decode cL_law 465 = .ok (.aload_n 0, 1) := by decide +kernel
theorem dL_law_466 : decode cL_law 466 = .ok (.iload_n 3, 1) := by decide +kernel
theorem dL_law_467 : decode cL_law 467 = .ok (.iconst 2, 1) := by decide +kernel
theorem dL_law_468 : decode cL_law 468 = .ok (.iadd, 1) := by decide +kernel
theorem dL_law_469 : decode cL_law 469 = .ok (.iaload, 1) := by decide +kernel
theorem dL_law_470 : decode cL_law 470 = .ok (.invokevirtual 54, 3) := by decide +kernel
theorem dL_law_473 : decode cL_law 473 = .ok (.aload_n 2, 1) := by decide +kernel
theorem dL_law_474 : decode cL_law 474 = .ok (.aload_n 0, 1) := by decide +kernel
theorem dL_law_475 : decode cL_law 475 = .ok (.iload_n 3, 1) := by decide +kernel
theorem dL_law_476 : decode cL_law 476 = .ok (.iconst 1, 1) := by decide +kernel
theorem dL_law_477 : decode cL_law 477 = .ok (.iadd, 1) := by decide +kernel
theorem dL_law_478 : decode cL_law 478 = .ok (.iaload, 1) := by decide +kernel
theorem dL_law_479 : decode cL_law 479 = .ok (.aload_n 0, 1) := by decide +kernel
theorem dL_law_480 : decode cL_law 480 = .ok (.iload_n 3, 1) := by decide +kernel
theorem dL_law_481 : decode cL_law 481 = .ok (.iconst 2, 1) := by decide +kernel
theorem dL_law_482 : decode cL_law 482 = .ok (.iadd, 1) := by decide +kernel
theorem dL_law_483 : decode cL_law 483 = .ok (.iaload, 1) := by decide +kernel
theorem dL_law_484 : decode cL_law 484 = .ok (.invokevirtual 57, 3) := by decide +kernel
theorem dL_law_487 : decode cL_law 487 = .ok (.if_icmp .eq 344, 3) := by decide +kernel
theorem dL_law_490 : decode cL_law 490 = .ok (.iconst 0, 1) := by decide +kernel
theorem dL_law_491 : decode cL_law 491 = .ok (.ireturn, 1) := by decide +kernel
theorem dL_law_492 : decode cL_law 492 = .ok (.aload_n 1, 1) := by decide +kernel
theorem dL_law_493 : decode cL_law 493 = .ok (.aload_n 0, 1) := by decide +kernel
theorem dL_law_494 : decode cL_law 494 = .ok (.iload_n 3, 1) := by decide +kernel
theorem dL_law_495 : decode cL_law 495 = .ok (.iconst 1, 1) := by decide +kernel
theorem dL_law_496 : decode cL_law 496 = .ok (.iadd, 1) := by decide +kernel
theorem dL_law_497 : decode cL_law 497 = .ok (.iaload, 1) := by decide +kernel
theorem dL_law_498 : decode cL_law 498 = .ok (.invokevirtual 58, 3) := by decide +kernel
theorem dL_law_501 : decode cL_law 501 = .ok (.aload_n 2, 1) := by decide +kernel
theorem dL_law_502 : decode cL_law 502 = .ok (.aload_n 0, 1) := by decide +kernel
theorem dL_law_503 : decode cL_law 503 = .ok (.iload_n 3, 1) := by decide +kernel
theorem dL_law_504 : decode cL_law 504 = .ok (.iconst 1, 1) := by decide +kernel
theorem dL_law_505 : decode cL_law 505 = .ok (.iadd, 1) := by decide +kernel
theorem dL_law_506 : decode cL_law 506 = .ok (.iaload, 1) := by decide +kernel
theorem dL_law_507 : decode cL_law 507 = .ok (.invokevirtual 61, 3) := by decide +kernel
theorem dL_law_510 : decode cL_law 510 = .ok (.if_icmp .eq 321, 3) := by decide +kernel
theorem dL_law_513 : decode cL_law 513 = .ok (.iconst 0, 1) := by decide +kernel
theorem dL_law_514 : decode cL_law 514 = .ok (.ireturn, 1) := by decide +kernel
theorem dL_law_515 : decode cL_law 515 = .ok (.aload_n 1, 1) := by decide +kernel
theorem dL_law_516 : decode cL_law 516 = .ok (.aload_n 0, 1) := by decide +kernel
theorem dL_law_517 : decode cL_law 517 = .ok (.iload_n 3, 1) := by decide +kernel
theorem dL_law_518 : decode cL_law 518 = .ok (.iconst 1, 1) := by decide +kernel
theorem dL_law_519 : decode cL_law 519 = .ok (.iadd, 1) := by decide +kernel
theorem dL_law_520 : decode cL_law 520 = .ok (.iaload, 1) := by decide +kernel
theorem dL_law_521 : decode cL_law 521 = .ok (.aload_n 0, 1) := by decide +kernel
theorem dL_law_522 : decode cL_law 522 = .ok (.iload_n 3, 1) := by decide +kernel
theorem dL_law_523 : decode cL_law 523 = .ok (.iconst 2, 1) := by decide +kernel
theorem dL_law_524 : decode cL_law 524 = .ok (.iadd, 1) := by decide +kernel
theorem dL_law_525 : decode cL_law 525 = .ok (.iaload, 1) := by decide +kernel
theorem dL_law_526 : decode cL_law 526 = .ok (.aload_n 0, 1) := by decide +kernel
theorem dL_law_527 : decode cL_law 527 = .ok (.iload_n 3, 1) := by decide +kernel
theorem dL_law_528 : decode cL_law 528 = .ok (.iconst 3, 1) := by decide +kernel
theorem dL_law_529 : decode cL_law 529 = .ok (.iadd, 1) := by decide +kernel
theorem dL_law_530 : decode cL_law 530 = .ok (.iaload, 1) := by decide +kernel
theorem dL_law_531 : decode cL_law 531 = .ok (.invokevirtual 62, 3) := by decide +kernel
theorem dL_law_534 : decode cL_law 534 = .ok (.aload_n 2, 1) := by decide +kernel
theorem dL_law_535 : decode cL_law 535 = .ok (.aload_n 0, 1) := by decide +kernel
theorem dL_law_536 : decode cL_law 536 = .ok (.iload_n 3, 1) := by decide +kernel
theorem dL_law_537 : decode cL_law 537 = .ok (.iconst 1, 1) := by decide +kernel
theorem dL_law_538 : decode cL_law 538 = .ok (.iadd, 1) := by decide +kernel
theorem dL_law_539 : decode cL_law 539 = .ok (.iaload, 1) := by decide +kernel
theorem dL_law_540 : decode cL_law 540 = .ok (.aload_n 0, 1) := by decide +kernel
theorem dL_law_541 : decode cL_law 541 = .ok (.iload_n 3, 1) := by decide +kernel
theorem dL_law_542 : decode cL_law 542 = .ok (.iconst 2, 1) := by decide +kernel
theorem dL_law_543 : decode cL_law 543 = .ok (.iadd, 1) := by decide +kernel
theorem dL_law_544 : decode cL_law 544 = .ok (.iaload, 1) := by decide +kernel
theorem dL_law_545 : decode cL_law 545 = .ok (.aload_n 0, 1) := by decide +kernel
theorem dL_law_546 : decode cL_law 546 = .ok (.iload_n 3, 1) := by decide +kernel
theorem dL_law_547 : decode cL_law 547 = .ok (.iconst 3, 1) := by decide +kernel
theorem dL_law_548 : decode cL_law 548 = .ok (.iadd, 1) := by decide +kernel
theorem dL_law_549 : decode cL_law 549 = .ok (.iaload, 1) := by decide +kernel
theorem dL_law_550 : decode cL_law 550 = .ok (.invokevirtual 65, 3) := by decide +kernel
theorem dL_law_553 : decode cL_law 553 = .ok (.if_icmp .eq 278, 3) := by decide +kernel
theorem dL_law_556 : decode cL_law 556 = .ok (.iconst 0, 1) := by decide +kernel
theorem dL_law_557 : decode cL_law 557 = .ok (.ireturn, 1) := by decide +kernel
theorem dL_law_558 : decode cL_law 558 = .ok (.aload_n 1, 1) := by decide +kernel
theorem dL_law_559 : decode cL_law 559 = .ok (.aload_n 0, 1) := by decide +kernel
theorem dL_law_560 : decode cL_law 560 = .ok (.iload_n 3, 1) := by decide +kernel
theorem dL_law_561 : decode cL_law 561 = .ok (.iconst 1, 1) := by decide +kernel
theorem dL_law_562 : decode cL_law 562 = .ok (.iadd, 1) := by decide +kernel
theorem dL_law_563 : decode cL_law 563 = .ok (.iaload, 1) := by decide +kernel
theorem dL_law_564 : decode cL_law 564 = .ok (.aload_n 0, 1) := by decide +kernel
theorem dL_law_565 : decode cL_law 565 = .ok (.iload_n 3, 1) := by decide +kernel
theorem dL_law_566 : decode cL_law 566 = .ok (.iconst 2, 1) := by decide +kernel
theorem dL_law_567 : decode cL_law 567 = .ok (.iadd, 1) := by decide +kernel
theorem dL_law_568 : decode cL_law 568 = .ok (.iaload, 1) := by decide +kernel
theorem dL_law_569 : decode cL_law 569 = .ok (.invokevirtual 66, 3) := by decide +kernel
theorem dL_law_572 : decode cL_law 572 = .ok (.aload_n 2, 1) := by decide +kernel
theorem dL_law_573 : decode cL_law 573 = .ok (.aload_n 0, 1) := by decide +kernel
theorem dL_law_574 : decode cL_law 574 = .ok (.iload_n 3, 1) := by decide +kernel
theorem dL_law_575 : decode cL_law 575 = .ok (.iconst 1, 1) := by decide +kernel
theorem dL_law_576 : decode cL_law 576 = .ok (.iadd, 1) := by decide +kernel
theorem dL_law_577 : decode cL_law 577 = .ok (.iaload, 1) := by decide +kernel
theorem dL_law_578 : decode cL_law 578 = .ok (.aload_n 0, 1) := by decide +kernel
theorem dL_law_579 : decode cL_law 579 = .ok (.iload_n 3, 1) := by decide +kernel
theorem dL_law_580 : decode cL_law 580 = .ok (.iconst 2, 1) := by decide +kernel
theorem dL_law_581 : decode cL_law 581 = .ok (.iadd, 1) := by decide +kernel
theorem dL_law_582 : decode cL_law 582 = .ok (.iaload, 1) := by decide +kernel
theorem dL_law_583 : decode cL_law 583 = .ok (.invokevirtual 69, 3) := by decide +kernel
theorem dL_law_586 : decode cL_law 586 = .ok (.if_icmp .eq 245, 3) := by decide +kernel
theorem dL_law_589 : decode cL_law 589 = .ok (.iconst 0, 1) := by decide +kernel
theorem dL_law_590 : decode cL_law 590 = .ok (.ireturn, 1) := by decide +kernel
theorem dL_law_591 : decode cL_law 591 = .ok (.aload_n 1, 1) := by decide +kernel
theorem dL_law_592 : decode cL_law 592 = .ok (.aload_n 0, 1) := by decide +kernel
theorem dL_law_593 : decode cL_law 593 = .ok (.iload_n 3, 1) := by decide +kernel
theorem dL_law_594 : decode cL_law 594 = .ok (.iconst 1, 1) := by decide +kernel
theorem dL_law_595 : decode cL_law 595 = .ok (.iadd, 1) := by decide +kernel
theorem dL_law_596 : decode cL_law 596 = .ok (.iaload, 1) := by decide +kernel
theorem dL_law_597 : decode cL_law 597 = .ok (.invokevirtual 70, 3) := by decide +kernel
theorem dL_law_600 : decode cL_law 600 = .ok (.aload_n 2, 1) := by decide +kernel
theorem dL_law_601 : decode cL_law 601 = .ok (.aload_n 0, 1) := by decide +kernel
theorem dL_law_602 : decode cL_law 602 = .ok (.iload_n 3, 1) := by decide +kernel
theorem dL_law_603 : decode cL_law 603 = .ok (.iconst 1, 1) := by decide +kernel
theorem dL_law_604 : decode cL_law 604 = .ok (.iadd, 1) := by decide +kernel
theorem dL_law_605 : decode cL_law 605 = .ok (.iaload, 1) := by decide +kernel
theorem dL_law_606 : decode cL_law 606 = .ok (.invokevirtual 73, 3) := by decide +kernel
theorem dL_law_609 : decode cL_law 609 = .ok (.if_icmp .eq 222, 3) := by decide +kernel
theorem dL_law_612 : decode cL_law 612 = .ok (.iconst 0, 1) := by decide +kernel
theorem dL_law_613 : decode cL_law 613 = .ok (.ireturn, 1) := by decide +kernel
theorem dL_law_614 : decode cL_law 614 = .ok (.aload_n 1, 1) := by decide +kernel
theorem dL_law_615 : decode cL_law 615 = .ok (.aload_n 0, 1) := by decide +kernel
theorem dL_law_616 : decode cL_law 616 = .ok (.iload_n 3, 1) := by decide +kernel
theorem dL_law_617 : decode cL_law 617 = .ok (.iconst 1, 1) := by decide +kernel
theorem dL_law_618 : decode cL_law 618 = .ok (.iadd, 1) := by decide +kernel
theorem dL_law_619 : decode cL_law 619 = .ok (.iaload, 1) := by decide +kernel
theorem dL_law_620 : decode cL_law 620 = .ok (.aload_n 0, 1) := by decide +kernel
theorem dL_law_621 : decode cL_law 621 = .ok (.iload_n 3, 1) := by decide +kernel
theorem dL_law_622 : decode cL_law 622 = .ok (.iconst 2, 1) := by decide +kernel
theorem dL_law_623 : decode cL_law 623 = .ok (.iadd, 1) := by decide +kernel
theorem dL_law_624 : decode cL_law 624 = .ok (.iaload, 1) := by decide +kernel
theorem dL_law_625 : decode cL_law 625 = .ok (.invokevirtual 74, 3) := by decide +kernel
theorem dL_law_628 : decode cL_law 628 = .ok (.aload_n 2, 1) := by decide +kernel
theorem dL_law_629 : decode cL_law 629 = .ok (.aload_n 0, 1) := by decide +kernel
theorem dL_law_630 : decode cL_law 630 = .ok (.iload_n 3, 1) := by decide +kernel
theorem dL_law_631 : decode cL_law 631 = .ok (.iconst 1, 1) := by decide +kernel
theorem dL_law_632 : decode cL_law 632 = .ok (.iadd, 1) := by decide +kernel
theorem dL_law_633 : decode cL_law 633 = .ok (.iaload, 1) := by decide +kernel
theorem dL_law_634 : decode cL_law 634 = .ok (.aload_n 0, 1) := by decide +kernel
theorem dL_law_635 : decode cL_law 635 = .ok (.iload_n 3, 1) := by decide +kernel
theorem dL_law_636 : decode cL_law 636 = .ok (.iconst 2, 1) := by decide +kernel
theorem dL_law_637 : decode cL_law 637 = .ok (.iadd, 1) := by decide +kernel
theorem dL_law_638 : decode cL_law 638 = .ok (.iaload, 1) := by decide +kernel
theorem dL_law_639 : decode cL_law 639 = .ok (.invokevirtual 77, 3) := by decide +kernel
theorem dL_law_642 : decode cL_law 642 = .ok (.if_icmp .eq 189, 3) := by decide +kernel
theorem dL_law_645 : decode cL_law 645 = .ok (.iconst 0, 1) := by decide +kernel
theorem dL_law_646 : decode cL_law 646 = .ok (.ireturn, 1) := by decide +kernel
theorem dL_law_647 : decode cL_law 647 = .ok (.aload_n 1, 1) := by decide +kernel
theorem dL_law_648 : decode cL_law 648 = .ok (.aload_n 0, 1) := by decide +kernel
theorem dL_law_649 : decode cL_law 649 = .ok (.iload_n 3, 1) := by decide +kernel
theorem dL_law_650 : decode cL_law 650 = .ok (.iconst 1, 1) := by decide +kernel
theorem dL_law_651 : decode cL_law 651 = .ok (.iadd, 1) := by decide +kernel
theorem dL_law_652 : decode cL_law 652 = .ok (.iaload, 1) := by decide +kernel
theorem dL_law_653 : decode cL_law 653 = .ok (.aload_n 0, 1) := by decide +kernel
theorem dL_law_654 : decode cL_law 654 = .ok (.iload_n 3, 1) := by decide +kernel
theorem dL_law_655 : decode cL_law 655 = .ok (.iconst 2, 1) := by decide +kernel
theorem dL_law_656 : decode cL_law 656 = .ok (.iadd, 1) := by decide +kernel
theorem dL_law_657 : decode cL_law 657 = .ok (.iaload, 1) := by decide +kernel
theorem dL_law_658 : decode cL_law 658 = .ok (.invokevirtual 78, 3) := by decide +kernel
theorem dL_law_661 : decode cL_law 661 = .ok (.aload_n 2, 1) := by decide +kernel
theorem dL_law_662 : decode cL_law 662 = .ok (.aload_n 0, 1) := by decide +kernel
theorem dL_law_663 : decode cL_law 663 = .ok (.iload_n 3, 1) := by decide +kernel
theorem dL_law_664 : decode cL_law 664 = .ok (.iconst 1, 1) := by decide +kernel
theorem dL_law_665 : decode cL_law 665 = .ok (.iadd, 1) := by decide +kernel
theorem dL_law_666 : decode cL_law 666 = .ok (.iaload, 1) := by decide +kernel
theorem dL_law_667 : decode cL_law 667 = .ok (.aload_n 0, 1) := by decide +kernel
theorem dL_law_668 : decode cL_law 668 = .ok (.iload_n 3, 1) := by decide +kernel
theorem dL_law_669 : decode cL_law 669 = .ok (.iconst 2, 1) := by decide +kernel
theorem dL_law_670 : decode cL_law 670 = .ok (.iadd, 1) := by decide +kernel
theorem dL_law_671 : decode cL_law 671 = .ok (.iaload, 1) := by decide +kernel
theorem dL_law_672 : decode cL_law 672 = .ok (.invokevirtual 81, 3) := by decide +kernel
theorem dL_law_675 : decode cL_law 675 = .ok (.if_icmp .eq 156, 3) := by decide +kernel
theorem dL_law_678 : decode cL_law 678 = .ok (.iconst 0, 1) := by decide +kernel
theorem dL_law_679 : decode cL_law 679 = .ok (.ireturn, 1) := by decide +kernel
theorem dL_law_680 : decode cL_law 680 = .ok (.aload_n 1, 1) := by decide +kernel
theorem dL_law_681 : decode cL_law 681 = .ok (.aload_n 0, 1) := by decide +kernel
theorem dL_law_682 : decode cL_law 682 = .ok (.iload_n 3, 1) := by decide +kernel
theorem dL_law_683 : decode cL_law 683 = .ok (.iconst 1, 1) := by decide +kernel
theorem dL_law_684 : decode cL_law 684 = .ok (.iadd, 1) := by decide +kernel
theorem dL_law_685 : decode cL_law 685 = .ok (.iaload, 1) := by decide +kernel
theorem dL_law_686 : decode cL_law 686 = .ok (.aload_n 0, 1) := by decide +kernel
theorem dL_law_687 : decode cL_law 687 = .ok (.iload_n 3, 1) := by decide +kernel
theorem dL_law_688 : decode cL_law 688 = .ok (.iconst 2, 1) := by decide +kernel
theorem dL_law_689 : decode cL_law 689 = .ok (.iadd, 1) := by decide +kernel
theorem dL_law_690 : decode cL_law 690 = .ok (.iaload, 1) := by decide +kernel
theorem dL_law_691 : decode cL_law 691 = .ok (.aload_n 0, 1) := by decide +kernel
theorem dL_law_692 : decode cL_law 692 = .ok (.iload_n 3, 1) := by decide +kernel
theorem dL_law_693 : decode cL_law 693 = .ok (.iconst 3, 1) := by decide +kernel
theorem dL_law_694 : decode cL_law 694 = .ok (.iadd, 1) := by decide +kernel
theorem dL_law_695 : decode cL_law 695 = .ok (.iaload, 1) := by decide +kernel
theorem dL_law_696 : decode cL_law 696 = .ok (.invokevirtual 82, 3) := by decide +kernel
theorem dL_law_699 : decode cL_law 699 = .ok (.aload_n 2, 1) := by decide +kernel
theorem dL_law_700 : decode cL_law 700 = .ok (.aload_n 0, 1) := by decide +kernel
theorem dL_law_701 : decode cL_law 701 = .ok (.iload_n 3, 1) := by decide +kernel
theorem dL_law_702 : decode cL_law 702 = .ok (.iconst 1, 1) := by decide +kernel
theorem dL_law_703 : decode cL_law 703 = .ok (.iadd, 1) := by decide +kernel
theorem dL_law_704 : decode cL_law 704 = .ok (.iaload, 1) := by decide +kernel
theorem dL_law_705 : decode cL_law 705 = .ok (.aload_n 0, 1) := by decide +kernel
theorem dL_law_706 : decode cL_law 706 = .ok (.iload_n 3, 1) := by decide +kernel
theorem dL_law_707 : decode cL_law 707 = .ok (.iconst 2, 1) := by decide +kernel
theorem dL_law_708 : decode cL_law 708 = .ok (.iadd, 1) := by decide +kernel
theorem dL_law_709 : decode cL_law 709 = .ok (.iaload, 1) := by decide +kernel
theorem dL_law_710 : decode cL_law 710 = .ok (.aload_n 0, 1) := by decide +kernel
theorem dL_law_711 : decode cL_law 711 = .ok (.iload_n 3, 1) := by decide +kernel
theorem dL_law_712 : decode cL_law 712 = .ok (.iconst 3, 1) := by decide +kernel
theorem dL_law_713 : decode cL_law 713 = .ok (.iadd, 1) := by decide +kernel
theorem dL_law_714 : decode cL_law 714 = .ok (.iaload, 1) := by decide +kernel
theorem dL_law_715 : decode cL_law 715 = .ok (.invokevirtual 86, 3) := by decide +kernel
theorem dL_law_718 : decode cL_law 718 = .ok (.if_icmp .eq 113, 3) := by decide +kernel
theorem dL_law_721 : decode cL_law 721 = .ok (.iconst 0, 1) := by decide +kernel
theorem dL_law_722 : decode cL_law 722 = .ok (.ireturn, 1) := by decide +kernel
theorem dL_law_723 : decode cL_law 723 = .ok (.aload_n 1, 1) := by decide +kernel
theorem dL_law_724 : decode cL_law 724 = .ok (.aload_n 0, 1) := by decide +kernel
theorem dL_law_725 : decode cL_law 725 = .ok (.iload_n 3, 1) := by decide +kernel
theorem dL_law_726 : decode cL_law 726 = .ok (.iconst 1, 1) := by decide +kernel
theorem dL_law_727 : decode cL_law 727 = .ok (.iadd, 1) := by decide +kernel
theorem dL_law_728 : decode cL_law 728 = .ok (.iaload, 1) := by decide +kernel
theorem dL_law_729 : decode cL_law 729 = .ok (.aload_n 0, 1) := by decide +kernel
theorem dL_law_730 : decode cL_law 730 = .ok (.iload_n 3, 1) := by decide +kernel
theorem dL_law_731 : decode cL_law 731 = .ok (.iconst 2, 1) := by decide +kernel
theorem dL_law_732 : decode cL_law 732 = .ok (.iadd, 1) := by decide +kernel
theorem dL_law_733 : decode cL_law 733 = .ok (.iaload, 1) := by decide +kernel
theorem dL_law_734 : decode cL_law 734 = .ok (.invokevirtual 87, 3) := by decide +kernel
theorem dL_law_737 : decode cL_law 737 = .ok (.aload_n 2, 1) := by decide +kernel
theorem dL_law_738 : decode cL_law 738 = .ok (.aload_n 0, 1) := by decide +kernel
theorem dL_law_739 : decode cL_law 739 = .ok (.iload_n 3, 1) := by decide +kernel
theorem dL_law_740 : decode cL_law 740 = .ok (.iconst 1, 1) := by decide +kernel
theorem dL_law_741 : decode cL_law 741 = .ok (.iadd, 1) := by decide +kernel
theorem dL_law_742 : decode cL_law 742 = .ok (.iaload, 1) := by decide +kernel
theorem dL_law_743 : decode cL_law 743 = .ok (.aload_n 0, 1) := by decide +kernel
theorem dL_law_744 : decode cL_law 744 = .ok (.iload_n 3, 1) := by decide +kernel
theorem dL_law_745 : decode cL_law 745 = .ok (.iconst 2, 1) := by decide +kernel
theorem dL_law_746 : decode cL_law 746 = .ok (.iadd, 1) := by decide +kernel
theorem dL_law_747 : decode cL_law 747 = .ok (.iaload, 1) := by decide +kernel
theorem dL_law_748 : decode cL_law 748 = .ok (.invokevirtual 90, 3) := by decide +kernel
theorem dL_law_751 : decode cL_law 751 = .ok (.if_icmp .eq 80, 3) := by decide +kernel
theorem dL_law_754 : decode cL_law 754 = .ok (.iconst 0, 1) := by decide +kernel
theorem dL_law_755 : decode cL_law 755 = .ok (.ireturn, 1) := by decide +kernel
theorem dL_law_756 : decode cL_law 756 = .ok (.aload_n 1, 1) := by decide +kernel
theorem dL_law_757 : decode cL_law 757 = .ok (.invokevirtual 91, 3) := by decide +kernel
theorem dL_law_760 : decode cL_law 760 = .ok (.aload_n 2, 1) := by decide +kernel
theorem dL_law_761 : decode cL_law 761 = .ok (.invokevirtual 95, 3) := by decide +kernel
theorem dL_law_764 : decode cL_law 764 = .ok (.if_icmp .eq 67, 3) := by decide +kernel
theorem dL_law_767 : decode cL_law 767 = .ok (.iconst 0, 1) := by decide +kernel
theorem dL_law_768 : decode cL_law 768 = .ok (.ireturn, 1) := by decide +kernel
theorem dL_law_769 : decode cL_law 769 = .ok (.aload_n 1, 1) := by decide +kernel
theorem dL_law_770 : decode cL_law 770 = .ok (.aload_n 0, 1) := by decide +kernel
theorem dL_law_771 : decode cL_law 771 = .ok (.iload_n 3, 1) := by decide +kernel
theorem dL_law_772 : decode cL_law 772 = .ok (.iconst 1, 1) := by decide +kernel
theorem dL_law_773 : decode cL_law 773 = .ok (.iadd, 1) := by decide +kernel
theorem dL_law_774 : decode cL_law 774 = .ok (.iaload, 1) := by decide +kernel
theorem dL_law_775 : decode cL_law 775 = .ok (.ifCond .eq 7, 3) := by decide +kernel
theorem dL_law_778 : decode cL_law 778 = .ok (.iconst 1, 1) := by decide +kernel
theorem dL_law_779 : decode cL_law 779 = .ok (.goto 4, 3) := by decide +kernel
theorem dL_law_782 : decode cL_law 782 = .ok (.iconst 0, 1) := by decide +kernel
theorem dL_law_783 : decode cL_law 783 = .ok (.invokevirtual 96, 3) := by decide +kernel
theorem dL_law_786 : decode cL_law 786 = .ok (.aload_n 2, 1) := by decide +kernel
theorem dL_law_787 : decode cL_law 787 = .ok (.aload_n 0, 1) := by decide +kernel
theorem dL_law_788 : decode cL_law 788 = .ok (.iload_n 3, 1) := by decide +kernel
theorem dL_law_789 : decode cL_law 789 = .ok (.iconst 1, 1) := by decide +kernel
theorem dL_law_790 : decode cL_law 790 = .ok (.iadd, 1) := by decide +kernel
theorem dL_law_791 : decode cL_law 791 = .ok (.iaload, 1) := by decide +kernel
theorem dL_law_792 : decode cL_law 792 = .ok (.ifCond .eq 7, 3) := by decide +kernel
theorem dL_law_795 : decode cL_law 795 = .ok (.iconst 1, 1) := by decide +kernel
theorem dL_law_796 : decode cL_law 796 = .ok (.goto 4, 3) := by decide +kernel
theorem dL_law_799 : decode cL_law 799 = .ok (.iconst 0, 1) := by decide +kernel
theorem dL_law_800 : decode cL_law 800 = .ok (.invokevirtual 100, 3) := by decide +kernel
theorem dL_law_803 : decode cL_law 803 = .ok (.if_icmp .eq 28, 3) := by decide +kernel
theorem dL_law_806 : decode cL_law 806 = .ok (.iconst 0, 1) := by decide +kernel
theorem dL_law_807 : decode cL_law 807 = .ok (.ireturn, 1) := by decide +kernel
theorem dL_law_808 : decode cL_law 808 = .ok (.aload_n 1, 1) := by decide +kernel
theorem dL_law_809 : decode cL_law 809 = .ok (.aload_n 0, 1) := by decide +kernel
theorem dL_law_810 : decode cL_law 810 = .ok (.iload_n 3, 1) := by decide +kernel
theorem dL_law_811 : decode cL_law 811 = .ok (.iconst 1, 1) := by decide +kernel
theorem dL_law_812 : decode cL_law 812 = .ok (.iadd, 1) := by decide +kernel
theorem dL_law_813 : decode cL_law 813 = .ok (.iaload, 1) := by decide +kernel
theorem dL_law_814 : decode cL_law 814 = .ok (.invokevirtual 101, 3) := by decide +kernel
theorem dL_law_817 : decode cL_law 817 = .ok (.aload_n 2, 1) := by decide +kernel
theorem dL_law_818 : decode cL_law 818 = .ok (.aload_n 0, 1) := by decide +kernel
theorem dL_law_819 : decode cL_law 819 = .ok (.iload_n 3, 1) := by decide +kernel
theorem dL_law_820 : decode cL_law 820 = .ok (.iconst 1, 1) := by decide +kernel
theorem dL_law_821 : decode cL_law 821 = .ok (.iadd, 1) := by decide +kernel
theorem dL_law_822 : decode cL_law 822 = .ok (.iaload, 1) := by decide +kernel
theorem dL_law_823 : decode cL_law 823 = .ok (.invokevirtual 104, 3) := by decide +kernel
theorem dL_law_826 : decode cL_law 826 = .ok (.if_icmp .eq 5, 3) := by decide +kernel
theorem dL_law_829 : decode cL_law 829 = .ok (.iconst 0, 1) := by decide +kernel
theorem dL_law_830 : decode cL_law 830 = .ok (.ireturn, 1) := by decide +kernel
theorem dL_law_831 : decode cL_law 831 = .ok (.iinc 3 5, 3) := by decide +kernel
theorem dL_law_834 : decode cL_law 834 = .ok (.goto (-816), 3) := by decide +kernel
theorem dL_law_837 : decode cL_law 837 = .ok (.iconst 1, 1) := by decide +kernel
theorem dL_law_838 : decode cL_law 838 = .ok (.ireturn, 1) := by decide +kernel
