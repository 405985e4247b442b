theorem dX8_ask_25 : decode cX8_ask 25 = .ok (.aload_n 0, 1) := by decide +kernel
theorem dX8_ask_26 : decode cX8_ask 26 = .ok (.iload_n 2, 1) := by decide +kernel
theorem dX8_ask_27 : decode cX8_ask 27 = .ok (.invokevirtual 121, 3) := by decide +kernel
theorem dX8_ask_30 : decode cX8_ask 30 = .ok (.istore_n 3, 1) := by decide +kernel
theorem dX8_ask_31 : decode cX8_ask 31 = .ok (.aload_n 0, 1) := by decide +kernel
theorem dX8_ask_32 : decode cX8_ask 32 = .ok (.getfield 43, 3) := by decide +kernel
theorem dX8_ask_35 : decode cX8_ask 35 = .ok (.aload_n 0, 1) := by decide +kernel
theorem dX8_ask_36 : decode cX8_ask 36 = .ok (.getfield 58, 3) := by decide +kernel
theorem dX8_ask_39 : decode cX8_ask 39 = .ok (.iload_n 1, 1) := by decide +kernel
theorem dX8_ask_40 : decode cX8_ask 40 = .ok (.iload_n 2, 1) := by decide +kernel
theorem dX8_ask_41 : decode cX8_ask 41 = .ok (.iload_n 3, 1) := by decide +kernel
theorem dX8_ask_42 : decode cX8_ask 42 = .ok (.iconst (-1), 1) := by decide +kernel
theorem dX8_ask_43 : decode cX8_ask 43 = .ok (.invokevirtual 124, 3) := by decide +kernel
theorem dX8_ask_46 : decode cX8_ask 46 = .ok (.iload_n 3, 1) := by decide +kernel
theorem dX8_ask_47 : decode cX8_ask 47 = .ok (.ireturn, 1) := by decide +kernel
theorem dX8_behalf_0 : decode cX8_behalf 0 = .ok (.iload_n 1, 1) := by decide +kernel
theorem dX8_behalf_1 : decode cX8_behalf 1 = .ok (.invokestatic 113, 3) := by decide +kernel
theorem dX8_behalf_4 : decode cX8_behalf 4 = .ok (.ifCond .eq 31, 3) := by decide +kernel
theorem dX8_behalf_7 : decode cX8_behalf 7 = .ok (.iload_n 2, 1) := by decide +kernel
theorem dX8_behalf_8 : decode cX8_behalf 8 = .ok (.bipush 10, 2) := by decide +kernel
theorem dX8_behalf_10 : decode cX8_behalf 10 = .ok (.invokestatic 72, 3) := by decide +kernel
theorem dX8_behalf_13 : decode cX8_behalf 13 = .ok (.ifCond .eq 22, 3) := by decide +kernel
theorem dX8_behalf_16 : decode cX8_behalf 16 = .ok (.iload_n 2, 1) := by decide +kernel
theorem dX8_behalf_17 : decode cX8_behalf 17 = .ok (.iload_n 1, 1) := by decide +kernel
theorem dX8_behalf_18 : decode cX8_behalf 18 = .ok (.sipush 1000, 3) := by decide +kernel
theorem dX8_behalf_21 : decode cX8_behalf 21 = .ok (.idiv, 1) := by decide +kernel
theorem dX8_behalf_22 : decode cX8_behalf 22 = .ok (.if_icmp .eq 13, 3) := by decide +kernel
theorem dX8_behalf_25 : decode cX8_behalf 25 = .ok (.aload_n 0, 1) := by decide +kernel
theorem dX8_behalf_26 : decode cX8_behalf 26 = .ok (.getfield 43, 3) := by decide +kernel
theorem dX8_behalf_29 : decode cX8_behalf 29 = .ok (.invokevirtual 116, 3) := by decide +kernel
theorem dX8_behalf_32 : decode cX8_behalf 32 = .ok (.ifCond .eq 5, 3) := by decide +kernel
theorem dX8_behalf_35 : decode cX8_behalf 35 = .ok (.iconst (-1), 1) := by decide +kernel
theorem dX8_behalf_36 : decode cX8_behalf 36 = .ok (.ireturn, 1) := by decide +kernel
theorem dX8_behalf_37 : decode cX8_behalf 37 = .ok (.aload_n 0, 1) := by decide +kernel
theorem dX8_behalf_38 : decode cX8_behalf 38 = .ok (.iload_n 1, 1) := by decide +kernel
theorem dX8_behalf_39 : decode cX8_behalf 39 = .ok (.invokevirtual 117, 3) := by decide +kernel
theorem dX8_behalf_42 : decode cX8_behalf 42 = .ok (.istore_n 3, 1) := by decide +kernel
theorem dX8_behalf_43 : decode cX8_behalf 43 = .ok (.aload_n 0, 1) := by decide +kernel
theorem dX8_behalf_44 : decode cX8_behalf 44 = .ok (.iload_n 2, 1) := by decide +kernel
theorem dX8_behalf_45 : decode cX8_behalf 45 = .ok (.sipush 1000, 3) := by decide +kernel
theorem dX8_behalf_48 : decode cX8_behalf 48 = .ok (.imul, 1) := by decide +kernel
theorem dX8_behalf_49 : decode cX8_behalf 49 = .ok (.iload_n 1, 1) := by decide +kernel
theorem dX8_behalf_50 : decode cX8_behalf 50 = .ok (.sipush 1000, 3) := by decide +kernel
theorem dX8_behalf_53 : decode cX8_behalf 53 = .ok (.irem, 1) := by decide +kernel
theorem dX8_behalf_54 : decode cX8_behalf 54 = .ok (.iadd, 1) := by decide +kernel
theorem dX8_behalf_55 : decode cX8_behalf 55 = .ok (.invokevirtual 117, 3) := by decide +kernel
theorem dX8_behalf_58 : decode cX8_behalf 58 = .ok (.istore 4, 2) := by decide +kernel
theorem dX8_behalf_60 : decode cX8_behalf 60 = .ok (.aload_n 0, 1) := by decide +kernel
theorem dX8_behalf_61 : decode cX8_behalf 61 = .ok (.iload_n 3, 1) := by decide +kernel
theorem dX8_behalf_62 : decode cX8_behalf 62 = .ok (.invokevirtual 121, 3) := by decide +kernel
theorem dX8_behalf_65 : decode cX8_behalf 65 = .ok (.aload_n 0, 1) := by decide +kernel
theorem dX8_behalf_66 : decode cX8_behalf 66 = .ok (.iload 4, 2) := by decide +kernel
theorem dX8_behalf_68 : decode cX8_behalf 68 = .ok (.invokevirtual 121, 3) := by decide +kernel
theorem dX8_behalf_71 : decode cX8_behalf 71 = .ok (.invokestatic 128, 3) := by decide +kernel
theorem dX8_behalf_74 : decode cX8_behalf 74 = .ok (.istore 5, 2) := by decide +kernel
theorem dX8_behalf_76 : decode cX8_behalf 76 = .ok (.aload_n 0, 1) := by decide +kernel
theorem dX8_behalf_77 : decode cX8_behalf 77 = .ok (.getfield 43, 3) := by decide +kernel
theorem dX8_behalf_80 : decode cX8_behalf 80 = .ok (.aload_n 0, 1) := by decide +kernel
theorem dX8_behalf_81 : decode cX8_behalf 81 = .ok (.getfield 58, 3) := by decide +kernel
theorem dX8_behalf_84 : decode cX8_behalf 84 = .ok (.iload_n 1, 1) := by decide +kernel
theorem dX8_behalf_85 : decode cX8_behalf 85 = .ok (.iload_n 3, 1) := by decide +kernel
theorem dX8_behalf_86 : decode cX8_behalf 86 = .ok (.iload 5, 2) := by decide +kernel
theorem dX8_behalf_88 : decode cX8_behalf 88 = .ok (.iload_n 2, 1) := by decide +kernel
theorem dX8_behalf_89 : decode cX8_behalf 89 = .ok (.invokevirtual 124, 3) := by decide +kernel
theorem dX8_behalf_92 : decode cX8_behalf 92 = .ok (.iload 5, 2) := by decide +kernel
theorem dX8_behalf_94 : decode cX8_behalf 94 = .ok (.ireturn, 1) := by decide +kernel
theorem dX8_why_0 : decode cX8_why 0 = .ok (.aload_n 0, 1) := by decide +kernel
theorem dX8_why_1 : decode cX8_why 1 = .ok (.iload_n 1, 1) := by decide +kernel
theorem dX8_why_2 : decode cX8_why 2 = .ok (.invokevirtual 86, 3) := by decide +kernel
theorem dX8_why_5 : decode cX8_why 5 = .ok (.astore_n 3, 1) := by decide +kernel
theorem dX8_why_6 : decode cX8_why 6 = .ok (.aload_n 3, 1) := by decide +kernel
theorem dX8_why_7 : decode cX8_why 7 = .ok (.ifnull 10, 3) := by decide +kernel
theorem dX8_why_10 : decode cX8_why 10 = .ok (.iload_n 2, 1) := by decide +kernel
theorem dX8_why_11 : decode cX8_why 11 = .ok (.invokestatic 113, 3) := by decide +kernel
theorem dX8_why_14 : decode cX8_why 14 = .ok (.ifCond .ne 5, 3) := by decide +kernel
theorem dX8_why_17 : decode cX8_why 17 = .ok (.iconst (-1), 1) := by decide +kernel
theorem dX8_why_18 : decode cX8_why 18 = .ok (.ireturn, 1) := by decide +kernel
theorem dX8_why_19 : decode cX8_why 19 = .ok (.aload_n 3, 1) := by decide +kernel
theorem dX8_why_20 : decode cX8_why 20 = .ok (.aload_n 0, 1) := by decide +kernel
theorem dX8_why_21 : decode cX8_why 21 = .ok (.iload_n 2, 1) := by decide +kernel
theorem dX8_why_22 : decode cX8_why 22 = .ok (.invokevirtual 117, 3) := by decide +kernel
theorem dX8_why_25 : decode cX8_why 25 = .ok (.aload_n 0, 1) := by decide +kernel
theorem dX8_why_26 : decode cX8_why 26 = .ok (.getfield 22, 3) := by decide +kernel
theorem dX8_why_29 : decode cX8_why 29 = .ok (.invokevirtual 131, 3) := by decide +kernel
theorem dX8_why_32 : decode cX8_why 32 = .ok (.ireturn, 1) := by decide +kernel
theorem dX8_facts_0 : decode cX8_facts 0 = .ok (.iload_n 1, 1) := by decide +kernel
theorem dX8_facts_1 : decode cX8_facts 1 = .ok (.invokestatic 113, 3) := by decide +kernel
theorem dX8_facts_4 : decode cX8_facts 4 = .ok (.ifCond .eq 11, 3) := by decide +kernel
theorem dX8_facts_7 : decode cX8_facts 7 = .ok (.aload_n 0, 1) := by decide +kernel
theorem dX8_facts_8 : decode cX8_facts 8 = .ok (.iload_n 1, 1) := by decide +kernel
theorem dX8_facts_9 : decode cX8_facts 9 = .ok (.invokevirtual 117, 3) := by decide +kernel
theorem dX8_facts_12 : decode cX8_facts 12 = .ok (.goto 4, 3) := by decide +kernel
theorem dX8_facts_15 : decode cX8_facts 15 = .ok (.iconst (-1), 1) := by decide +kernel
theorem dX8_facts_16 : decode cX8_facts 16 = .ok (.ireturn, 1) := by decide +kernel
theorem dX8_judge_0 : decode cX8_judge 0 = .ok (.aload_n 0, 1) := by decide +kernel
theorem dX8_judge_1 : decode cX8_judge 1 = .ok (.iload_n 1, 1) := by decide +kernel
theorem dX8_judge_2 : decode cX8_judge 2 = .ok (.invokevirtual 135, 3) := by decide +kernel
theorem dX8_judge_5 : decode cX8_judge 5 = .ok (.astore 4, 2) := by decide +kernel
theorem dX8_judge_7 : decode cX8_judge 7 = .ok (.aload 4, 2) := by decide +kernel
theorem dX8_judge_9 : decode cX8_judge 9 = .ok (.ifnull 21, 3) := by decide +kernel
theorem dX8_judge_12 : decode cX8_judge 12 = .ok (.iload_n 2, 1) := by decide +kernel
theorem dX8_judge_13 : decode cX8_judge 13 = .ok (.bipush 50, 2) := by decide +kernel
theorem dX8_judge_15 : decode cX8_judge 15 = .ok (.invokestatic 54, 3) := by decide +kernel
theorem dX8_judge_18 : decode cX8_judge 18 = .ok (.ifCond .eq 12, 3) := by decide +kernel
theorem dX8_judge_21 : decode cX8_judge 21 = .ok (.iload_n 3, 1) := by decide +kernel
theorem dX8_judge_22 : decode cX8_judge 22 = .ok (.bipush 20, 2) := by decide +kernel
theorem dX8_judge_24 : decode cX8_judge 24 = .ok (.invokestatic 54, 3) := by decide +kernel
theorem dX8_judge_27 : decode cX8_judge 27 = .ok (.ifCond .ne 5, 3) := by decide +kernel
theorem dX8_judge_30 : decode cX8_judge 30 = .ok (.iconst 0, 1) := by decide +kernel
theorem dX8_judge_31 : decode cX8_judge 31 = .ok (.ireturn, 1) := by decide +kernel
theorem dX8_judge_32 : decode cX8_judge 32 = .ok (.aload 4, 2) := by decide +kernel
theorem dX8_judge_34 : decode cX8_judge 34 = .ok (.iload_n 2, 1) := by decide +kernel
theorem dX8_judge_35 : decode cX8_judge 35 = .ok (.putfield 139, 3) := by decide +kernel
theorem dX8_judge_38 : decode cX8_judge 38 = .ok (.aload 4, 2) := by decide +kernel
theorem dX8_judge_40 : decode cX8_judge 40 = .ok (.iload_n 3, 1) := by decide +kernel
theorem dX8_judge_41 : decode cX8_judge 41 = .ok (.putfield 142, 3) := by decide +kernel
theorem dX8_judge_44 : decode cX8_judge 44 = .ok (.iconst 1, 1) := by decide +kernel
theorem dX8_judge_45 : decode cX8_judge 45 = .ok (.ireturn, 1) := by decide +kernel
theorem dX8_judged_0 : decode cX8_judged 0 = .ok (.aload_n 0, 1) := by decide +kernel
theorem dX8_judged_1 : decode cX8_judged 1 = .ok (.iload_n 1, 1) := by decide +kernel
theorem dX8_judged_2 : decode cX8_judged 2 = .ok (.invokevirtual 135, 3) := by decide +kernel
theorem dX8_judged_5 : decode cX8_judged 5 = .ok (.astore_n 3, 1) := by decide +kernel
theorem dX8_judged_6 : decode cX8_judged 6 = .ok (.aload_n 3, 1) := by decide +kernel
theorem dX8_judged_7 : decode cX8_judged 7 = .ok (.ifnull 10, 3) := by decide +kernel
theorem dX8_judged_10 : decode cX8_judged 10 = .ok (.iload_n 2, 1) := by decide +kernel
theorem dX8_judged_11 : decode cX8_judged 11 = .ok (.invokestatic 113, 3) := by decide +kernel
theorem dX8_judged_14 : decode cX8_judged 14 = .ok (.ifCond .ne 5, 3) := by decide +kernel
theorem dX8_judged_17 : decode cX8_judged 17 = .ok (.iconst (-1), 1) := by decide +kernel
theorem dX8_judged_18 : decode cX8_judged 18 = .ok (.ireturn, 1) := by decide +kernel
theorem dX8_judged_19 : decode cX8_judged 19 = .ok (.aload_n 3, 1) := by decide +kernel
theorem dX8_judged_20 : decode cX8_judged 20 = .ok (.iload_n 2, 1) := by decide +kernel
theorem dX8_judged_21 : decode cX8_judged 21 = .ok (.invokevirtual 145, 3) := by decide +kernel
theorem dX8_judged_24 : decode cX8_judged 24 = .ok (.astore 4, 2) := by decide +kernel
theorem dX8_judged_26 : decode cX8_judged 26 = .ok (.aload 4, 2) := by decide +kernel
theorem dX8_judged_28 : decode cX8_judged 28 = .ok (.ifnull 32, 3) := by decide +kernel
theorem dX8_judged_31 : decode cX8_judged 31 = .ok (.aload_n 3, 1) := by decide +kernel
theorem dX8_judged_32 : decode cX8_judged 32 = .ok (.aload 4, 2) := by decide +kernel
theorem dX8_judged_34 : decode cX8_judged 34 = .ok (.aload_n 0, 1) := by decide +kernel
theorem dX8_judged_35 : decode cX8_judged 35 = .ok (.getfield 58, 3) := by decide +kernel
theorem dX8_judged_38 : decode cX8_judged 38 = .ok (.invokevirtual 149, 3) := by decide +kernel
theorem dX8_judged_41 : decode cX8_judged 41 = .ok (.ifCond .eq 19, 3) := by decide +kernel
theorem dX8_judged_44 : decode cX8_judged 44 = .ok (.aload_n 0, 1) := by decide +kernel
theorem dX8_judged_45 : decode cX8_judged 45 = .ok (.dup, 1) := by decide +kernel
theorem dX8_judged_46 : decode cX8_judged 46 = .ok (.getfield 153, 3) := by decide +kernel
theorem dX8_judged_49 : decode cX8_judged 49 = .ok (.iconst 1, 1) := by decide +kernel
theorem dX8_judged_50 : decode cX8_judged 50 = .ok (.iadd, 1) := by decide +kernel
theorem dX8_judged_51 : decode cX8_judged 51 = .ok (.putfield 153, 3) := by decide +kernel
theorem dX8_judged_54 : decode cX8_judged 54 = .ok (.aload 4, 2) := by decide +kernel
theorem dX8_judged_56 : decode cX8_judged 56 = .ok (.getfield 156, 3) := by decide +kernel
theorem dX8_judged_59 : decode cX8_judged 59 = .ok (.ireturn, 1) := by decide +kernel
theorem dX8_judged_60 : decode cX8_judged 60 = .ok (.aload_n 0, 1) := by decide +kernel
theorem dX8_judged_61 : decode cX8_judged 61 = .ok (.aload_n 0, 1) := by decide +kernel
theorem dX8_judged_62 : decode cX8_judged 62 = .ok (.iload_n 2, 1) := by decide +kernel
theorem dX8_judged_63 : decode cX8_judged 63 = .ok (.invokevirtual 117, 3) := by decide +kernel
theorem dX8_judged_66 : decode cX8_judged 66 = .ok (.invokevirtual 121, 3) := by decide +kernel
theorem dX8_judged_69 : decode cX8_judged 69 = .ok (.istore 5, 2) := by decide +kernel
theorem dX8_judged_71 : decode cX8_judged 71 = .ok (.aload 4, 2) := by decide +kernel
theorem dX8_judged_73 : decode cX8_judged 73 = .ok (.ifnonnull 10, 3) := by decide +kernel
theorem dX8_judged_76 : decode cX8_judged 76 = .ok (.aload_n 3, 1) := by decide +kernel
theorem dX8_judged_77 : decode cX8_judged 77 = .ok (.iload_n 2, 1) := by decide +kernel
theorem dX8_judged_78 : decode cX8_judged 78 = .ok (.invokevirtual 161, 3) := by decide +kernel
theorem dX8_judged_81 : decode cX8_judged 81 = .ok (.astore 4, 2) := by decide +kernel
theorem dX8_judged_83 : decode cX8_judged 83 = .ok (.aload 4, 2) := by decide +kernel
theorem dX8_judged_85 : decode cX8_judged 85 = .ok (.aload_n 0, 1) := by decide +kernel
theorem dX8_judged_86 : decode cX8_judged 86 = .ok (.getfield 58, 3) := by decide +kernel
theorem dX8_judged_89 : decode cX8_judged 89 = .ok (.putfield 164, 3) := by decide +kernel
theorem dX8_judged_92 : decode cX8_judged 92 = .ok (.aload 4, 2) := by decide +kernel
theorem dX8_judged_94 : decode cX8_judged 94 = .ok (.iload 5, 2) := by decide +kernel
theorem dX8_judged_96 : decode cX8_judged 96 = .ok (.putfield 156, 3) := by decide +kernel
theorem dX8_judged_99 : decode cX8_judged 99 = .ok (.iload 5, 2) := by decide +kernel
theorem dX8_judged_101 : decode cX8_judged 101 = .ok (.ireturn, 1) := by decide +kernel
theorem dX8_keeps_0 : decode cX8_keeps 0 = .ok (.aload_n 0, 1) := by decide +kernel
theorem dX8_keeps_1 : decode cX8_keeps 1 = .ok (.iload_n 1, 1) := by decide +kernel
theorem dX8_keeps_2 : decode cX8_keeps 2 = .ok (.invokevirtual 135, 3) := by decide +kernel
theorem dX8_keeps_5 : decode cX8_keeps 5 = .ok (.astore_n 2, 1) := by decide +kernel
theorem dX8_keeps_6 : decode cX8_keeps 6 = .ok (.aload_n 2, 1) := by decide +kernel
theorem dX8_keeps_7 : decode cX8_keeps 7 = .ok (.ifnonnull 7, 3) := by decide +kernel
theorem dX8_keeps_10 : decode cX8_keeps 10 = .ok (.iconst (-1), 1) := by decide +kernel
theorem dX8_keeps_11 : decode cX8_keeps 11 = .ok (.goto 11, 3) := by decide +kernel
theorem dX8_keeps_14 : decode cX8_keeps 14 = .ok (.aload_n 2, 1) := by decide +kernel
theorem dX8_keeps_15 : decode cX8_keeps 15 = .ok (.aload_n 0, 1) := by decide +kernel
theorem dX8_keeps_16 : decode cX8_keeps 16 = .ok (.getfield 58, 3) := by decide +kernel
theorem dX8_keeps_19 : decode cX8_keeps 19 = .ok (.invokevirtual 167, 3) := by decide +kernel
theorem dX8_keeps_22 : decode cX8_keeps 22 = .ok (.ireturn, 1) := by decide +kernel
theorem dX8_law_0 : decode cX8_law 0 = .ok (.aload_n 0, 1) := by decide +kernel
theorem dX8_law_1 : decode cX8_law 1 = .ok (.iload_n 1, 1) := by decide +kernel
theorem dX8_law_2 : decode cX8_law 2 = .ok (.invokevirtual 86, 3) := by decide +kernel
theorem dX8_law_5 : decode cX8_law 5 = .ok (.astore_n 3, 1) := by decide +kernel
theorem dX8_law_6 : decode cX8_law 6 = .ok (.aload_n 3, 1) := by decide +kernel
theorem dX8_law_7 : decode cX8_law 7 = .ok (.ifnull 10, 3) := by decide +kernel
theorem dX8_law_10 : decode cX8_law 10 = .ok (.iload_n 2, 1) := by decide +kernel
theorem dX8_law_11 : decode cX8_law 11 = .ok (.invokestatic 170, 3) := by decide +kernel
theorem dX8_law_14 : decode cX8_law 14 = .ok (.ifCond .ne 6, 3) := by decide +kernel
theorem dX8_law_17 : decode cX8_law 17 = .ok (.bipush (-2), 2) := by decide +kernel
theorem dX8_law_19 : decode cX8_law 19 = .ok (.ireturn, 1) := by decide +kernel
theorem dX8_law_20 : decode cX8_law 20 = .ok (.aload_n 0, 1) := by decide +kernel
theorem dX8_law_21 : decode cX8_law 21 = .ok (.getfield 50, 3) := by decide +kernel
theorem dX8_law_24 : decode cX8_law 24 = .ok (.aload_n 3, 1) := by decide +kernel
theorem dX8_law_25 : decode cX8_law 25 = .ok (.aload_n 0, 1) := by decide +kernel
theorem dX8_law_26 : decode cX8_law 26 = .ok (.getfield 22, 3) := by decide +kernel
theorem dX8_law_29 : decode cX8_law 29 = .ok (.invokevirtual 174, 3) := by decide +kernel
theorem dX8_law_32 : decode cX8_law 32 = .ok (.aload_n 0, 1) := by decide +kernel
theorem dX8_law_33 : decode cX8_law 33 = .ok (.getfield 50, 3) := by decide +kernel
theorem dX8_law_36 : decode cX8_law 36 = .ok (.new 171, 3) := by decide +kernel
theorem dX8_law_39 : decode cX8_law 39 = .ok (.dup, 1) := by decide +kernel
theorem dX8_law_40 : decode cX8_law 40 = .ok (.iload_n 2, 1) := by decide +kernel
theorem dX8_law_41 : decode cX8_law 41 = .ok (.invokespecial 178, 3) := by decide +kernel
theorem dX8_law_44 : decode cX8_law 44 = .ok (.invokevirtual 180, 3) := by decide +kernel
theorem dX8_law_47 : decode cX8_law 47 = .ok (.ireturn, 1) := by decide +kernel
theorem dX8_idle_0 : decode cX8_idle 0 = .ok (.aload_n 0, 1) := by decide +kernel
theorem dX8_idle_1 : decode cX8_idle 1 = .ok (.iload_n 1, 1) := by decide +kernel
theorem dX8_idle_2 : decode cX8_idle 2 = .ok (.invokevirtual 86, 3) := by decide +kernel
theorem dX8_idle_5 : decode cX8_idle 5 = .ok (.astore_n 3, 1) := by decide +kernel
theorem dX8_idle_6 : decode cX8_idle 6 = .ok (.aload_n 3, 1) := by decide +kernel
theorem dX8_idle_7 : decode cX8_idle 7 = .ok (.ifnonnull 7, 3) := by decide +kernel
theorem dX8_idle_10 : decode cX8_idle 10 = .ok (.aconst_null, 1) := by decide +kernel
theorem dX8_idle_11 : decode cX8_idle 11 = .ok (.goto 8, 3) := by decide +kernel
theorem dX8_idle_14 : decode cX8_idle 14 = .ok (.aload_n 3, 1) := by decide +kernel
theorem dX8_idle_15 : decode cX8_idle 15 = .ok (.iload_n 2, 1) := by decide +kernel
theorem dX8_idle_16 : decode cX8_idle 16 = .ok (.invokevirtual 184, 3) := by decide +kernel
theorem dX8_idle_19 : decode cX8_idle 19 = .ok (.astore 4, 2) := by decide +kernel
theorem dX8_idle_21 : decode cX8_idle 21 = .ok (.aload 4, 2) := by decide +kernel
theorem dX8_idle_23 : decode cX8_idle 23 = .ok (.ifnonnull 5, 3) := by decide +kernel
theorem dX8_idle_26 : decode cX8_idle 26 = .ok (.iconst 0, 1) := by decide +kernel
theorem dX8_idle_27 : decode cX8_idle 27 = .ok (.ireturn, 1) := by decide +kernel
theorem dX8_idle_28 : decode cX8_idle 28 = .ok (.aload_n 0, 1) := by decide +kernel
theorem dX8_idle_29 : decode cX8_idle 29 = .ok (.getfield 50, 3) := by decide +kernel
theorem dX8_idle_32 : decode cX8_idle 32 = .ok (.aload_n 3, 1) := by decide +kernel
theorem dX8_idle_33 : decode cX8_idle 33 = .ok (.aload_n 0, 1) := by decide +kernel
theorem dX8_idle_34 : decode cX8_idle 34 = .ok (.getfield 22, 3) := by decide +kernel
theorem dX8_idle_37 : decode cX8_idle 37 = .ok (.invokevirtual 174, 3) := by decide +kernel
theorem dX8_idle_40 : decode cX8_idle 40 = .ok (.aload_n 0, 1) := by decide +kernel
theorem dX8_idle_41 : decode cX8_idle 41 = .ok (.getfield 50, 3) := by decide +kernel
theorem dX8_idle_44 : decode cX8_idle 44 = .ok (.iload_n 2, 1) := by decide +kernel
theorem dX8_idle_45 : decode cX8_idle 45 = .ok (.aload 4, 2) := by decide +kernel
theorem dX8_idle_47 : decode cX8_idle 47 = .ok (.getfield 188, 3) := by decide +kernel
theorem dX8_idle_50 : decode cX8_idle 50 = .ok (.invokevirtual 191, 3) := by decide +kernel
theorem dX8_idle_53 : decode cX8_idle 53 = .ok (.ifCond .ne 7, 3) := by decide +kernel
theorem dX8_idle_56 : decode cX8_idle 56 = .ok (.iconst 1, 1) := by decide +kernel
theorem dX8_idle_57 : decode cX8_idle 57 = .ok (.goto 4, 3) := by decide +kernel
theorem dX8_idle_60 : decode cX8_idle 60 = .ok (.iconst 0, 1) := by decide +kernel
theorem dX8_idle_61 : decode cX8_idle 61 = .ok (.ireturn, 1) := by decide +kernel
theorem dX8_quarrel_0 : decode cX8_quarrel 0 = .ok (.aload_n 0, 1) := by decide +kernel
theorem dX8_quarrel_1 : decode cX8_quarrel 1 = .ok (.iload_n 1, 1) := by decide +kernel
theorem dX8_quarrel_2 : decode cX8_quarrel 2 = .ok (.invokevirtual 86, 3) := by decide +kernel
theorem dX8_quarrel_5 : decode cX8_quarrel 5 = .ok (.astore 4, 2) := by decide +kernel
theorem dX8_quarrel_7 : decode cX8_quarrel 7 = .ok (.aload 4, 2) := by decide +kernel
theorem dX8_quarrel_9 : decode cX8_quarrel 9 = .ok (.ifnonnull 5, 3) := by decide +kernel
theorem dX8_quarrel_12 : decode cX8_quarrel 12 = .ok (.iconst (-1), 1) := by decide +kernel
theorem dX8_quarrel_13 : decode cX8_quarrel 13 = .ok (.ireturn, 1) := by decide +kernel
theorem dX8_quarrel_14 : decode cX8_quarrel 14 = .ok (.aload 4, 2) := by decide +kernel
theorem dX8_quarrel_16 : decode cX8_quarrel 16 = .ok (.iload_n 2, 1) := by decide +kernel
theorem dX8_quarrel_17 : decode cX8_quarrel 17 = .ok (.invokevirtual 184, 3) := by decide +kernel
theorem dX8_quarrel_20 : decode cX8_quarrel 20 = .ok (.astore 5, 2) := by decide +kernel
theorem dX8_quarrel_22 : decode cX8_quarrel 22 = .ok (.aload 4, 2) := by decide +kernel
theorem dX8_quarrel_24 : decode cX8_quarrel 24 = .ok (.iload_n 3, 1) := by decide +kernel
theorem dX8_quarrel_25 : decode cX8_quarrel 25 = .ok (.invokevirtual 184, 3) := by decide +kernel
theorem dX8_quarrel_28 : decode cX8_quarrel 28 = .ok (.astore 6, 2) := by decide +kernel
theorem dX8_quarrel_30 : decode cX8_quarrel 30 = .ok (.aload 5, 2) := by decide +kernel
theorem dX8_quarrel_32 : decode cX8_quarrel 32 = .ok (.ifnull 21, 3) := by decide +kernel
theorem dX8_quarrel_35 : decode cX8_quarrel 35 = .ok (.aload 6, 2) := by decide +kernel
theorem dX8_quarrel_37 : decode cX8_quarrel 37 = .ok (.ifnull 16, 3) := by decide +kernel
theorem dX8_quarrel_40 : decode cX8_quarrel 40 = .ok (.aload 5, 2) := by decide +kernel
theorem dX8_quarrel_42 : decode cX8_quarrel 42 = .ok (.getfield 194, 3) := by decide +kernel
theorem dX8_quarrel_45 : decode cX8_quarrel 45 = .ok (.aload 6, 2) := by decide +kernel
theorem dX8_quarrel_47 : decode cX8_quarrel 47 = .ok (.getfield 194, 3) := by decide +kernel
theorem dX8_quarrel_50 : decode cX8_quarrel 50 = .ok (.if_icmp .ne 5, 3) := by decide +kernel
theorem dX8_quarrel_53 : decode cX8_quarrel 53 = .ok (.iconst (-1), 1) := by decide +kernel
theorem dX8_quarrel_54 : decode cX8_quarrel 54 = .ok (.ireturn, 1) := by decide +kernel
theorem dX8_quarrel_55 : decode cX8_quarrel 55 = .ok (.aload_n 0, 1) := by decide +kernel
theorem dX8_quarrel_56 : decode cX8_quarrel 56 = .ok (.getfield 50, 3) := by decide +kernel
theorem dX8_quarrel_59 : decode cX8_quarrel 59 = .ok (.aload 4, 2) := by decide +kernel
theorem dX8_quarrel_61 : decode cX8_quarrel 61 = .ok (.aload_n 0, 1) := by decide +kernel
theorem dX8_quarrel_62 : decode cX8_quarrel 62 = .ok (.getfield 22, 3) := by decide +kernel
theorem dX8_quarrel_65 : decode cX8_quarrel 65 = .ok (.invokevirtual 174, 3) := by decide +kernel
theorem dX8_quarrel_68 : decode cX8_quarrel 68 = .ok (.aload_n 0, 1) := by decide +kernel
theorem dX8_quarrel_69 : decode cX8_quarrel 69 = .ok (.getfield 50, 3) := by decide +kernel
theorem dX8_quarrel_72 : decode cX8_quarrel 72 = .ok (.iconst 1, 1) := by decide +kernel
theorem dX8_quarrel_73 : decode cX8_quarrel 73 = .ok (.iload_n 2, 1) := by decide +kernel
theorem dX8_quarrel_74 : decode cX8_quarrel 74 = .ok (.ishl, 1) := by decide +kernel
theorem dX8_quarrel_75 : decode cX8_quarrel 75 = .ok (.iconst 1, 1) := by decide +kernel
theorem dX8_quarrel_76 : decode cX8_quarrel 76 = .ok (.iload_n 3, 1) := by decide +kernel
theorem dX8_quarrel_77 : decode cX8_quarrel 77 = .ok (.ishl, 1) := by decide +kernel
theorem dX8_quarrel_78 : decode cX8_quarrel 78 = .ok (.ior, 1) := by decide +kernel
theorem dX8_quarrel_79 : decode cX8_quarrel 79 = .ok (.invokevirtual 197, 3) := by decide +kernel
theorem dX8_quarrel_82 : decode cX8_quarrel 82 = .ok (.ireturn, 1) := by decide +kernel
theorem dX8_log_0 : decode cX8_log 0 = .ok (.aload_n 0, 1) := by decide +kernel
theorem dX8_log_1 : decode cX8_log 1 = .ok (.getfield 43, 3) := by decide +kernel
theorem dX8_log_4 : decode cX8_log 4 = .ok (.iload_n 1, 1) := by decide +kernel
theorem dX8_log_5 : decode cX8_log 5 = .ok (.iload_n 2, 1) := by decide +kernel
theorem dX8_log_6 : decode cX8_log 6 = .ok (.invokevirtual 200, 3) := by decide +kernel
theorem dX8_log_9 : decode cX8_log 9 = .ok (.ireturn, 1) := by decide +kernel
theorem dX8_lost_0 : decode cX8_lost 0 = .ok (.aload_n 0, 1) := by decide +kernel
theorem dX8_lost_1 : decode cX8_lost 1 = .ok (.getfield 29, 3) := by decide +kernel
theorem dX8_lost_4 : decode cX8_lost 4 = .ok (.iconst 1, 1) := by decide +kernel
theorem dX8_lost_5 : decode cX8_lost 5 = .ok (.aload_n 0, 1) := by decide +kernel
theorem dX8_lost_6 : decode cX8_lost 6 = .ok (.getfield 203, 3) := by decide +kernel
theorem dX8_lost_9 : decode cX8_lost 9 = .ok (.isub, 1) := by decide +kernel
theorem dX8_lost_10 : decode cX8_lost 10 = .ok (.aaload, 1) := by decide +kernel
theorem dX8_lost_11 : decode cX8_lost 11 = .ok (.astore_n 1, 1) := by decide +kernel
theorem dX8_lost_12 : decode cX8_lost 12 = .ok (.iconst 0, 1) := by decide +kernel
theorem dX8_lost_13 : decode cX8_lost 13 = .ok (.istore_n 2, 1) := by decide +kernel
theorem dX8_lost_14 : decode cX8_lost 14 = .ok (.iconst 0, 1) := by decide +kernel
theorem dX8_lost_15 : decode cX8_lost 15 = .ok (.aload_n 0, 1) := by decide +kernel
theorem dX8_lost_16 : decode cX8_lost 16 = .ok (.getfield 43, 3) := by decide +kernel
theorem dX8_lost_19 : decode cX8_lost 19 = .ok (.getfield 206, 3) := by decide +kernel
theorem dX8_lost_22 : decode cX8_lost 22 = .ok (.bipush 40, 2) := by decide +kernel
theorem dX8_lost_24 : decode cX8_lost 24 = .ok (.isub, 1) := by decide +kernel
theorem dX8_lost_25 : decode cX8_lost 25 = .ok (.invokestatic 128, 3) := by decide +kernel
theorem dX8_lost_28 : decode cX8_lost 28 = .ok (.istore_n 3, 1) := by decide +kernel
theorem dX8_lost_29 : decode cX8_lost 29 = .ok (.iload_n 3, 1) := by decide +kernel
theorem dX8_lost_30 : decode cX8_lost 30 = .ok (.aload_n 0, 1) := by decide +kernel
theorem dX8_lost_31 : decode cX8_lost 31 = .ok (.getfield 43, 3) := by decide +kernel
theorem dX8_lost_34 : decode cX8_lost 34 = .ok (.getfield 206, 3) := by decide +kernel
theorem dX8_lost_37 : decode cX8_lost 37 = .ok (.if_icmp .ge 56, 3) := by decide +kernel
theorem dX8_lost_40 : decode cX8_lost 40 = .ok (.aload_n 0, 1) := by decide +kernel
theorem dX8_lost_41 : decode cX8_lost 41 = .ok (.getfield 43, 3) := by decide +kernel
theorem dX8_lost_44 : decode cX8_lost 44 = .ok (.iload_n 3, 1) := by decide +kernel
theorem dX8_lost_45 : decode cX8_lost 45 = .ok (.iconst 3, 1) := by decide +kernel
theorem dX8_lost_46 : decode cX8_lost 46 = .ok (.invokevirtual 200, 3) := by decide +kernel
theorem dX8_lost_49 : decode cX8_lost 49 = .ok (.ifCond .ne 7, 3) := by decide +kernel
theorem dX8_lost_52 : decode cX8_lost 52 = .ok (.iconst 1, 1) := by decide +kernel
theorem dX8_lost_53 : decode cX8_lost 53 = .ok (.goto 4, 3) := by decide +kernel
theorem dX8_lost_56 : decode cX8_lost 56 = .ok (.iconst 0, 1) := by decide +kernel
theorem dX8_lost_57 : decode cX8_lost 57 = .ok (.istore 4, 2) := by decide +kernel
theorem dX8_lost_59 : decode cX8_lost 59 = .ok (.iload 4, 2) := by decide +kernel
theorem dX8_lost_61 : decode cX8_lost 61 = .ok (.ifCond .eq 26, 3) := by decide +kernel
theorem dX8_lost_64 : decode cX8_lost 64 = .ok (.aload_n 1, 1) := by decide +kernel
theorem dX8_lost_65 : decode cX8_lost 65 = .ok (.aload_n 0, 1) := by decide +kernel
theorem dX8_lost_66 : decode cX8_lost 66 = .ok (.getfield 43, 3) := by decide +kernel
theorem dX8_lost_69 : decode cX8_lost 69 = .ok (.iload_n 3, 1) := by decide +kernel
theorem dX8_lost_70 : decode cX8_lost 70 = .ok (.iconst 2, 1) := by decide +kernel
theorem dX8_lost_71 : decode cX8_lost 71 = .ok (.invokevirtual 200, 3) := by decide +kernel
theorem dX8_lost_74 : decode cX8_lost 74 = .ok (.aload_n 0, 1) := by decide +kernel
theorem dX8_lost_75 : decode cX8_lost 75 = .ok (.getfield 22, 3) := by decide +kernel
theorem dX8_lost_78 : decode cX8_lost 78 = .ok (.invokevirtual 207, 3) := by decide +kernel
theorem dX8_lost_81 : decode cX8_lost 81 = .ok (.ifCond .ne 6, 3) := by decide +kernel
theorem dX8_lost_84 : decode cX8_lost 84 = .ok (.iinc 2 1, 3) := by decide +kernel
theorem dX8_lost_87 : decode cX8_lost 87 = .ok (.iinc 3 1, 3) := by decide +kernel
theorem dX8_lost_90 : decode cX8_lost 90 = .ok (.goto (-61), 3) := by decide +kernel
theorem dX8_lost_93 : decode cX8_lost 93 = .ok (.iload_n 2, 1) := by decide +kernel
theorem dX8_lost_94 : decode cX8_lost 94 = .ok (.ireturn, 1) := by decide +kernel
theorem dX8_move_0 : decode cX8_move 0 = .ok (.iload_n 1, 1) := by decide +kernel
theorem dX8_move_1 : decode cX8_move 1 = .ok (.ifCond .ne 12, 3) := by decide +kernel
theorem dX8_move_4 : decode cX8_move 4 = .ok (.aload_n 0, 1) := by decide +kernel
theorem dX8_move_5 : decode cX8_move 5 = .ok (.invokevirtual 211, 3) := by decide +kernel
theorem dX8_move_8 : decode cX8_move 8 = .ok (.ifCond .le 5, 3) := by decide +kernel
theorem dX8_move_11 : decode cX8_move 11 = .ok (.iconst 0, 1) := by decide +kernel
theorem dX8_move_12 : decode cX8_move 12 = .ok (.ireturn, 1) := by decide +kernel
theorem dX8_move_13 : decode cX8_move 13 = .ok (.aload_n 0, 1) := by decide +kernel
theorem dX8_move_14 : decode cX8_move 14 = .ok (.iconst 1, 1) := by decide +kernel
theorem dX8_move_15 : decode cX8_move 15 = .ok (.aload_n 0, 1) := by decide +kernel
theorem dX8_move_16 : decode cX8_move 16 = .ok (.getfield 203, 3) := by decide +kernel
theorem dX8_move_19 : decode cX8_move 19 = .ok (.isub, 1) := by decide +kernel
theorem dX8_move_20 : decode cX8_move 20 = .ok (.putfield 203, 3) := by decide +kernel
theorem dX8_move_23 : decode cX8_move 23 = .ok (.aload_n 0, 1) := by decide +kernel
theorem dX8_move_24 : decode cX8_move 24 = .ok (.invokevirtual 75, 3) := by decide +kernel
theorem dX8_move_27 : decode cX8_move 27 = .ok (.iconst 1, 1) := by decide +kernel
theorem dX8_move_28 : decode cX8_move 28 = .ok (.ireturn, 1) := by decide +kernel
theorem dX8_count_0 : decode cX8_count 0 = .ok (.iload_n 1, 1) := by decide +kernel
theorem dX8_count_1 : decode cX8_count 1 = .ok (.tableswitch 94 0 6 #[43, 48, 53, 63, 73, 81, 89], 43) := by decide +kernel
theorem dX8_count_44 : decode cX8_count 44 = .ok (.aload_n 0, 1) := by decide +kernel
theorem dX8_count_45 : decode cX8_count 45 = .ok (.getfield 58, 3) := by decide +kernel
theorem dX8_count_48 : decode cX8_count 48 = .ok (.ireturn, 1) := by decide +kernel
theorem dX8_count_49 : decode cX8_count 49 = .ok (.aload_n 0, 1) := by decide +kernel
theorem dX8_count_50 : decode cX8_count 50 = .ok (.getfield 203, 3) := by decide +kernel
theorem dX8_count_53 : decode cX8_count 53 = .ok (.ireturn, 1) := by decide +kernel
theorem dX8_count_54 : decode cX8_count 54 = .ok (.aload_n 0, 1) := by decide +kernel
theorem dX8_count_55 : decode cX8_count 55 = .ok (.getfield 29, 3) := by decide +kernel
theorem dX8_count_58 : decode cX8_count 58 = .ok (.iconst 0, 1) := by decide +kernel
theorem dX8_count_59 : decode cX8_count 59 = .ok (.aaload, 1) := by decide +kernel
theorem dX8_count_60 : decode cX8_count 60 = .ok (.getfield 106, 3) := by decide +kernel
theorem dX8_count_63 : decode cX8_count 63 = .ok (.ireturn, 1) := by decide +kernel
theorem dX8_count_64 : decode cX8_count 64 = .ok (.aload_n 0, 1) := by decide +kernel
theorem dX8_count_65 : decode cX8_count 65 = .ok (.getfield 29, 3) := by decide +kernel
theorem dX8_count_68 : decode cX8_count 68 = .ok (.iconst 1, 1) := by decide +kernel
theorem dX8_count_69 : decode cX8_count 69 = .ok (.aaload, 1) := by decide +kernel
theorem dX8_count_70 : decode cX8_count 70 = .ok (.getfield 106, 3) := by decide +kernel
theorem dX8_count_73 : decode cX8_count 73 = .ok (.ireturn, 1) := by decide +kernel
theorem dX8_count_74 : decode cX8_count 74 = .ok (.aload_n 0, 1) := by decide +kernel
theorem dX8_count_75 : decode cX8_count 75 = .ok (.getfield 43, 3) := by decide +kernel
theorem dX8_count_78 : decode cX8_count 78 = .ok (.getfield 206, 3) := by decide +kernel
theorem dX8_count_81 : decode cX8_count 81 = .ok (.ireturn, 1) := by decide +kernel
theorem dX8_count_82 : decode cX8_count 82 = .ok (.aload_n 0, 1) := by decide +kernel
theorem dX8_count_83 : decode cX8_count 83 = .ok (.getfield 43, 3) := by decide +kernel
theorem dX8_count_86 : decode cX8_count 86 = .ok (.getfield 215, 3) := by decide +kernel
theorem dX8_count_89 : decode cX8_count 89 = .ok (.ireturn, 1) := by decide +kernel
theorem dX8_count_90 : decode cX8_count 90 = .ok (.aload_n 0, 1) := by decide +kernel
theorem dX8_count_91 : decode cX8_count 91 = .ok (.getfield 153, 3) := by decide +kernel
theorem dX8_count_94 : decode cX8_count 94 = .ok (.ireturn, 1) := by decide +kernel
theorem dX8_count_95 : decode cX8_count 95 = .ok (.iconst (-1), 1) := by decide +kernel
theorem dX8_count_96 : decode cX8_count 96 = .ok (.ireturn, 1) := by decide +kernel
theorem dX8_isWithin_0 : decode cX8_isWithin 0 = .ok (.iload_n 0, 1) := by decide +kernel
theorem dX8_isWithin_1 : decode cX8_isWithin 1 = .ok (.ifCond .lt 12, 3) := by decide +kernel
theorem dX8_isWithin_4 : decode cX8_isWithin 4 = .ok (.iload_n 0, 1) := by decide +kernel
theorem dX8_isWithin_5 : decode cX8_isWithin 5 = .ok (.iload_n 1, 1) := by decide +kernel
theorem dX8_isWithin_6 : decode cX8_isWithin 6 = .ok (.if_icmp .gt 7, 3) := by decide +kernel
theorem dX8_isWithin_9 : decode cX8_isWithin 9 = .ok (.iconst 1, 1) := by decide +kernel
theorem dX8_isWithin_10 : decode cX8_isWithin 10 = .ok (.goto 4, 3) := by decide +kernel
theorem dX8_isWithin_13 : decode cX8_isWithin 13 = .ok (.iconst 0, 1) := by decide +kernel
theorem dX8_isWithin_14 : decode cX8_isWithin 14 = .ok (.ireturn, 1) := by decide +kernel
theorem dX8_isBelow_0 : decode cX8_isBelow 0 = .ok (.iload_n 0, 1) := by decide +kernel
theorem dX8_isBelow_1 : decode cX8_isBelow 1 = .ok (.ifCond .lt 12, 3) := by decide +kernel
theorem dX8_isBelow_4 : decode cX8_isBelow 4 = .ok (.iload_n 0, 1) := by decide +kernel
theorem dX8_isBelow_5 : decode cX8_isBelow 5 = .ok (.iload_n 1, 1) := by decide +kernel
theorem dX8_isBelow_6 : decode cX8_isBelow 6 = .ok (.if_icmp .ge 7, 3) := by decide +kernel
theorem dX8_isBelow_9 : decode cX8_isBelow 9 = .ok (.iconst 1, 1) := by decide +kernel
theorem dX8_isBelow_10 : decode cX8_isBelow 10 = .ok (.goto 4, 3) := by decide +kernel
theorem dX8_isBelow_13 : decode cX8_isBelow 13 = .ok (.iconst 0, 1) := by decide +kernel
theorem dX8_isBelow_14 : decode cX8_isBelow 14 = .ok (.ireturn, 1) := by decide +kernel
theorem dX8_isAsk_0 : decode cX8_isAsk 0 = .ok (.iload_n 0, 1) := by decide +kernel
theorem dX8_isAsk_1 : decode cX8_isAsk 1 = .ok (.sipush 10000, 3) := by decide +kernel
theorem dX8_isAsk_4 : decode cX8_isAsk 4 = .ok (.invokestatic 72, 3) := by decide +kernel
theorem dX8_isAsk_7 : decode cX8_isAsk 7 = .ok (.ifCond .eq 15, 3) := by decide +kernel
theorem dX8_isAsk_10 : decode cX8_isAsk 10 = .ok (.iload_n 0, 1) := by decide +kernel
theorem dX8_isAsk_11 : decode cX8_isAsk 11 = .ok (.bipush 10, 2) := by decide +kernel
theorem dX8_isAsk_13 : decode cX8_isAsk 13 = .ok (.irem, 1) := by decide +kernel
theorem dX8_isAsk_14 : decode cX8_isAsk 14 = .ok (.iconst 4, 1) := by decide +kernel
theorem dX8_isAsk_15 : decode cX8_isAsk 15 = .ok (.if_icmp .ge 7, 3) := by decide +kernel
theorem dX8_isAsk_18 : decode cX8_isAsk 18 = .ok (.iconst 1, 1) := by decide +kernel
theorem dX8_isAsk_19 : decode cX8_isAsk 19 = .ok (.goto 4, 3) := by decide +kernel
theorem dX8_isAsk_22 : decode cX8_isAsk 22 = .ok (.iconst 0, 1) := by decide +kernel
theorem dX8_isAsk_23 : decode cX8_isAsk 23 = .ok (.ireturn, 1) := by decide +kernel
theorem dX8_hasBit_0 : decode cX8_hasBit 0 = .ok (.iload_n 0, 1) := by decide +kernel
theorem dX8_hasBit_1 : decode cX8_hasBit 1 = .ok (.iload_n 1, 1) := by decide +kernel
theorem dX8_hasBit_2 : decode cX8_hasBit 2 = .ok (.ishr, 1) := by decide +kernel
theorem dX8_hasBit_3 : decode cX8_hasBit 3 = .ok (.iconst 1, 1) := by decide +kernel
theorem dX8_hasBit_4 : decode cX8_hasBit 4 = .ok (.iand, 1) := by decide +kernel
theorem dX8_hasBit_5 : decode cX8_hasBit 5 = .ok (.iconst 1, 1) := by decide +kernel
theorem dX8_hasBit_6 : decode cX8_hasBit 6 = .ok (.if_icmp .ne 7, 3) := by decide +kernel
theorem dX8_hasBit_9 : decode cX8_hasBit 9 = .ok (.iconst 1, 1) := by decide +kernel
theorem dX8_hasBit_10 : decode cX8_hasBit 10 = .ok (.goto 4, 3) := by decide +kernel
theorem dX8_hasBit_13 : decode cX8_hasBit 13 = .ok (.iconst 0, 1) := by decide +kernel
theorem dX8_hasBit_14 : decode cX8_hasBit 14 = .ok (.ireturn, 1) := by decide +kernel
theorem dX8_rolesIn_0 : decode cX8_rolesIn 0 = .ok (.iload_n 0, 1) := by decide +kernel
theorem dX8_rolesIn_1 : decode cX8_rolesIn 1 = .ok (.sipush 5120, 3) := by decide +kernel
theorem dX8_rolesIn_4 : decode cX8_rolesIn 4 = .ok (.idiv, 1) := by decide +kernel
theorem dX8_rolesIn_5 : decode cX8_rolesIn 5 = .ok (.ireturn, 1) := by decide +kernel
theorem dX8_marksIn_0 : decode cX8_marksIn 0 = .ok (.iload_n 0, 1) := by decide +kernel
theorem dX8_marksIn_1 : decode cX8_marksIn 1 = .ok (.bipush 80, 2) := by decide +kernel
theorem dX8_marksIn_3 : decode cX8_marksIn 3 = .ok (.idiv, 1) := by decide +kernel
theorem dX8_marksIn_4 : decode cX8_marksIn 4 = .ok (.bipush 64, 2) := by decide +kernel
theorem dX8_marksIn_6 : decode cX8_marksIn 6 = .ok (.irem, 1) := by decide +kernel
theorem dX8_marksIn_7 : decode cX8_marksIn 7 = .ok (.ireturn, 1) := by decide +kernel
theorem dX8_spotIn_0 : decode cX8_spotIn 0 = .ok (.iload_n 0, 1) := by decide +kernel
theorem dX8_spotIn_1 : decode cX8_spotIn 1 = .ok (.bipush 80, 2) := by decide +kernel
theorem dX8_spotIn_3 : decode cX8_spotIn 3 = .ok (.irem, 1) := by decide +kernel
theorem dX8_spotIn_4 : decode cX8_spotIn 4 = .ok (.ireturn, 1) := by decide +kernel
theorem dX8_valueIn_0 : decode cX8_valueIn 0 = .ok (.iload_n 0, 1) := by decide +kernel
theorem dX8_valueIn_1 : decode cX8_valueIn 1 = .ok (.iconst 2, 1) := by decide +kernel
theorem dX8_valueIn_2 : decode cX8_valueIn 2 = .ok (.iconst 2, 1) := by decide +kernel
theorem dX8_valueIn_3 : decode cX8_valueIn 3 = .ok (.iload_n 1, 1) := by decide +kernel
theorem dX8_valueIn_4 : decode cX8_valueIn 4 = .ok (.isub, 1) := by decide +kernel
theorem dX8_valueIn_5 : decode cX8_valueIn 5 = .ok (.imul, 1) := by decide +kernel
theorem dX8_valueIn_6 : decode cX8_valueIn 6 = .ok (.ishr, 1) := by decide +kernel
theorem dX8_valueIn_7 : decode cX8_valueIn 7 = .ok (.iconst 3, 1) := by decide +kernel
theorem dX8_valueIn_8 : decode cX8_valueIn 8 = .ok (.iand, 1) := by decide +kernel
theorem dX8_valueIn_9 : decode cX8_valueIn 9 = .ok (.ireturn, 1) := by decide +kernel
theorem dX8_heapAt_0 : decode cX8_heapAt 0 = .ok (.iload_n 1, 1) := by decide +kernel
theorem dX8_heapAt_1 : decode cX8_heapAt 1 = .ok (.aload_n 0, 1) := by decide +kernel
theorem dX8_heapAt_2 : decode cX8_heapAt 2 = .ok (.getfield 29, 3) := by decide +kernel
theorem dX8_heapAt_5 : decode cX8_heapAt 5 = .ok (.arraylength, 1) := by decide +kernel
theorem dX8_heapAt_6 : decode cX8_heapAt 6 = .ok (.invokestatic 72, 3) := by decide +kernel
theorem dX8_heapAt_9 : decode cX8_heapAt 9 = .ok (.ifCond .eq 12, 3) := by decide +kernel
theorem dX8_heapAt_12 : decode cX8_heapAt 12 = .ok (.aload_n 0, 1) := by decide +kernel
theorem dX8_heapAt_13 : decode cX8_heapAt 13 = .ok (.getfield 29, 3) := by decide +kernel
theorem dX8_heapAt_16 : decode cX8_heapAt 16 = .ok (.iload_n 1, 1) := by decide +kernel
theorem dX8_heapAt_17 : decode cX8_heapAt 17 = .ok (.aaload, 1) := by decide +kernel
theorem dX8_heapAt_18 : decode cX8_heapAt 18 = .ok (.goto 4, 3) := by decide +kernel
theorem dX8_heapAt_21 : decode cX8_heapAt 21 = .ok (.aconst_null, 1) := by decide +kernel
theorem dX8_heapAt_22 : decode cX8_heapAt 22 = .ok (.areturn, 1) := by decide +kernel
theorem dX8_judgeAt_0 : decode cX8_judgeAt 0 = .ok (.iload_n 1, 1) := by decide +kernel
theorem dX8_judgeAt_1 : decode cX8_judgeAt 1 = .ok (.aload_n 0, 1) := by decide +kernel
theorem dX8_judgeAt_2 : decode cX8_judgeAt 2 = .ok (.getfield 36, 3) := by decide +kernel
theorem dX8_judgeAt_5 : decode cX8_judgeAt 5 = .ok (.arraylength, 1) := by decide +kernel
theorem dX8_judgeAt_6 : decode cX8_judgeAt 6 = .ok (.invokestatic 72, 3) := by decide +kernel
theorem dX8_judgeAt_9 : decode cX8_judgeAt 9 = .ok (.ifCond .eq 12, 3) := by decide +kernel
theorem dX8_judgeAt_12 : decode cX8_judgeAt 12 = .ok (.aload_n 0, 1) := by decide +kernel
theorem dX8_judgeAt_13 : decode cX8_judgeAt 13 = .ok (.getfield 36, 3) := by decide +kernel
theorem dX8_judgeAt_16 : decode cX8_judgeAt 16 = .ok (.iload_n 1, 1) := by decide +kernel
theorem dX8_judgeAt_17 : decode cX8_judgeAt 17 = .ok (.aaload, 1) := by decide +kernel
theorem dX8_judgeAt_18 : decode cX8_judgeAt 18 = .ok (.goto 4, 3) := by decide +kernel
theorem dX8_judgeAt_21 : decode cX8_judgeAt 21 = .ok (.aconst_null, 1) := by decide +kernel
theorem dX8_judgeAt_22 : decode cX8_judgeAt 22 = .ok (.areturn, 1) := by decide +kernel
theorem dX8_sendLetters_0 : decode cX8_sendLetters 0 = .ok (.iconst 0, 1) := by decide +kernel
theorem dX8_sendLetters_1 : decode cX8_sendLetters 1 = .ok (.istore_n 1, 1) := by decide +kernel
theorem dX8_sendLetters_2 : decode cX8_sendLetters 2 = .ok (.iload_n 1, 1) := by decide +kernel
theorem dX8_sendLetters_3 : decode cX8_sendLetters 3 = .ok (.aload_n 0, 1) := by decide +kernel
theorem dX8_sendLetters_4 : decode cX8_sendLetters 4 = .ok (.getfield 36, 3) := by decide +kernel
theorem dX8_sendLetters_7 : decode cX8_sendLetters 7 = .ok (.arraylength, 1) := by decide +kernel
theorem dX8_sendLetters_8 : decode cX8_sendLetters 8 = .ok (.if_icmp .ge 18, 3) := by decide +kernel
theorem dX8_sendLetters_11 : decode cX8_sendLetters 11 = .ok (.aload_n 0, 1) := by decide +kernel
theorem dX8_sendLetters_12 : decode cX8_sendLetters 12 = .ok (.getfield 36, 3) := by decide +kernel
theorem dX8_sendLetters_15 : decode cX8_sendLetters 15 = .ok (.iload_n 1, 1) := by decide +kernel
theorem dX8_sendLetters_16 : decode cX8_sendLetters 16 = .ok (.aaload, 1) := by decide +kernel
theorem dX8_sendLetters_17 : decode cX8_sendLetters 17 = .ok (.invokevirtual 218, 3) := by decide +kernel
theorem dX8_sendLetters_20 : decode cX8_sendLetters 20 = .ok (.iinc 1 1, 3) := by decide +kernel
theorem dX8_sendLetters_23 : decode cX8_sendLetters 23 = .ok (.goto (-21), 3) := by decide +kernel
theorem dX8_sendLetters_26 : decode cX8_sendLetters 26 = .ok (.return_, 1) := by decide +kernel
theorem dX8_codeNow_0 : decode cX8_codeNow 0 = .ok (.iload_n 1, 1) := by decide +kernel
theorem dX8_codeNow_1 : decode cX8_codeNow 1 = .ok (.sipush 1000, 3) := by decide +kernel
theorem dX8_codeNow_4 : decode cX8_codeNow 4 = .ok (.idiv, 1) := by decide +kernel
theorem dX8_codeNow_5 : decode cX8_codeNow 5 = .ok (.istore_n 2, 1) := by decide +kernel
theorem dX8_codeNow_6 : decode cX8_codeNow 6 = .ok (.iload_n 1, 1) := by decide +kernel
theorem dX8_codeNow_7 : decode cX8_codeNow 7 = .ok (.bipush 100, 2) := by decide +kernel
theorem dX8_codeNow_9 : decode cX8_codeNow 9 = .ok (.idiv, 1) := by decide +kernel
theorem dX8_codeNow_10 : decode cX8_codeNow 10 = .ok (.bipush 10, 2) := by decide +kernel
theorem dX8_codeNow_12 : decode cX8_codeNow 12 = .ok (.irem, 1) := by decide +kernel
theorem dX8_codeNow_13 : decode cX8_codeNow 13 = .ok (.istore_n 3, 1) := by decide +kernel
theorem dX8_codeNow_14 : decode cX8_codeNow 14 = .ok (.iload_n 1, 1) := by decide +kernel
theorem dX8_codeNow_15 : decode cX8_codeNow 15 = .ok (.bipush 10, 2) := by decide +kernel
theorem dX8_codeNow_17 : decode cX8_codeNow 17 = .ok (.idiv, 1) := by decide +kernel
theorem dX8_codeNow_18 : decode cX8_codeNow 18 = .ok (.bipush 10, 2) := by decide +kernel
theorem dX8_codeNow_20 : decode cX8_codeNow 20 = .ok (.irem, 1) := by decide +kernel
theorem dX8_codeNow_21 : decode cX8_codeNow 21 = .ok (.istore 4, 2) := by decide +kernel
theorem dX8_codeNow_23 : decode cX8_codeNow 23 = .ok (.aload_n 0, 1) := by decide +kernel
theorem dX8_codeNow_24 : decode cX8_codeNow 24 = .ok (.getfield 9, 3) := by decide +kernel
theorem dX8_codeNow_27 : decode cX8_codeNow 27 = .ok (.iload_n 2, 1) := by decide +kernel
theorem dX8_codeNow_28 : decode cX8_codeNow 28 = .ok (.iaload, 1) := by decide +kernel
theorem dX8_codeNow_29 : decode cX8_codeNow 29 = .ok (.istore 5, 2) := by decide +kernel
theorem dX8_codeNow_31 : decode cX8_codeNow 31 = .ok (.iload 5, 2) := by decide +kernel
theorem dX8_codeNow_33 : decode cX8_codeNow 33 = .ok (.iconst 4, 1) := by decide +kernel
theorem dX8_codeNow_34 : decode cX8_codeNow 34 = .ok (.imul, 1) := by decide +kernel
theorem dX8_codeNow_35 : decode cX8_codeNow 35 = .ok (.aload_n 0, 1) := by decide +kernel
theorem dX8_codeNow_36 : decode cX8_codeNow 36 = .ok (.getfield 22, 3) := by decide +kernel
theorem dX8_codeNow_39 : decode cX8_codeNow 39 = .ok (.iload_n 3, 1) := by decide +kernel
theorem dX8_codeNow_40 : decode cX8_codeNow 40 = .ok (.iconst 0, 1) := by decide +kernel
theorem dX8_codeNow_41 : decode cX8_codeNow 41 = .ok (.aload_n 0, 1) := by decide +kernel
theorem dX8_codeNow_42 : decode cX8_codeNow 42 = .ok (.getfield 58, 3) := by decide +kernel
theorem dX8_codeNow_45 : decode cX8_codeNow 45 = .ok (.invokevirtual 221, 3) := by decide +kernel
theorem dX8_codeNow_48 : decode cX8_codeNow 48 = .ok (.iadd, 1) := by decide +kernel
theorem dX8_codeNow_49 : decode cX8_codeNow 49 = .ok (.istore 5, 2) := by decide +kernel
theorem dX8_codeNow_51 : decode cX8_codeNow 51 = .ok (.iload 5, 2) := by decide +kernel
theorem dX8_codeNow_53 : decode cX8_codeNow 53 = .ok (.iconst 4, 1) := by decide +kernel
theorem dX8_codeNow_54 : decode cX8_codeNow 54 = .ok (.imul, 1) := by decide +kernel
theorem dX8_codeNow_55 : decode cX8_codeNow 55 = .ok (.aload_n 0, 1) := by decide +kernel
theorem dX8_codeNow_56 : decode cX8_codeNow 56 = .ok (.getfield 22, 3) := by decide +kernel
theorem dX8_codeNow_59 : decode cX8_codeNow 59 = .ok (.iload_n 3, 1) := by decide +kernel
theorem dX8_codeNow_60 : decode cX8_codeNow 60 = .ok (.iconst 1, 1) := by decide +kernel
theorem dX8_codeNow_61 : decode cX8_codeNow 61 = .ok (.aload_n 0, 1) := by decide +kernel
theorem dX8_codeNow_62 : decode cX8_codeNow 62 = .ok (.getfield 58, 3) := by decide +kernel
theorem dX8_codeNow_65 : decode cX8_codeNow 65 = .ok (.invokevirtual 221, 3) := by decide +kernel
theorem dX8_codeNow_68 : decode cX8_codeNow 68 = .ok (.iadd, 1) := by decide +kernel
theorem dX8_codeNow_69 : decode cX8_codeNow 69 = .ok (.istore 5, 2) := by decide +kernel
theorem dX8_codeNow_71 : decode cX8_codeNow 71 = .ok (.iload 5, 2) := by decide +kernel
theorem dX8_codeNow_73 : decode cX8_codeNow 73 = .ok (.iconst 4, 1) := by decide +kernel
theorem dX8_codeNow_74 : decode cX8_codeNow 74 = .ok (.imul, 1) := by decide +kernel
theorem dX8_codeNow_75 : decode cX8_codeNow 75 = .ok (.aload_n 0, 1) := by decide +kernel
theorem dX8_codeNow_76 : decode cX8_codeNow 76 = .ok (.getfield 22, 3) := by decide +kernel
theorem dX8_codeNow_79 : decode cX8_codeNow 79 = .ok (.iload_n 2, 1) := by decide +kernel
theorem dX8_codeNow_80 : decode cX8_codeNow 80 = .ok (.iconst 2, 1) := by decide +kernel
theorem dX8_codeNow_81 : decode cX8_codeNow 81 = .ok (.aload_n 0, 1) := by decide +kernel
theorem dX8_codeNow_82 : decode cX8_codeNow 82 = .ok (.getfield 58, 3) := by decide +kernel
theorem dX8_codeNow_85 : decode cX8_codeNow 85 = .ok (.invokevirtual 221, 3) := by decide +kernel
theorem dX8_codeNow_88 : decode cX8_codeNow 88 = .ok (.iadd, 1) := by decide +kernel
theorem dX8_codeNow_89 : decode cX8_codeNow 89 = .ok (.istore 5, 2) := by decide +kernel
theorem dX8_codeNow_91 : decode cX8_codeNow 91 = .ok (.iload 5, 2) := by decide +kernel
theorem dX8_codeNow_93 : decode cX8_codeNow 93 = .ok (.iconst 4, 1) := by decide +kernel
theorem dX8_codeNow_94 : decode cX8_codeNow 94 = .ok (.imul, 1) := by decide +kernel
theorem dX8_codeNow_95 : decode cX8_codeNow 95 = .ok (.iload_n 1, 1) := by decide +kernel
theorem dX8_codeNow_96 : decode cX8_codeNow 96 = .ok (.bipush 10, 2) := by decide +kernel
theorem dX8_codeNow_98 : decode cX8_codeNow 98 = .ok (.irem, 1) := by decide +kernel
theorem dX8_codeNow_99 : decode cX8_codeNow 99 = .ok (.iadd, 1) := by decide +kernel
theorem dX8_codeNow_100 : decode cX8_codeNow 100 = .ok (.istore 5, 2) := by decide +kernel
theorem dX8_codeNow_102 : decode cX8_codeNow 102 = .ok (.iload 5, 2) := by decide +kernel
theorem dX8_codeNow_104 : decode cX8_codeNow 104 = .ok (.iconst 4, 1) := by decide +kernel
theorem dX8_codeNow_105 : decode cX8_codeNow 105 = .ok (.imul, 1) := by decide +kernel
theorem dX8_codeNow_106 : decode cX8_codeNow 106 = .ok (.aload_n 0, 1) := by decide +kernel
theorem dX8_codeNow_107 : decode cX8_codeNow 107 = .ok (.getfield 13, 3) := by decide +kernel
theorem dX8_codeNow_110 : decode cX8_codeNow 110 = .ok (.iload 4, 2) := by decide +kernel
theorem dX8_codeNow_112 : decode cX8_codeNow 112 = .ok (.iaload, 1) := by decide +kernel
theorem dX8_codeNow_113 : decode cX8_codeNow 113 = .ok (.iadd, 1) := by decide +kernel
theorem dX8_codeNow_114 : decode cX8_codeNow 114 = .ok (.istore 5, 2) := by decide +kernel
theorem dX8_codeNow_116 : decode cX8_codeNow 116 = .ok (.iload 5, 2) := by decide +kernel
theorem dX8_codeNow_118 : decode cX8_codeNow 118 = .ok (.iconst 5, 1) := by decide +kernel
theorem dX8_codeNow_119 : decode cX8_codeNow 119 = .ok (.imul, 1) := by decide +kernel
theorem dX8_codeNow_120 : decode cX8_codeNow 120 = .ok (.aload_n 0, 1) := by decide +kernel
theorem dX8_codeNow_121 : decode cX8_codeNow 121 = .ok (.getfield 16, 3) := by decide +kernel
theorem dX8_codeNow_124 : decode cX8_codeNow 124 = .ok (.iload 4, 2) := by decide +kernel
theorem dX8_codeNow_126 : decode cX8_codeNow 126 = .ok (.iaload, 1) := by decide +kernel
theorem dX8_codeNow_127 : decode cX8_codeNow 127 = .ok (.iadd, 1) := by decide +kernel
theorem dX8_codeNow_128 : decode cX8_codeNow 128 = .ok (.ireturn, 1) := by decide +kernel
theorem dX8_answerInForce_0 : decode cX8_answerInForce 0 = .ok (.aload_n 0, 1) := by decide +kernel
theorem dX8_answerInForce_1 : decode cX8_answerInForce 1 = .ok (.getfield 29, 3) := by decide +kernel
theorem dX8_answerInForce_4 : decode cX8_answerInForce 4 = .ok (.aload_n 0, 1) := by decide +kernel
theorem dX8_answerInForce_5 : decode cX8_answerInForce 5 = .ok (.getfield 203, 3) := by decide +kernel
theorem dX8_answerInForce_8 : decode cX8_answerInForce 8 = .ok (.aaload, 1) := by decide +kernel
theorem dX8_answerInForce_9 : decode cX8_answerInForce 9 = .ok (.astore_n 2, 1) := by decide +kernel
theorem dX8_answerInForce_10 : decode cX8_answerInForce 10 = .ok (.aload_n 2, 1) := by decide +kernel
theorem dX8_answerInForce_11 : decode cX8_answerInForce 11 = .ok (.iload_n 1, 1) := by decide +kernel
theorem dX8_answerInForce_12 : decode cX8_answerInForce 12 = .ok (.aload_n 0, 1) := by decide +kernel
theorem dX8_answerInForce_13 : decode cX8_answerInForce 13 = .ok (.getfield 22, 3) := by decide +kernel
theorem dX8_answerInForce_16 : decode cX8_answerInForce 16 = .ok (.invokevirtual 207, 3) := by decide +kernel
theorem dX8_answerInForce_19 : decode cX8_answerInForce 19 = .ok (.ifCond .eq 5, 3) := by decide +kernel
theorem dX8_answerInForce_22 : decode cX8_answerInForce 22 = .ok (.iconst 0, 1) := by decide +kernel
theorem dX8_answerInForce_23 : decode cX8_answerInForce 23 = .ok (.ireturn, 1) := by decide +kernel
theorem dX8_answerInForce_24 : decode cX8_answerInForce 24 = .ok (.iconst 3, 1) := by decide +kernel
theorem dX8_answerInForce_25 : decode cX8_answerInForce 25 = .ok (.iload_n 1, 1) := by decide +kernel
theorem dX8_answerInForce_26 : decode cX8_answerInForce 26 = .ok (.invokestatic 225, 3) := by decide +kernel
theorem dX8_answerInForce_29 : decode cX8_answerInForce 29 = .ok (.iconst 2, 1) := by decide +kernel
theorem dX8_answerInForce_30 : decode cX8_answerInForce 30 = .ok (.invokestatic 228, 3) := by decide +kernel
theorem dX8_answerInForce_33 : decode cX8_answerInForce 33 = .ok (.isub, 1) := by decide +kernel
theorem dX8_answerInForce_34 : decode cX8_answerInForce 34 = .ok (.istore_n 3, 1) := by decide +kernel
theorem dX8_answerInForce_35 : decode cX8_answerInForce 35 = .ok (.aload_n 2, 1) := by decide +kernel
theorem dX8_answerInForce_36 : decode cX8_answerInForce 36 = .ok (.iload_n 1, 1) := by decide +kernel
theorem dX8_answerInForce_37 : decode cX8_answerInForce 37 = .ok (.iload_n 3, 1) := by decide +kernel
theorem dX8_answerInForce_38 : decode cX8_answerInForce 38 = .ok (.bipush 80, 2) := by decide +kernel
theorem dX8_answerInForce_40 : decode cX8_answerInForce 40 = .ok (.imul, 1) := by decide +kernel
theorem dX8_answerInForce_41 : decode cX8_answerInForce 41 = .ok (.iadd, 1) := by decide +kernel
theorem dX8_answerInForce_42 : decode cX8_answerInForce 42 = .ok (.aload_n 0, 1) := by decide +kernel
theorem dX8_answerInForce_43 : decode cX8_answerInForce 43 = .ok (.getfield 22, 3) := by decide +kernel
theorem dX8_answerInForce_46 : decode cX8_answerInForce 46 = .ok (.invokevirtual 207, 3) := by decide +kernel
theorem dX8_answerInForce_49 : decode cX8_answerInForce 49 = .ok (.ifCond .eq 7, 3) := by decide +kernel
theorem dX8_answerInForce_52 : decode cX8_answerInForce 52 = .ok (.iconst 1, 1) := by decide +kernel
theorem dX8_answerInForce_53 : decode cX8_answerInForce 53 = .ok (.goto 4, 3) := by decide +kernel
theorem dX8_answerInForce_56 : decode cX8_answerInForce 56 = .ok (.iconst 2, 1) := by decide +kernel
theorem dX8_answerInForce_57 : decode cX8_answerInForce 57 = .ok (.ireturn, 1) := by decide +kernel
theorem dX9_init_0 : decode cX9_init 0 = .ok (.aload_n 0, 1) := by decide +kernel
theorem dX9_init_1 : decode cX9_init 1 = .ok (.invokespecial 1, 3) := by decide +kernel
theorem dX9_init_4 : decode cX9_init 4 = .ok (.aload_n 0, 1) := by decide +kernel
theorem dX9_init_5 : decode cX9_init 5 = .ok (.bipush 10, 2) := by decide +kernel
theorem dX9_init_7 : decode cX9_init 7 = .ok (.newarray .int, 2) := by decide +kernel
theorem dX9_init_9 : decode cX9_init 9 = .ok (.putfield 9, 3) := by decide +kernel
theorem dX9_init_12 : decode cX9_init 12 = .ok (.aload_n 0, 1) := by decide +kernel
theorem dX9_init_13 : decode cX9_init 13 = .ok (.bipush 30, 2) := by decide +kernel
theorem dX9_init_15 : decode cX9_init 15 = .ok (.newarray .int, 2) := by decide +kernel
theorem dX9_init_17 : decode cX9_init 17 = .ok (.putfield 13, 3) := by decide +kernel
theorem dX9_init_20 : decode cX9_init 20 = .ok (.aload_n 0, 1) := by decide +kernel
theorem dX9_init_21 : decode cX9_init 21 = .ok (.bipush 30, 2) := by decide +kernel
theorem dX9_init_23 : decode cX9_init 23 = .ok (.newarray .int, 2) := by decide +kernel
theorem dX9_init_25 : decode cX9_init 25 = .ok (.putfield 16, 3) := by decide +kernel
theorem dX9_init_28 : decode cX9_init 28 = .ok (.aload_n 0, 1) := by decide +kernel
theorem dX9_init_29 : decode cX9_init 29 = .ok (.iconst 3, 1) := by decide +kernel
theorem dX9_init_30 : decode cX9_init 30 = .ok (.newarray .int, 2) := by decide +kernel
theorem dX9_init_32 : decode cX9_init 32 = .ok (.dup, 1) := by decide +kernel
theorem dX9_init_33 : decode cX9_init 33 = .ok (.iconst 0, 1) := by decide +kernel
theorem dX9_init_34 : decode cX9_init 34 = .ok (.bipush 20, 2) := by decide +kernel
theorem dX9_init_36 : decode cX9_init 36 = .ok (.iastore, 1) := by decide +kernel
theorem dX9_init_37 : decode cX9_init 37 = .ok (.dup, 1) := by decide +kernel
theorem dX9_init_38 : decode cX9_init 38 = .ok (.iconst 1, 1) := by decide +kernel
theorem dX9_init_39 : decode cX9_init 39 = .ok (.bipush 20, 2) := by decide +kernel
theorem dX9_init_41 : decode cX9_init 41 = .ok (.iastore, 1) := by decide +kernel
theorem dX9_init_42 : decode cX9_init 42 = .ok (.dup, 1) := by decide +kernel
theorem dX9_init_43 : decode cX9_init 43 = .ok (.iconst 2, 1) := by decide +kernel
theorem dX9_init_44 : decode cX9_init 44 = .ok (.bipush 20, 2) := by decide +kernel
theorem dX9_init_46 : decode cX9_init 46 = .ok (.iastore, 1) := by decide +kernel
theorem dX9_init_47 : decode cX9_init 47 = .ok (.putfield 19, 3) := by decide +kernel
theorem dX9_init_50 : decode cX9_init 50 = .ok (.aload_n 0, 1) := by decide +kernel
theorem dX9_init_51 : decode cX9_init 51 = .ok (.iconst 3, 1) := by decide +kernel
theorem dX9_init_52 : decode cX9_init 52 = .ok (.newarray .int, 2) := by decide +kernel
theorem dX9_init_54 : decode cX9_init 54 = .ok (.dup, 1) := by decide +kernel
theorem dX9_init_55 : decode cX9_init 55 = .ok (.iconst 0, 1) := by decide +kernel
theorem dX9_init_56 : decode cX9_init 56 = .ok (.iconst 1, 1) := by decide +kernel
theorem dX9_init_57 : decode cX9_init 57 = .ok (.iastore, 1) := by decide +kernel
theorem dX9_init_58 : decode cX9_init 58 = .ok (.dup, 1) := by decide +kernel
theorem dX9_init_59 : decode cX9_init 59 = .ok (.iconst 1, 1) := by decide +kernel
theorem dX9_init_60 : decode cX9_init 60 = .ok (.iconst 1, 1) := by decide +kernel
theorem dX9_init_61 : decode cX9_init 61 = .ok (.iastore, 1) := by decide +kernel
theorem dX9_init_62 : decode cX9_init 62 = .ok (.dup, 1) := by decide +kernel
theorem dX9_init_63 : decode cX9_init 63 = .ok (.iconst 2, 1) := by decide +kernel
theorem dX9_init_64 : decode cX9_init 64 = .ok (.iconst 1, 1) := by decide +kernel
theorem dX9_init_65 : decode cX9_init 65 = .ok (.iastore, 1) := by decide +kernel
theorem dX9_init_66 : decode cX9_init 66 = .ok (.putfield 22, 3) := by decide +kernel
theorem dX9_init_69 : decode cX9_init 69 = .ok (.aload_n 0, 1) := by decide +kernel
theorem dX9_init_70 : decode cX9_init 70 = .ok (.bipush 10, 2) := by decide +kernel
theorem dX9_init_72 : decode cX9_init 72 = .ok (.newarray .int, 2) := by decide +kernel
theorem dX9_init_74 : decode cX9_init 74 = .ok (.putfield 25, 3) := by decide +kernel
theorem dX9_init_77 : decode cX9_init 77 = .ok (.aload_n 0, 1) := by decide +kernel
theorem dX9_init_78 : decode cX9_init 78 = .ok (.bipush 10, 2) := by decide +kernel
theorem dX9_init_80 : decode cX9_init 80 = .ok (.newarray .int, 2) := by decide +kernel
theorem dX9_init_82 : decode cX9_init 82 = .ok (.putfield 28, 3) := by decide +kernel
theorem dX9_init_85 : decode cX9_init 85 = .ok (.aload_n 0, 1) := by decide +kernel
theorem dX9_init_86 : decode cX9_init 86 = .ok (.iconst 2, 1) := by decide +kernel
theorem dX9_init_87 : decode cX9_init 87 = .ok (.newarray .int, 2) := by decide +kernel
theorem dX9_init_89 : decode cX9_init 89 = .ok (.putfield 31, 3) := by decide +kernel
theorem dX9_init_92 : decode cX9_init 92 = .ok (.aload_n 0, 1) := by decide +kernel
theorem dX9_init_93 : decode cX9_init 93 = .ok (.bipush 24, 2) := by decide +kernel
theorem dX9_init_95 : decode cX9_init 95 = .ok (.newarray .int, 2) := by decide +kernel
theorem dX9_init_97 : decode cX9_init 97 = .ok (.putfield 34, 3) := by decide +kernel
theorem dX9_init_100 : decode cX9_init 100 = .ok (.aload_n 0, 1) := by decide +kernel
theorem dX9_init_101 : decode cX9_init 101 = .ok (.bipush 24, 2) := by decide +kernel
theorem dX9_init_103 : decode cX9_init 103 = .ok (.newarray .int, 2) := by decide +kernel
theorem dX9_init_105 : decode cX9_init 105 = .ok (.putfield 37, 3) := by decide +kernel
theorem dX9_init_108 : decode cX9_init 108 = .ok (.aload_n 0, 1) := by decide +kernel
theorem dX9_init_109 : decode cX9_init 109 = .ok (.bipush 24, 2) := by decide +kernel
theorem dX9_init_111 : decode cX9_init 111 = .ok (.newarray .int, 2) := by decide +kernel
theorem dX9_init_113 : decode cX9_init 113 = .ok (.putfield 40, 3) := by decide +kernel
theorem dX9_init_116 : decode cX9_init 116 = .ok (.aload_n 0, 1) := by decide +kernel
theorem dX9_init_117 : decode cX9_init 117 = .ok (.iconst 4, 1) := by decide +kernel
theorem dX9_init_118 : decode cX9_init 118 = .ok (.newarray .int, 2) := by decide +kernel
theorem dX9_init_120 : decode cX9_init 120 = .ok (.dup, 1) := by decide +kernel
theorem dX9_init_121 : decode cX9_init 121 = .ok (.iconst 0, 1) := by decide +kernel
theorem dX9_init_122 : decode cX9_init 122 = .ok (.iconst 5, 1) := by decide +kernel
theorem dX9_init_123 : decode cX9_init 123 = .ok (.iastore, 1) := by decide +kernel
theorem dX9_init_124 : decode cX9_init 124 = .ok (.dup, 1) := by decide +kernel
theorem dX9_init_125 : decode cX9_init 125 = .ok (.iconst 1, 1) := by decide +kernel
theorem dX9_init_126 : decode cX9_init 126 = .ok (.iconst 5, 1) := by decide +kernel
theorem dX9_init_127 : decode cX9_init 127 = .ok (.iastore, 1) := by decide +kernel
theorem dX9_init_128 : decode cX9_init 128 = .ok (.dup, 1) := by decide +kernel
theorem dX9_init_129 : decode cX9_init 129 = .ok (.iconst 2, 1) := by decide +kernel
theorem dX9_init_130 : decode cX9_init 130 = .ok (.iconst 5, 1) := by decide +kernel
theorem dX9_init_131 : decode cX9_init 131 = .ok (.iastore, 1) := by decide +kernel
theorem dX9_init_132 : decode cX9_init 132 = .ok (.dup, 1) := by decide +kernel
theorem dX9_init_133 : decode cX9_init 133 = .ok (.iconst 3, 1) := by decide +kernel
theorem dX9_init_134 : decode cX9_init 134 = .ok (.iconst 5, 1) := by decide +kernel
theorem dX9_init_135 : decode cX9_init 135 = .ok (.iastore, 1) := by decide +kernel
theorem dX9_init_136 : decode cX9_init 136 = .ok (.putfield 43, 3) := by decide +kernel
theorem dX9_init_139 : decode cX9_init 139 = .ok (.aload_n 0, 1) := by decide +kernel
theorem dX9_init_140 : decode cX9_init 140 = .ok (.iconst 4, 1) := by decide +kernel
theorem dX9_init_141 : decode cX9_init 141 = .ok (.newarray .int, 2) := by decide +kernel
theorem dX9_init_143 : decode cX9_init 143 = .ok (.dup, 1) := by decide +kernel
theorem dX9_init_144 : decode cX9_init 144 = .ok (.iconst 0, 1) := by decide +kernel
theorem dX9_init_145 : decode cX9_init 145 = .ok (.iconst 2, 1) := by decide +kernel
theorem dX9_init_146 : decode cX9_init 146 = .ok (.iastore, 1) := by decide +kernel
theorem dX9_init_147 : decode cX9_init 147 = .ok (.dup, 1) := by decide +kernel
theorem dX9_init_148 : decode cX9_init 148 = .ok (.iconst 1, 1) := by decide +kernel
theorem dX9_init_149 : decode cX9_init 149 = .ok (.iconst 2, 1) := by decide +kernel
theorem dX9_init_150 : decode cX9_init 150 = .ok (.iastore, 1) := by decide +kernel
theorem dX9_init_151 : decode cX9_init 151 = .ok (.dup, 1) := by decide +kernel
theorem dX9_init_152 : decode cX9_init 152 = .ok (.iconst 2, 1) := by decide +kernel
theorem dX9_init_153 : decode cX9_init 153 = .ok (.iconst 2, 1) := by decide +kernel
theorem dX9_init_154 : decode cX9_init 154 = .ok (.iastore, 1) := by decide +kernel
theorem dX9_init_155 : decode cX9_init 155 = .ok (.dup, 1) := by decide +kernel
theorem dX9_init_156 : decode cX9_init 156 = .ok (.iconst 3, 1) := by decide +kernel
theorem dX9_init_157 : decode cX9_init 157 = .ok (.iconst 2, 1) := by decide +kernel
theorem dX9_init_158 : decode cX9_init 158 = .ok (.iastore, 1) := by decide +kernel
theorem dX9_init_159 : decode cX9_init 159 = .ok (.putfield 46, 3) := by decide +kernel
theorem dX9_init_162 : decode cX9_init 162 = .ok (.aload_n 0, 1) := by decide +kernel
theorem dX9_init_163 : decode cX9_init 163 = .ok (.ldc 49, 2) := by decide +kernel
theorem dX9_init_165 : decode cX9_init 165 = .ok (.newarray .int, 2) := by decide +kernel
theorem dX9_init_167 : decode cX9_init 167 = .ok (.putfield 50, 3) := by decide +kernel
theorem dX9_init_170 : decode cX9_init 170 = .ok (.aload_n 0, 1) := by decide +kernel
theorem dX9_init_171 : decode cX9_init 171 = .ok (.ldc 49, 2) := by decide +kernel
theorem dX9_init_173 : decode cX9_init 173 = .ok (.newarray .int, 2) := by decide +kernel
theorem dX9_init_175 : decode cX9_init 175 = .ok (.putfield 53, 3) := by decide +kernel
theorem dX9_init_178 : decode cX9_init 178 = .ok (.aload_n 0, 1) := by decide +kernel
theorem dX9_init_179 : decode cX9_init 179 = .ok (.sipush 20120, 3) := by decide +kernel
theorem dX9_init_182 : decode cX9_init 182 = .ok (.newarray .boolean, 2) := by decide +kernel
theorem dX9_init_184 : decode cX9_init 184 = .ok (.putfield 56, 3) := by decide +kernel
theorem dX9_init_187 : decode cX9_init 187 = .ok (.aload_n 0, 1) := by decide +kernel
theorem dX9_init_188 : decode cX9_init 188 = .ok (.sipush 300, 3) := by decide +kernel
theorem dX9_init_191 : decode cX9_init 191 = .ok (.newarray .int, 2) := by decide +kernel
theorem dX9_init_193 : decode cX9_init 193 = .ok (.putfield 60, 3) := by decide +kernel
theorem dX9_init_196 : decode cX9_init 196 = .ok (.aload_n 0, 1) := by decide +kernel
theorem dX9_init_197 : decode cX9_init 197 = .ok (.sipush 300, 3) := by decide +kernel
theorem dX9_init_200 : decode cX9_init 200 = .ok (.newarray .int, 2) := by decide +kernel
theorem dX9_init_202 : decode cX9_init 202 = .ok (.putfield 63, 3) := by decide +kernel
theorem dX9_init_205 : decode cX9_init 205 = .ok (.aload_n 0, 1) := by decide +kernel
theorem dX9_init_206 : decode cX9_init 206 = .ok (.sipush 300, 3) := by decide +kernel
theorem dX9_init_209 : decode cX9_init 209 = .ok (.newarray .int, 2) := by decide +kernel
theorem dX9_init_211 : decode cX9_init 211 = .ok (.putfield 66, 3) := by decide +kernel
theorem dX9_init_214 : decode cX9_init 214 = .ok (.aload_n 0, 1) := by decide +kernel
theorem dX9_init_215 : decode cX9_init 215 = .ok (.sipush 300, 3) := by decide +kernel
theorem dX9_init_218 : decode cX9_init 218 = .ok (.newarray .int, 2) := by decide +kernel
theorem dX9_init_220 : decode cX9_init 220 = .ok (.putfield 69, 3) := by decide +kernel
theorem dX9_init_223 : decode cX9_init 223 = .ok (.aload_n 0, 1) := by decide +kernel
theorem dX9_init_224 : decode cX9_init 224 = .ok (.sipush 300, 3) := by decide +kernel
theorem dX9_init_227 : decode cX9_init 227 = .ok (.newarray .int, 2) := by decide +kernel
theorem dX9_init_229 : decode cX9_init 229 = .ok (.putfield 72, 3) := by decide +kernel
theorem dX9_init_232 : decode cX9_init 232 = .ok (.iconst 0, 1) := by decide +kernel
theorem dX9_init_233 : decode cX9_init 233 = .ok (.istore_n 1, 1) := by decide +kernel
theorem dX9_init_234 : decode cX9_init 234 = .ok (.iload_n 1, 1) := by decide +kernel
theorem dX9_init_235 : decode cX9_init 235 = .ok (.bipush 30, 2) := by decide +kernel
theorem dX9_init_237 : decode cX9_init 237 = .ok (.if_icmp .ge 17, 3) := by decide +kernel
theorem dX9_init_240 : decode cX9_init 240 = .ok (.aload_n 0, 1) := by decide +kernel
theorem dX9_init_241 : decode cX9_init 241 = .ok (.getfield 16, 3) := by decide +kernel
theorem dX9_init_244 : decode cX9_init 244 = .ok (.iload_n 1, 1) := by decide +kernel
theorem dX9_init_245 : decode cX9_init 245 = .ok (.ldc 75, 2) := by decide +kernel
theorem dX9_init_247 : decode cX9_init 247 = .ok (.iastore, 1) := by decide +kernel
theorem dX9_init_248 : decode cX9_init 248 = .ok (.iinc 1 1, 3) := by decide +kernel
theorem dX9_init_251 : decode cX9_init 251 = .ok (.goto (-17), 3) := by decide +kernel
theorem dX9_init_254 : decode cX9_init 254 = .ok (.iconst 0, 1) := by decide +kernel
theorem dX9_init_255 : decode cX9_init 255 = .ok (.istore_n 1, 1) := by decide +kernel
theorem dX9_init_256 : decode cX9_init 256 = .ok (.iload_n 1, 1) := by decide +kernel
theorem dX9_init_257 : decode cX9_init 257 = .ok (.iconst 4, 1) := by decide +kernel
theorem dX9_init_258 : decode cX9_init 258 = .ok (.if_icmp .ge 14, 3) := by decide +kernel
theorem dX9_init_261 : decode cX9_init 261 = .ok (.aload_n 0, 1) := by decide +kernel
theorem dX9_init_262 : decode cX9_init 262 = .ok (.iload_n 1, 1) := by decide +kernel
theorem dX9_init_263 : decode cX9_init 263 = .ok (.invokevirtual 76, 3) := by decide +kernel
theorem dX9_init_266 : decode cX9_init 266 = .ok (.iinc 1 1, 3) := by decide +kernel
theorem dX9_init_269 : decode cX9_init 269 = .ok (.goto (-13), 3) := by decide +kernel
theorem dX9_init_272 : decode cX9_init 272 = .ok (.return_, 1) := by decide +kernel
theorem dX9_in_0 : decode cX9_in 0 = .ok (.iload_n 0, 1) := by decide +kernel
theorem dX9_in_1 : decode cX9_in 1 = .ok (.iload_n 1, 1) := by decide +kernel
theorem dX9_in_2 : decode cX9_in 2 = .ok (.if_icmp .lt 12, 3) := by decide +kernel
theorem dX9_in_5 : decode cX9_in 5 = .ok (.iload_n 0, 1) := by decide +kernel
theorem dX9_in_6 : decode cX9_in 6 = .ok (.iload_n 2, 1) := by decide +kernel
theorem dX9_in_7 : decode cX9_in 7 = .ok (.if_icmp .gt 7, 3) := by decide +kernel
theorem dX9_in_10 : decode cX9_in 10 = .ok (.iconst 1, 1) := by decide +kernel
theorem dX9_in_11 : decode cX9_in 11 = .ok (.goto 4, 3) := by decide +kernel
theorem dX9_in_14 : decode cX9_in 14 = .ok (.iconst 0, 1) := by decide +kernel
theorem dX9_in_15 : decode cX9_in 15 = .ok (.ireturn, 1) := by decide +kernel
theorem dX9_isOne_0 : decode cX9_isOne 0 = .ok (.iload_n 0, 1) := by decide +kernel
theorem dX9_isOne_1 : decode cX9_isOne 1 = .ok (.iconst 0, 1) := by decide +kernel
theorem dX9_isOne_2 : decode cX9_isOne 2 = .ok (.bipush 9, 2) := by decide +kernel
theorem dX9_isOne_4 : decode cX9_isOne 4 = .ok (.invokestatic 80, 3) := by decide +kernel
theorem dX9_isOne_7 : decode cX9_isOne 7 = .ok (.ireturn, 1) := by decide +kernel
theorem dX9_isHeap_0 : decode cX9_isHeap 0 = .ok (.iload_n 0, 1) := by decide +kernel
theorem dX9_isHeap_1 : decode cX9_isHeap 1 = .ok (.iconst 0, 1) := by decide +kernel
theorem dX9_isHeap_2 : decode cX9_isHeap 2 = .ok (.iconst 1, 1) := by decide +kernel
theorem dX9_isHeap_3 : decode cX9_isHeap 3 = .ok (.invokestatic 80, 3) := by decide +kernel
theorem dX9_isHeap_6 : decode cX9_isHeap 6 = .ok (.ireturn, 1) := by decide +kernel
theorem dX9_isJudge_0 : decode cX9_isJudge 0 = .ok (.iload_n 0, 1) := by decide +kernel
theorem dX9_isJudge_1 : decode cX9_isJudge 1 = .ok (.iconst 0, 1) := by decide +kernel
theorem dX9_isJudge_2 : decode cX9_isJudge 2 = .ok (.iconst 3, 1) := by decide +kernel
theorem dX9_isJudge_3 : decode cX9_isJudge 3 = .ok (.invokestatic 80, 3) := by decide +kernel
theorem dX9_isJudge_6 : decode cX9_isJudge 6 = .ok (.ireturn, 1) := by decide +kernel
theorem dX9_forgets_0 : decode cX9_forgets 0 = .ok (.iconst 0, 1) := by decide +kernel
theorem dX9_forgets_1 : decode cX9_forgets 1 = .ok (.istore_n 2, 1) := by decide +kernel
theorem dX9_forgets_2 : decode cX9_forgets 2 = .ok (.iload_n 2, 1) := by decide +kernel
theorem dX9_forgets_3 : decode cX9_forgets 3 = .ok (.sipush 10000, 3) := by decide +kernel
theorem dX9_forgets_6 : decode cX9_forgets 6 = .ok (.if_icmp .ge 23, 3) := by decide +kernel
theorem dX9_forgets_9 : decode cX9_forgets 9 = .ok (.aload_n 0, 1) := by decide +kernel
theorem dX9_forgets_10 : decode cX9_forgets 10 = .ok (.getfield 50, 3) := by decide +kernel
theorem dX9_forgets_13 : decode cX9_forgets 13 = .ok (.sipush 10000, 3) := by decide +kernel
theorem dX9_forgets_16 : decode cX9_forgets 16 = .ok (.iload_n 1, 1) := by decide +kernel
theorem dX9_forgets_17 : decode cX9_forgets 17 = .ok (.imul, 1) := by decide +kernel
theorem dX9_forgets_18 : decode cX9_forgets 18 = .ok (.iload_n 2, 1) := by decide +kernel
theorem dX9_forgets_19 : decode cX9_forgets 19 = .ok (.iadd, 1) := by decide +kernel
theorem dX9_forgets_20 : decode cX9_forgets 20 = .ok (.ldc 75, 2) := by decide +kernel
theorem dX9_forgets_22 : decode cX9_forgets 22 = .ok (.iastore, 1) := by decide +kernel
theorem dX9_forgets_23 : decode cX9_forgets 23 = .ok (.iinc 2 1, 3) := by decide +kernel
theorem dX9_forgets_26 : decode cX9_forgets 26 = .ok (.goto (-24), 3) := by decide +kernel
theorem dX9_forgets_29 : decode cX9_forgets 29 = .ok (.return_, 1) := by decide +kernel
theorem dX9_changes_0 : decode cX9_changes 0 = .ok (.iconst 0, 1) := by decide +kernel
theorem dX9_changes_1 : decode cX9_changes 1 = .ok (.istore_n 1, 1) := by decide +kernel
theorem dX9_changes_2 : decode cX9_changes 2 = .ok (.iload_n 1, 1) := by decide +kernel
theorem dX9_changes_3 : decode cX9_changes 3 = .ok (.iconst 4, 1) := by decide +kernel
theorem dX9_changes_4 : decode cX9_changes 4 = .ok (.if_icmp .ge 49, 3) := by decide +kernel
theorem dX9_changes_7 : decode cX9_changes 7 = .ok (.aload_n 0, 1) := by decide +kernel
theorem dX9_changes_8 : decode cX9_changes 8 = .ok (.getfield 46, 3) := by decide +kernel
theorem dX9_changes_11 : decode cX9_changes 11 = .ok (.iload_n 1, 1) := by decide +kernel
theorem dX9_changes_12 : decode cX9_changes 12 = .ok (.iaload, 1) := by decide +kernel
theorem dX9_changes_13 : decode cX9_changes 13 = .ok (.ifCond .ne 11, 3) := by decide +kernel
theorem dX9_changes_16 : decode cX9_changes 16 = .ok (.aload_n 0, 1) := by decide +kernel
theorem dX9_changes_17 : decode cX9_changes 17 = .ok (.iload_n 1, 1) := by decide +kernel
theorem dX9_changes_18 : decode cX9_changes 18 = .ok (.invokevirtual 76, 3) := by decide +kernel
theorem dX9_changes_21 : decode cX9_changes 21 = .ok (.goto 26, 3) := by decide +kernel
theorem dX9_changes_24 : decode cX9_changes 24 = .ok (.aload_n 0, 1) := by decide +kernel
theorem dX9_changes_25 : decode cX9_changes 25 = .ok (.getfield 56, 3) := by decide +kernel
theorem dX9_changes_28 : decode cX9_changes 28 = .ok (.sipush 5030, 3) := by decide +kernel
theorem dX9_changes_31 : decode cX9_changes 31 = .ok (.iload_n 1, 1) := by decide +kernel
theorem dX9_changes_32 : decode cX9_changes 32 = .ok (.imul, 1) := by decide +kernel
theorem dX9_changes_33 : decode cX9_changes 33 = .ok (.aload_n 0, 1) := by decide +kernel
theorem dX9_changes_34 : decode cX9_changes 34 = .ok (.getfield 84, 3) := by decide +kernel
theorem dX9_changes_37 : decode cX9_changes 37 = .ok (.iadd, 1) := by decide +kernel
theorem dX9_changes_38 : decode cX9_changes 38 = .ok (.aload_n 0, 1) := by decide +kernel
theorem dX9_changes_39 : decode cX9_changes 39 = .ok (.getfield 46, 3) := by decide +kernel
theorem dX9_changes_42 : decode cX9_changes 42 = .ok (.iload_n 1, 1) := by decide +kernel
theorem dX9_changes_43 : decode cX9_changes 43 = .ok (.iaload, 1) := by decide +kernel
theorem dX9_changes_44 : decode cX9_changes 44 = .ok (.iadd, 1) := by decide +kernel
theorem dX9_changes_45 : decode cX9_changes 45 = .ok (.iconst 1, 1) := by decide +kernel
theorem dX9_changes_46 : decode cX9_changes 46 = .ok (.bastore, 1) := by decide +kernel
theorem dX9_changes_47 : decode cX9_changes 47 = .ok (.iinc 1 1, 3) := by decide +kernel
theorem dX9_changes_50 : decode cX9_changes 50 = .ok (.goto (-48), 3) := by decide +kernel
theorem dX9_changes_53 : decode cX9_changes 53 = .ok (.return_, 1) := by decide +kernel
theorem dX9_go_0 : decode cX9_go 0 = .ok (.iload_n 1, 1) := by decide +kernel
theorem dX9_go_1 : decode cX9_go 1 = .ok (.iconst 0, 1) := by decide +kernel
theorem dX9_go_2 : decode cX9_go 2 = .ok (.sipush 200, 3) := by decide +kernel
theorem dX9_go_5 : decode cX9_go 5 = .ok (.invokestatic 80, 3) := by decide +kernel
theorem dX9_go_8 : decode cX9_go 8 = .ok (.ifCond .ne 5, 3) := by decide +kernel
theorem dX9_go_11 : decode cX9_go 11 = .ok (.iconst (-1), 1) := by decide +kernel
theorem dX9_go_12 : decode cX9_go 12 = .ok (.ireturn, 1) := by decide +kernel
theorem dX9_go_13 : decode cX9_go 13 = .ok (.iconst 0, 1) := by decide +kernel
theorem dX9_go_14 : decode cX9_go 14 = .ok (.istore_n 2, 1) := by decide +kernel
theorem dX9_go_15 : decode cX9_go 15 = .ok (.iload_n 2, 1) := by decide +kernel
theorem dX9_go_16 : decode cX9_go 16 = .ok (.iload_n 1, 1) := by decide +kernel
theorem dX9_go_17 : decode cX9_go 17 = .ok (.if_icmp .ge 65, 3) := by decide +kernel
theorem dX9_go_20 : decode cX9_go 20 = .ok (.aload_n 0, 1) := by decide +kernel
theorem dX9_go_21 : decode cX9_go 21 = .ok (.getfield 84, 3) := by decide +kernel
theorem dX9_go_24 : decode cX9_go 24 = .ok (.sipush 5000, 3) := by decide +kernel
theorem dX9_go_27 : decode cX9_go 27 = .ok (.if_icmp .ge 55, 3) := by decide +kernel
theorem dX9_go_30 : decode cX9_go 30 = .ok (.aload_n 0, 1) := by decide +kernel
theorem dX9_go_31 : decode cX9_go 31 = .ok (.dup, 1) := by decide +kernel
theorem dX9_go_32 : decode cX9_go 32 = .ok (.getfield 84, 3) := by decide +kernel
theorem dX9_go_35 : decode cX9_go 35 = .ok (.iconst 1, 1) := by decide +kernel
theorem dX9_go_36 : decode cX9_go 36 = .ok (.iadd, 1) := by decide +kernel
theorem dX9_go_37 : decode cX9_go 37 = .ok (.putfield 84, 3) := by decide +kernel
theorem dX9_go_40 : decode cX9_go 40 = .ok (.iconst 0, 1) := by decide +kernel
theorem dX9_go_41 : decode cX9_go 41 = .ok (.istore_n 3, 1) := by decide +kernel
theorem dX9_go_42 : decode cX9_go 42 = .ok (.iload_n 3, 1) := by decide +kernel
theorem dX9_go_43 : decode cX9_go 43 = .ok (.iconst 4, 1) := by decide +kernel
theorem dX9_go_44 : decode cX9_go 44 = .ok (.if_icmp .ge 32, 3) := by decide +kernel
theorem dX9_go_47 : decode cX9_go 47 = .ok (.aload_n 0, 1) := by decide +kernel
theorem dX9_go_48 : decode cX9_go 48 = .ok (.getfield 56, 3) := by decide +kernel
theorem dX9_go_51 : decode cX9_go 51 = .ok (.sipush 5030, 3) := by decide +kernel
theorem dX9_go_54 : decode cX9_go 54 = .ok (.iload_n 3, 1) := by decide +kernel
theorem dX9_go_55 : decode cX9_go 55 = .ok (.imul, 1) := by decide +kernel
theorem dX9_go_56 : decode cX9_go 56 = .ok (.aload_n 0, 1) := by decide +kernel
theorem dX9_go_57 : decode cX9_go 57 = .ok (.getfield 84, 3) := by decide +kernel
theorem dX9_go_60 : decode cX9_go 60 = .ok (.iadd, 1) := by decide +kernel
theorem dX9_go_61 : decode cX9_go 61 = .ok (.baload, 1) := by decide +kernel
theorem dX9_go_62 : decode cX9_go 62 = .ok (.ifCond .eq 8, 3) := by decide +kernel
theorem dX9_go_65 : decode cX9_go 65 = .ok (.aload_n 0, 1) := by decide +kernel
theorem dX9_go_66 : decode cX9_go 66 = .ok (.iload_n 3, 1) := by decide +kernel
theorem dX9_go_67 : decode cX9_go 67 = .ok (.invokevirtual 76, 3) := by decide +kernel
theorem dX9_go_70 : decode cX9_go 70 = .ok (.iinc 3 1, 3) := by decide +kernel
theorem dX9_go_73 : decode cX9_go 73 = .ok (.goto (-31), 3) := by decide +kernel
theorem dX9_go_76 : decode cX9_go 76 = .ok (.iinc 2 1, 3) := by decide +kernel
theorem dX9_go_79 : decode cX9_go 79 = .ok (.goto (-64), 3) := by decide +kernel
theorem dX9_go_82 : decode cX9_go 82 = .ok (.aload_n 0, 1) := by decide +kernel
theorem dX9_go_83 : decode cX9_go 83 = .ok (.getfield 84, 3) := by decide +kernel
theorem dX9_go_86 : decode cX9_go 86 = .ok (.ireturn, 1) := by decide +kernel
theorem dX9_roles_0 : decode cX9_roles 0 = .ok (.iload_n 1, 1) := by decide +kernel
theorem dX9_roles_1 : decode cX9_roles 1 = .ok (.invokestatic 88, 3) := by decide +kernel
theorem dX9_roles_4 : decode cX9_roles 4 = .ok (.ifCond .eq 13, 3) := by decide +kernel
theorem dX9_roles_7 : decode cX9_roles 7 = .ok (.iload_n 2, 1) := by decide +kernel
theorem dX9_roles_8 : decode cX9_roles 8 = .ok (.iconst 0, 1) := by decide +kernel
theorem dX9_roles_9 : decode cX9_roles 9 = .ok (.bipush 15, 2) := by decide +kernel
theorem dX9_roles_11 : decode cX9_roles 11 = .ok (.invokestatic 80, 3) := by decide +kernel
theorem dX9_roles_14 : decode cX9_roles 14 = .ok (.ifCond .ne 5, 3) := by decide +kernel
theorem dX9_roles_17 : decode cX9_roles 17 = .ok (.iconst 0, 1) := by decide +kernel
theorem dX9_roles_18 : decode cX9_roles 18 = .ok (.ireturn, 1) := by decide +kernel
theorem dX9_roles_19 : decode cX9_roles 19 = .ok (.aload_n 0, 1) := by decide +kernel
theorem dX9_roles_20 : decode cX9_roles 20 = .ok (.getfield 9, 3) := by decide +kernel
theorem dX9_roles_23 : decode cX9_roles 23 = .ok (.iload_n 1, 1) := by decide +kernel
theorem dX9_roles_24 : decode cX9_roles 24 = .ok (.iload_n 2, 1) := by decide +kernel
theorem dX9_roles_25 : decode cX9_roles 25 = .ok (.iastore, 1) := by decide +kernel
theorem dX9_roles_26 : decode cX9_roles 26 = .ok (.aload_n 0, 1) := by decide +kernel
theorem dX9_roles_27 : decode cX9_roles 27 = .ok (.invokevirtual 92, 3) := by decide +kernel
theorem dX9_roles_30 : decode cX9_roles 30 = .ok (.iconst 1, 1) := by decide +kernel
theorem dX9_roles_31 : decode cX9_roles 31 = .ok (.ireturn, 1) := by decide +kernel
theorem dX9_mark_0 : decode cX9_mark 0 = .ok (.iload_n 1, 1) := by decide +kernel
theorem dX9_mark_1 : decode cX9_mark 1 = .ok (.invokestatic 88, 3) := by decide +kernel
theorem dX9_mark_4 : decode cX9_mark 4 = .ok (.ifCond .eq 21, 3) := by decide +kernel
theorem dX9_mark_7 : decode cX9_mark 7 = .ok (.iload_n 2, 1) := by decide +kernel
theorem dX9_mark_8 : decode cX9_mark 8 = .ok (.iconst 0, 1) := by decide +kernel
theorem dX9_mark_9 : decode cX9_mark 9 = .ok (.iconst 2, 1) := by decide +kernel
theorem dX9_mark_10 : decode cX9_mark 10 = .ok (.invokestatic 80, 3) := by decide +kernel
theorem dX9_mark_13 : decode cX9_mark 13 = .ok (.ifCond .eq 12, 3) := by decide +kernel
theorem dX9_mark_16 : decode cX9_mark 16 = .ok (.iload_n 3, 1) := by decide +kernel
theorem dX9_mark_17 : decode cX9_mark 17 = .ok (.iconst 0, 1) := by decide +kernel
theorem dX9_mark_18 : decode cX9_mark 18 = .ok (.iconst 3, 1) := by decide +kernel
theorem dX9_mark_19 : decode cX9_mark 19 = .ok (.invokestatic 80, 3) := by decide +kernel
theorem dX9_mark_22 : decode cX9_mark 22 = .ok (.ifCond .ne 5, 3) := by decide +kernel
theorem dX9_mark_25 : decode cX9_mark 25 = .ok (.iconst 0, 1) := by decide +kernel
theorem dX9_mark_26 : decode cX9_mark 26 = .ok (.ireturn, 1) := by decide +kernel
theorem dX9_mark_27 : decode cX9_mark 27 = .ok (.aload_n 0, 1) := by decide +kernel
theorem dX9_mark_28 : decode cX9_mark 28 = .ok (.getfield 13, 3) := by decide +kernel
theorem dX9_mark_31 : decode cX9_mark 31 = .ok (.bipush 10, 2) := by decide +kernel
theorem dX9_mark_33 : decode cX9_mark 33 = .ok (.iload_n 2, 1) := by decide +kernel
theorem dX9_mark_34 : decode cX9_mark 34 = .ok (.imul, 1) := by decide +kernel
theorem dX9_mark_35 : decode cX9_mark 35 = .ok (.iload_n 1, 1) := by decide +kernel
theorem dX9_mark_36 : decode cX9_mark 36 = .ok (.iadd, 1) := by decide +kernel
theorem dX9_mark_37 : decode cX9_mark 37 = .ok (.iload_n 3, 1) := by decide +kernel
theorem dX9_mark_38 : decode cX9_mark 38 = .ok (.iastore, 1) := by decide +kernel
theorem dX9_mark_39 : decode cX9_mark 39 = .ok (.aload_n 0, 1) := by decide +kernel
theorem dX9_mark_40 : decode cX9_mark 40 = .ok (.getfield 16, 3) := by decide +kernel
theorem dX9_mark_43 : decode cX9_mark 43 = .ok (.bipush 10, 2) := by decide +kernel
theorem dX9_mark_45 : decode cX9_mark 45 = .ok (.iload_n 2, 1) := by decide +kernel
theorem dX9_mark_46 : decode cX9_mark 46 = .ok (.imul, 1) := by decide +kernel
theorem dX9_mark_47 : decode cX9_mark 47 = .ok (.iload_n 1, 1) := by decide +kernel
theorem dX9_mark_48 : decode cX9_mark 48 = .ok (.iadd, 1) := by decide +kernel
theorem dX9_mark_49 : decode cX9_mark 49 = .ok (.aload_n 0, 1) := by decide +kernel
theorem dX9_mark_50 : decode cX9_mark 50 = .ok (.getfield 84, 3) := by decide +kernel
theorem dX9_mark_53 : decode cX9_mark 53 = .ok (.iastore, 1) := by decide +kernel
theorem dX9_mark_54 : decode cX9_mark 54 = .ok (.aload_n 0, 1) := by decide +kernel
theorem dX9_mark_55 : decode cX9_mark 55 = .ok (.invokevirtual 92, 3) := by decide +kernel
theorem dX9_mark_58 : decode cX9_mark 58 = .ok (.iconst 1, 1) := by decide +kernel
theorem dX9_mark_59 : decode cX9_mark 59 = .ok (.ireturn, 1) := by decide +kernel
theorem dX9_thing_0 : decode cX9_thing 0 = .ok (.iload_n 1, 1) := by decide +kernel
theorem dX9_thing_1 : decode cX9_thing 1 = .ok (.invokestatic 88, 3) := by decide +kernel
theorem dX9_thing_4 : decode cX9_thing 4 = .ok (.ifCond .eq 21, 3) := by decide +kernel
theorem dX9_thing_7 : decode cX9_thing 7 = .ok (.iload_n 2, 1) := by decide +kernel
theorem dX9_thing_8 : decode cX9_thing 8 = .ok (.iconst 0, 1) := by decide +kernel
theorem dX9_thing_9 : decode cX9_thing 9 = .ok (.iconst 3, 1) := by decide +kernel
theorem dX9_thing_10 : decode cX9_thing 10 = .ok (.invokestatic 80, 3) := by decide +kernel
theorem dX9_thing_13 : decode cX9_thing 13 = .ok (.ifCond .eq 12, 3) := by decide +kernel
theorem dX9_thing_16 : decode cX9_thing 16 = .ok (.iload_n 3, 1) := by decide +kernel
theorem dX9_thing_17 : decode cX9_thing 17 = .ok (.iconst 0, 1) := by decide +kernel
theorem dX9_thing_18 : decode cX9_thing 18 = .ok (.iconst 4, 1) := by decide +kernel
theorem dX9_thing_19 : decode cX9_thing 19 = .ok (.invokestatic 80, 3) := by decide +kernel
theorem dX9_thing_22 : decode cX9_thing 22 = .ok (.ifCond .ne 5, 3) := by decide +kernel
theorem dX9_thing_25 : decode cX9_thing 25 = .ok (.iconst 0, 1) := by decide +kernel
theorem dX9_thing_26 : decode cX9_thing 26 = .ok (.ireturn, 1) := by decide +kernel
theorem dX9_thing_27 : decode cX9_thing 27 = .ok (.aload_n 0, 1) := by decide +kernel
theorem dX9_thing_28 : decode cX9_thing 28 = .ok (.getfield 25, 3) := by decide +kernel
theorem dX9_thing_31 : decode cX9_thing 31 = .ok (.iload_n 1, 1) := by decide +kernel
theorem dX9_thing_32 : decode cX9_thing 32 = .ok (.iload_n 2, 1) := by decide +kernel
theorem dX9_thing_33 : decode cX9_thing 33 = .ok (.iastore, 1) := by decide +kernel
theorem dX9_thing_34 : decode cX9_thing 34 = .ok (.aload_n 0, 1) := by decide +kernel
theorem dX9_thing_35 : decode cX9_thing 35 = .ok (.getfield 28, 3) := by decide +kernel
theorem dX9_thing_38 : decode cX9_thing 38 = .ok (.iload_n 1, 1) := by decide +kernel
theorem dX9_thing_39 : decode cX9_thing 39 = .ok (.iload_n 3, 1) := by decide +kernel
theorem dX9_thing_40 : decode cX9_thing 40 = .ok (.iastore, 1) := by decide +kernel
theorem dX9_thing_41 : decode cX9_thing 41 = .ok (.aload_n 0, 1) := by decide +kernel
theorem dX9_thing_42 : decode cX9_thing 42 = .ok (.invokevirtual 92, 3) := by decide +kernel
theorem dX9_thing_45 : decode cX9_thing 45 = .ok (.iconst 1, 1) := by decide +kernel
theorem dX9_thing_46 : decode cX9_thing 46 = .ok (.ireturn, 1) := by decide +kernel
theorem dX9_sort_0 : decode cX9_sort 0 = .ok (.iload_n 1, 1) := by decide +kernel
theorem dX9_sort_1 : decode cX9_sort 1 = .ok (.iconst 0, 1) := by decide +kernel
theorem dX9_sort_2 : decode cX9_sort 2 = .ok (.iconst 2, 1) := by decide +kernel
theorem dX9_sort_3 : decode cX9_sort 3 = .ok (.invokestatic 80, 3) := by decide +kernel
theorem dX9_sort_6 : decode cX9_sort 6 = .ok (.ifCond .eq 24, 3) := by decide +kernel
theorem dX9_sort_9 : decode cX9_sort 9 = .ok (.iload_n 2, 1) := by decide +kernel
theorem dX9_sort_10 : decode cX9_sort 10 = .ok (.iconst 0, 1) := by decide +kernel
theorem dX9_sort_11 : decode cX9_sort 11 = .ok (.sipush 500, 3) := by decide +kernel
theorem dX9_sort_14 : decode cX9_sort 14 = .ok (.invokestatic 80, 3) := by decide +kernel
theorem dX9_sort_17 : decode cX9_sort 17 = .ok (.ifCond .eq 13, 3) := by decide +kernel
theorem dX9_sort_20 : decode cX9_sort 20 = .ok (.iload_n 3, 1) := by decide +kernel
theorem dX9_sort_21 : decode cX9_sort 21 = .ok (.iconst 0, 1) := by decide +kernel
theorem dX9_sort_22 : decode cX9_sort 22 = .ok (.bipush 9, 2) := by decide +kernel
theorem dX9_sort_24 : decode cX9_sort 24 = .ok (.invokestatic 80, 3) := by decide +kernel
theorem dX9_sort_27 : decode cX9_sort 27 = .ok (.ifCond .ne 5, 3) := by decide +kernel
theorem dX9_sort_30 : decode cX9_sort 30 = .ok (.iconst 0, 1) := by decide +kernel
theorem dX9_sort_31 : decode cX9_sort 31 = .ok (.ireturn, 1) := by decide +kernel
theorem dX9_sort_32 : decode cX9_sort 32 = .ok (.aload_n 0, 1) := by decide +kernel
theorem dX9_sort_33 : decode cX9_sort 33 = .ok (.getfield 19, 3) := by decide +kernel
theorem dX9_sort_36 : decode cX9_sort 36 = .ok (.iload_n 1, 1) := by decide +kernel
theorem dX9_sort_37 : decode cX9_sort 37 = .ok (.iload_n 2, 1) := by decide +kernel
theorem dX9_sort_38 : decode cX9_sort 38 = .ok (.iastore, 1) := by decide +kernel
theorem dX9_sort_39 : decode cX9_sort 39 = .ok (.aload_n 0, 1) := by decide +kernel
theorem dX9_sort_40 : decode cX9_sort 40 = .ok (.getfield 22, 3) := by decide +kernel
theorem dX9_sort_43 : decode cX9_sort 43 = .ok (.iload_n 1, 1) := by decide +kernel
theorem dX9_sort_44 : decode cX9_sort 44 = .ok (.iload_n 3, 1) := by decide +kernel
theorem dX9_sort_45 : decode cX9_sort 45 = .ok (.iastore, 1) := by decide +kernel
theorem dX9_sort_46 : decode cX9_sort 46 = .ok (.aload_n 0, 1) := by decide +kernel
theorem dX9_sort_47 : decode cX9_sort 47 = .ok (.invokevirtual 92, 3) := by decide +kernel
theorem dX9_sort_50 : decode cX9_sort 50 = .ok (.iconst 1, 1) := by decide +kernel
theorem dX9_sort_51 : decode cX9_sort 51 = .ok (.ireturn, 1) := by decide +kernel
theorem dX9_rule_0 : decode cX9_rule 0 = .ok (.iload_n 1, 1) := by decide +kernel
theorem dX9_rule_1 : decode cX9_rule 1 = .ok (.invokestatic 95, 3) := by decide +kernel
theorem dX9_rule_4 : decode cX9_rule 4 = .ok (.ifCond .eq 40, 3) := by decide +kernel
theorem dX9_rule_7 : decode cX9_rule 7 = .ok (.iload_n 2, 1) := by decide +kernel
theorem dX9_rule_8 : decode cX9_rule 8 = .ok (.ifCond .lt 36, 3) := by decide +kernel
theorem dX9_rule_11 : decode cX9_rule 11 = .ok (.iload_n 2, 1) := by decide +kernel
theorem dX9_rule_12 : decode cX9_rule 12 = .ok (.sipush 10000, 3) := by decide +kernel
theorem dX9_rule_15 : decode cX9_rule 15 = .ok (.idiv, 1) := by decide +kernel
theorem dX9_rule_16 : decode cX9_rule 16 = .ok (.bipush 15, 2) := by decide +kernel
theorem dX9_rule_18 : decode cX9_rule 18 = .ok (.if_icmp .gt 26, 3) := by decide +kernel
theorem dX9_rule_21 : decode cX9_rule 21 = .ok (.iload_n 2, 1) := by decide +kernel
theorem dX9_rule_22 : decode cX9_rule 22 = .ok (.sipush 1000, 3) := by decide +kernel
theorem dX9_rule_25 : decode cX9_rule 25 = .ok (.idiv, 1) := by decide +kernel
theorem dX9_rule_26 : decode cX9_rule 26 = .ok (.bipush 10, 2) := by decide +kernel
theorem dX9_rule_28 : decode cX9_rule 28 = .ok (.irem, 1) := by decide +kernel
theorem dX9_rule_29 : decode cX9_rule 29 = .ok (.iconst 3, 1) := by decide +kernel
theorem dX9_rule_30 : decode cX9_rule 30 = .ok (.if_icmp .gt 14, 3) := by decide +kernel
theorem dX9_rule_33 : decode cX9_rule 33 = .ok (.iload_n 2, 1) := by decide +kernel
theorem dX9_rule_34 : decode cX9_rule 34 = .ok (.bipush 100, 2) := by decide +kernel
theorem dX9_rule_36 : decode cX9_rule 36 = .ok (.idiv, 1) := by decide +kernel
theorem dX9_rule_37 : decode cX9_rule 37 = .ok (.bipush 10, 2) := by decide +kernel
theorem dX9_rule_39 : decode cX9_rule 39 = .ok (.irem, 1) := by decide +kernel
theorem dX9_rule_40 : decode cX9_rule 40 = .ok (.iconst 3, 1) := by decide +kernel
theorem dX9_rule_41 : decode cX9_rule 41 = .ok (.if_icmp .le 5, 3) := by decide +kernel
theorem dX9_rule_44 : decode cX9_rule 44 = .ok (.iconst (-1), 1) := by decide +kernel
theorem dX9_rule_45 : decode cX9_rule 45 = .ok (.ireturn, 1) := by decide +kernel
theorem dX9_rule_46 : decode cX9_rule 46 = .ok (.iload_n 3, 1) := by decide +kernel
theorem dX9_rule_47 : decode cX9_rule 47 = .ok (.ifCond .lt 47, 3) := by decide +kernel
theorem dX9_rule_50 : decode cX9_rule 50 = .ok (.iload_n 3, 1) := by decide +kernel
theorem dX9_rule_51 : decode cX9_rule 51 = .ok (.sipush 10000, 3) := by decide +kernel
theorem dX9_rule_54 : decode cX9_rule 54 = .ok (.idiv, 1) := by decide +kernel
theorem dX9_rule_55 : decode cX9_rule 55 = .ok (.bipush 15, 2) := by decide +kernel
theorem dX9_rule_57 : decode cX9_rule 57 = .ok (.if_icmp .gt 37, 3) := by decide +kernel
theorem dX9_rule_60 : decode cX9_rule 60 = .ok (.iload_n 3, 1) := by decide +kernel
theorem dX9_rule_61 : decode cX9_rule 61 = .ok (.bipush 100, 2) := by decide +kernel
theorem dX9_rule_63 : decode cX9_rule 63 = .ok (.idiv, 1) := by decide +kernel
theorem dX9_rule_64 : decode cX9_rule 64 = .ok (.bipush 100, 2) := by decide +kernel
theorem dX9_rule_66 : decode cX9_rule 66 = .ok (.irem, 1) := by decide +kernel
theorem dX9_rule_67 : decode cX9_rule 67 = .ok (.bipush 15, 2) := by decide +kernel
theorem dX9_rule_69 : decode cX9_rule 69 = .ok (.if_icmp .gt 25, 3) := by decide +kernel
theorem dX9_rule_72 : decode cX9_rule 72 = .ok (.iload_n 3, 1) := by decide +kernel
theorem dX9_rule_73 : decode cX9_rule 73 = .ok (.bipush 10, 2) := by decide +kernel
theorem dX9_rule_75 : decode cX9_rule 75 = .ok (.irem, 1) := by decide +kernel
theorem dX9_rule_76 : decode cX9_rule 76 = .ok (.iconst 4, 1) := by decide +kernel
theorem dX9_rule_77 : decode cX9_rule 77 = .ok (.if_icmp .gt 17, 3) := by decide +kernel
theorem dX9_rule_80 : decode cX9_rule 80 = .ok (.iload_n 3, 1) := by decide +kernel
theorem dX9_rule_81 : decode cX9_rule 81 = .ok (.bipush 10, 2) := by decide +kernel
theorem dX9_rule_83 : decode cX9_rule 83 = .ok (.idiv, 1) := by decide +kernel
theorem dX9_rule_84 : decode cX9_rule 84 = .ok (.bipush 10, 2) := by decide +kernel
theorem dX9_rule_86 : decode cX9_rule 86 = .ok (.irem, 1) := by decide +kernel
theorem dX9_rule_87 : decode cX9_rule 87 = .ok (.iload_n 3, 1) := by decide +kernel
theorem dX9_rule_88 : decode cX9_rule 88 = .ok (.bipush 10, 2) := by decide +kernel
theorem dX9_rule_90 : decode cX9_rule 90 = .ok (.irem, 1) := by decide +kernel
theorem dX9_rule_91 : decode cX9_rule 91 = .ok (.if_icmp .le 5, 3) := by decide +kernel
theorem dX9_rule_94 : decode cX9_rule 94 = .ok (.iconst (-1), 1) := by decide +kernel
theorem dX9_rule_95 : decode cX9_rule 95 = .ok (.ireturn, 1) := by decide +kernel
theorem dX9_rule_96 : decode cX9_rule 96 = .ok (.iload 4, 2) := by decide +kernel
theorem dX9_rule_98 : decode cX9_rule 98 = .ok (.ifCond .eq 9, 3) := by decide +kernel
theorem dX9_rule_101 : decode cX9_rule 101 = .ok (.iload 4, 2) := by decide +kernel
theorem dX9_rule_103 : decode cX9_rule 103 = .ok (.iconst 2, 1) := by decide +kernel
theorem dX9_rule_104 : decode cX9_rule 104 = .ok (.if_icmp .ne 14, 3) := by decide +kernel
theorem dX9_rule_107 : decode cX9_rule 107 = .ok (.aload_n 0, 1) := by decide +kernel
theorem dX9_rule_108 : decode cX9_rule 108 = .ok (.getfield 31, 3) := by decide +kernel
theorem dX9_rule_111 : decode cX9_rule 111 = .ok (.iload_n 1, 1) := by decide +kernel
theorem dX9_rule_112 : decode cX9_rule 112 = .ok (.iaload, 1) := by decide +kernel
theorem dX9_rule_113 : decode cX9_rule 113 = .ok (.bipush 12, 2) := by decide +kernel
theorem dX9_rule_115 : decode cX9_rule 115 = .ok (.if_icmp .ne 5, 3) := by decide +kernel
theorem dX9_rule_118 : decode cX9_rule 118 = .ok (.iconst (-1), 1) := by decide +kernel
theorem dX9_rule_119 : decode cX9_rule 119 = .ok (.ireturn, 1) := by decide +kernel
theorem dX9_rule_120 : decode cX9_rule 120 = .ok (.bipush 12, 2) := by decide +kernel
theorem dX9_rule_122 : decode cX9_rule 122 = .ok (.iload_n 1, 1) := by decide +kernel
theorem dX9_rule_123 : decode cX9_rule 123 = .ok (.imul, 1) := by decide +kernel
theorem dX9_rule_124 : decode cX9_rule 124 = .ok (.aload_n 0, 1) := by decide +kernel
theorem dX9_rule_125 : decode cX9_rule 125 = .ok (.getfield 31, 3) := by decide +kernel
theorem dX9_rule_128 : decode cX9_rule 128 = .ok (.iload_n 1, 1) := by decide +kernel
theorem dX9_rule_129 : decode cX9_rule 129 = .ok (.iaload, 1) := by decide +kernel
theorem dX9_rule_130 : decode cX9_rule 130 = .ok (.iadd, 1) := by decide +kernel
theorem dX9_rule_131 : decode cX9_rule 131 = .ok (.istore 5, 2) := by decide +kernel
theorem dX9_rule_133 : decode cX9_rule 133 = .ok (.aload_n 0, 1) := by decide +kernel
theorem dX9_rule_134 : decode cX9_rule 134 = .ok (.getfield 34, 3) := by decide +kernel
theorem dX9_rule_137 : decode cX9_rule 137 = .ok (.iload 5, 2) := by decide +kernel
theorem dX9_rule_139 : decode cX9_rule 139 = .ok (.iload_n 2, 1) := by decide +kernel
theorem dX9_rule_140 : decode cX9_rule 140 = .ok (.iastore, 1) := by decide +kernel
theorem dX9_rule_141 : decode cX9_rule 141 = .ok (.aload_n 0, 1) := by decide +kernel
theorem dX9_rule_142 : decode cX9_rule 142 = .ok (.getfield 37, 3) := by decide +kernel
theorem dX9_rule_145 : decode cX9_rule 145 = .ok (.iload 5, 2) := by decide +kernel
theorem dX9_rule_147 : decode cX9_rule 147 = .ok (.iload_n 3, 1) := by decide +kernel
theorem dX9_rule_148 : decode cX9_rule 148 = .ok (.iastore, 1) := by decide +kernel
theorem dX9_rule_149 : decode cX9_rule 149 = .ok (.aload_n 0, 1) := by decide +kernel
theorem dX9_rule_150 : decode cX9_rule 150 = .ok (.getfield 40, 3) := by decide +kernel
theorem dX9_rule_153 : decode cX9_rule 153 = .ok (.iload 5, 2) := by decide +kernel
theorem dX9_rule_155 : decode cX9_rule 155 = .ok (.iload 4, 2) := by decide +kernel
theorem dX9_rule_157 : decode cX9_rule 157 = .ok (.iastore, 1) := by decide +kernel
theorem dX9_rule_158 : decode cX9_rule 158 = .ok (.aload_n 0, 1) := by decide +kernel
theorem dX9_rule_159 : decode cX9_rule 159 = .ok (.getfield 31, 3) := by decide +kernel
theorem dX9_rule_162 : decode cX9_rule 162 = .ok (.iload_n 1, 1) := by decide +kernel
theorem dX9_rule_163 : decode cX9_rule 163 = .ok (.dup2, 1) := by decide +kernel
theorem dX9_rule_164 : decode cX9_rule 164 = .ok (.iaload, 1) := by decide +kernel
theorem dX9_rule_165 : decode cX9_rule 165 = .ok (.iconst 1, 1) := by decide +kernel
theorem dX9_rule_166 : decode cX9_rule 166 = .ok (.iadd, 1) := by decide +kernel
theorem dX9_rule_167 : decode cX9_rule 167 = .ok (.iastore, 1) := by decide +kernel
theorem dX9_rule_168 : decode cX9_rule 168 = .ok (.aload_n 0, 1) := by decide +kernel
theorem dX9_rule_169 : decode cX9_rule 169 = .ok (.invokevirtual 92, 3) := by decide +kernel
theorem dX9_rule_172 : decode cX9_rule 172 = .ok (.aload_n 0, 1) := by decide +kernel
theorem dX9_rule_173 : decode cX9_rule 173 = .ok (.getfield 31, 3) := by decide +kernel
theorem dX9_rule_176 : decode cX9_rule 176 = .ok (.iload_n 1, 1) := by decide +kernel
theorem dX9_rule_177 : decode cX9_rule 177 = .ok (.iaload, 1) := by decide +kernel
theorem dX9_rule_178 : decode cX9_rule 178 = .ok (.ireturn, 1) := by decide +kernel
theorem dX9_unrule_0 : decode cX9_unrule 0 = .ok (.iload_n 1, 1) := by decide +kernel
theorem dX9_unrule_1 : decode cX9_unrule 1 = .ok (.invokestatic 95, 3) := by decide +kernel
theorem dX9_unrule_4 : decode cX9_unrule 4 = .ok (.ifCond .eq 19, 3) := by decide +kernel
theorem dX9_unrule_7 : decode cX9_unrule 7 = .ok (.iload_n 2, 1) := by decide +kernel
theorem dX9_unrule_8 : decode cX9_unrule 8 = .ok (.iconst 0, 1) := by decide +kernel
theorem dX9_unrule_9 : decode cX9_unrule 9 = .ok (.aload_n 0, 1) := by decide +kernel
theorem dX9_unrule_10 : decode cX9_unrule 10 = .ok (.getfield 31, 3) := by decide +kernel
theorem dX9_unrule_13 : decode cX9_unrule 13 = .ok (.iload_n 1, 1) := by decide +kernel
theorem dX9_unrule_14 : decode cX9_unrule 14 = .ok (.iaload, 1) := by decide +kernel
theorem dX9_unrule_15 : decode cX9_unrule 15 = .ok (.iconst 1, 1) := by decide +kernel
theorem dX9_unrule_16 : decode cX9_unrule 16 = .ok (.isub, 1) := by decide +kernel
theorem dX9_unrule_17 : decode cX9_unrule 17 = .ok (.invokestatic 80, 3) := by decide +kernel
theorem dX9_unrule_20 : decode cX9_unrule 20 = .ok (.ifCond .ne 5, 3) := by decide +kernel
theorem dX9_unrule_23 : decode cX9_unrule 23 = .ok (.iconst 0, 1) := by decide +kernel
theorem dX9_unrule_24 : decode cX9_unrule 24 = .ok (.ireturn, 1) := by decide +kernel
theorem dX9_unrule_25 : decode cX9_unrule 25 = .ok (.iload_n 2, 1) := by decide +kernel
theorem dX9_unrule_26 : decode cX9_unrule 26 = .ok (.istore_n 3, 1) := by decide +kernel
theorem dX9_unrule_27 : decode cX9_unrule 27 = .ok (.iload_n 3, 1) := by decide +kernel
theorem dX9_unrule_28 : decode cX9_unrule 28 = .ok (.iconst 1, 1) := by decide +kernel
theorem dX9_unrule_29 : decode cX9_unrule 29 = .ok (.iadd, 1) := by decide +kernel
theorem dX9_unrule_30 : decode cX9_unrule 30 = .ok (.aload_n 0, 1) := by decide +kernel
theorem dX9_unrule_31 : decode cX9_unrule 31 = .ok (.getfield 31, 3) := by decide +kernel
theorem dX9_unrule_34 : decode cX9_unrule 34 = .ok (.iload_n 1, 1) := by decide +kernel
theorem dX9_unrule_35 : decode cX9_unrule 35 = .ok (.iaload, 1) := by decide +kernel
theorem dX9_unrule_36 : decode cX9_unrule 36 = .ok (.if_icmp .ge 65, 3) := by decide +kernel
theorem dX9_unrule_39 : decode cX9_unrule 39 = .ok (.bipush 12, 2) := by decide +kernel
theorem dX9_unrule_41 : decode cX9_unrule 41 = .ok (.iload_n 1, 1) := by decide +kernel
theorem dX9_unrule_42 : decode cX9_unrule 42 = .ok (.imul, 1) := by decide +kernel
theorem dX9_unrule_43 : decode cX9_unrule 43 = .ok (.iload_n 3, 1) := by decide +kernel
theorem dX9_unrule_44 : decode cX9_unrule 44 = .ok (.iadd, 1) := by decide +kernel
theorem dX9_unrule_45 : decode cX9_unrule 45 = .ok (.istore 4, 2) := by decide +kernel
theorem dX9_unrule_47 : decode cX9_unrule 47 = .ok (.aload_n 0, 1) := by decide +kernel
theorem dX9_unrule_48 : decode cX9_unrule 48 = .ok (.getfield 34, 3) := by decide +kernel
theorem dX9_unrule_51 : decode cX9_unrule 51 = .ok (.iload 4, 2) := by decide +kernel
theorem dX9_unrule_53 : decode cX9_unrule 53 = .ok (.aload_n 0, 1) := by decide +kernel
theorem dX9_unrule_54 : decode cX9_unrule 54 = .ok (.getfield 34, 3) := by decide +kernel
theorem dX9_unrule_57 : decode cX9_unrule 57 = .ok (.iload 4, 2) := by decide +kernel
theorem dX9_unrule_59 : decode cX9_unrule 59 = .ok (.iconst 1, 1) := by decide +kernel
theorem dX9_unrule_60 : decode cX9_unrule 60 = .ok (.iadd, 1) := by decide +kernel
theorem dX9_unrule_61 : decode cX9_unrule 61 = .ok (.iaload, 1) := by decide +kernel
theorem dX9_unrule_62 : decode cX9_unrule 62 = .ok (.iastore, 1) := by decide +kernel
theorem dX9_unrule_63 : decode cX9_unrule 63 = .ok (.aload_n 0, 1) := by decide +kernel
theorem dX9_unrule_64 : decode cX9_unrule 64 = .ok (.getfield 37, 3) := by decide +kernel
theorem dX9_unrule_67 : decode cX9_unrule 67 = .ok (.iload 4, 2) := by decide +kernel
theorem dX9_unrule_69 : decode cX9_unrule 69 = .ok (.aload_n 0, 1) := by decide +kernel
theorem dX9_unrule_70 : decode cX9_unrule 70 = .ok (.getfield 37, 3) := by decide +kernel
theorem dX9_unrule_73 : decode cX9_unrule 73 = .ok (.iload 4, 2) := by decide +kernel
theorem dX9_unrule_75 : decode cX9_unrule 75 = .ok (.iconst 1, 1) := by decide +kernel
theorem dX9_unrule_76 : decode cX9_unrule 76 = .ok (.iadd, 1) := by decide +kernel
theorem dX9_unrule_77 : decode cX9_unrule 77 = .ok (.iaload, 1) := by decide +kernel
theorem dX9_unrule_78 : decode cX9_unrule 78 = .ok (.iastore, 1) := by decide +kernel
theorem dX9_unrule_79 : decode cX9_unrule 79 = .ok (.aload_n 0, 1) := by decide +kernel
theorem dX9_unrule_80 : decode cX9_unrule 80 = .ok (.getfield 40, 3) := by decide +kernel
theorem dX9_unrule_83 : decode cX9_unrule 83 = .ok (.iload 4, 2) := by decide +kernel
theorem dX9_unrule_85 : decode cX9_unrule 85 = .ok (.aload_n 0, 1) := by decide +kernel
theorem dX9_unrule_86 : decode cX9_unrule 86 = .ok (.getfield 40, 3) := by decide +kernel
theorem dX9_unrule_89 : decode cX9_unrule 89 = .ok (.iload 4, 2) := by decide +kernel
theorem dX9_unrule_91 : decode cX9_unrule 91 = .ok (.iconst 1, 1) := by decide +kernel
theorem dX9_unrule_92 : decode cX9_unrule 92 = .ok (.iadd, 1) := by decide +kernel
theorem dX9_unrule_93 : decode cX9_unrule 93 = .ok (.iaload, 1) := by decide +kernel
theorem dX9_unrule_94 : decode cX9_unrule 94 = .ok (.iastore, 1) := by decide +kernel
theorem dX9_unrule_95 : decode cX9_unrule 95 = .ok (.iinc 3 1, 3) := by decide +kernel
theorem dX9_unrule_98 : decode cX9_unrule 98 = .ok (.goto (-71), 3) := by decide +kernel
theorem dX9_unrule_101 : decode cX9_unrule 101 = .ok (.aload_n 0, 1) := by decide +kernel
theorem dX9_unrule_102 : decode cX9_unrule 102 = .ok (.getfield 31, 3) := by decide +kernel
theorem dX9_unrule_105 : decode cX9_unrule 105 = .ok (.iload_n 1, 1) := by decide +kernel
theorem dX9_unrule_106 : decode cX9_unrule 106 = .ok (.dup2, 1) := by decide +kernel
theorem dX9_unrule_107 : decode cX9_unrule 107 = .ok (.iaload, 1) := by decide +kernel
theorem dX9_unrule_108 : decode cX9_unrule 108 = .ok (.iconst 1, 1) := by decide +kernel
theorem dX9_unrule_109 : decode cX9_unrule 109 = .ok (.isub, 1) := by decide +kernel
theorem dX9_unrule_110 : decode cX9_unrule 110 = .ok (.iastore, 1) := by decide +kernel
theorem dX9_unrule_111 : decode cX9_unrule 111 = .ok (.aload_n 0, 1) := by decide +kernel
theorem dX9_unrule_112 : decode cX9_unrule 112 = .ok (.invokevirtual 92, 3) := by decide +kernel
theorem dX9_unrule_115 : decode cX9_unrule 115 = .ok (.iconst 1, 1) := by decide +kernel
theorem dX9_unrule_116 : decode cX9_unrule 116 = .ok (.ireturn, 1) := by decide +kernel
theorem dX9_value_0 : decode cX9_value 0 = .ok (.bipush 10, 2) := by decide +kernel
theorem dX9_value_2 : decode cX9_value 2 = .ok (.iload_n 2, 1) := by decide +kernel
theorem dX9_value_3 : decode cX9_value 3 = .ok (.imul, 1) := by decide +kernel
theorem dX9_value_4 : decode cX9_value 4 = .ok (.iload_n 1, 1) := by decide +kernel
theorem dX9_value_5 : decode cX9_value 5 = .ok (.iadd, 1) := by decide +kernel
theorem dX9_value_6 : decode cX9_value 6 = .ok (.istore_n 3, 1) := by decide +kernel
theorem dX9_value_7 : decode cX9_value 7 = .ok (.aload_n 0, 1) := by decide +kernel
theorem dX9_value_8 : decode cX9_value 8 = .ok (.getfield 84, 3) := by decide +kernel
theorem dX9_value_11 : decode cX9_value 11 = .ok (.aload_n 0, 1) := by decide +kernel
theorem dX9_value_12 : decode cX9_value 12 = .ok (.getfield 16, 3) := by decide +kernel
theorem dX9_value_15 : decode cX9_value 15 = .ok (.iload_n 3, 1) := by decide +kernel
theorem dX9_value_16 : decode cX9_value 16 = .ok (.iaload, 1) := by decide +kernel
theorem dX9_value_17 : decode cX9_value 17 = .ok (.isub, 1) := by decide +kernel
theorem dX9_value_18 : decode cX9_value 18 = .ok (.aload_n 0, 1) := by decide +kernel
theorem dX9_value_19 : decode cX9_value 19 = .ok (.getfield 19, 3) := by decide +kernel
theorem dX9_value_22 : decode cX9_value 22 = .ok (.iload_n 2, 1) := by decide +kernel
theorem dX9_value_23 : decode cX9_value 23 = .ok (.iaload, 1) := by decide +kernel
theorem dX9_value_24 : decode cX9_value 24 = .ok (.if_icmp .gt 12, 3) := by decide +kernel
theorem dX9_value_27 : decode cX9_value 27 = .ok (.aload_n 0, 1) := by decide +kernel
theorem dX9_value_28 : decode cX9_value 28 = .ok (.getfield 13, 3) := by decide +kernel
theorem dX9_value_31 : decode cX9_value 31 = .ok (.iload_n 3, 1) := by decide +kernel
theorem dX9_value_32 : decode cX9_value 32 = .ok (.iaload, 1) := by decide +kernel
theorem dX9_value_33 : decode cX9_value 33 = .ok (.goto 4, 3) := by decide +kernel
theorem dX9_value_36 : decode cX9_value 36 = .ok (.iconst 0, 1) := by decide +kernel
theorem dX9_value_37 : decode cX9_value 37 = .ok (.ireturn, 1) := by decide +kernel
theorem dX9_isAsk_0 : decode cX9_isAsk 0 = .ok (.iload_n 0, 1) := by decide +kernel
theorem dX9_isAsk_1 : decode cX9_isAsk 1 = .ok (.iconst 0, 1) := by decide +kernel
theorem dX9_isAsk_2 : decode cX9_isAsk 2 = .ok (.sipush 9999, 3) := by decide +kernel
theorem dX9_isAsk_5 : decode cX9_isAsk 5 = .ok (.invokestatic 80, 3) := by decide +kernel
theorem dX9_isAsk_8 : decode cX9_isAsk 8 = .ok (.ifCond .eq 15, 3) := by decide +kernel
theorem dX9_isAsk_11 : decode cX9_isAsk 11 = .ok (.iload_n 0, 1) := by decide +kernel
theorem dX9_isAsk_12 : decode cX9_isAsk 12 = .ok (.bipush 10, 2) := by decide +kernel
theorem dX9_isAsk_14 : decode cX9_isAsk 14 = .ok (.irem, 1) := by decide +kernel
theorem dX9_isAsk_15 : decode cX9_isAsk 15 = .ok (.iconst 4, 1) := by decide +kernel
theorem dX9_isAsk_16 : decode cX9_isAsk 16 = .ok (.if_icmp .ge 7, 3) := by decide +kernel
theorem dX9_isAsk_19 : decode cX9_isAsk 19 = .ok (.iconst 1, 1) := by decide +kernel
theorem dX9_isAsk_20 : decode cX9_isAsk 20 = .ok (.goto 4, 3) := by decide +kernel
theorem dX9_isAsk_23 : decode cX9_isAsk 23 = .ok (.iconst 0, 1) := by decide +kernel
theorem dX9_isAsk_24 : decode cX9_isAsk 24 = .ok (.ireturn, 1) := by decide +kernel
theorem dX9_factsOf_0 : decode cX9_factsOf 0 = .ok (.iload_n 1, 1) := by decide +kernel
theorem dX9_factsOf_1 : decode cX9_factsOf 1 = .ok (.sipush 1000, 3) := by decide +kernel
theorem dX9_factsOf_4 : decode cX9_factsOf 4 = .ok (.idiv, 1) := by decide +kernel
theorem dX9_factsOf_5 : decode cX9_factsOf 5 = .ok (.istore_n 2, 1) := by decide +kernel
theorem dX9_factsOf_6 : decode cX9_factsOf 6 = .ok (.iload_n 1, 1) := by decide +kernel
theorem dX9_factsOf_7 : decode cX9_factsOf 7 = .ok (.bipush 100, 2) := by decide +kernel
theorem dX9_factsOf_9 : decode cX9_factsOf 9 = .ok (.idiv, 1) := by decide +kernel
theorem dX9_factsOf_10 : decode cX9_factsOf 10 = .ok (.bipush 10, 2) := by decide +kernel
theorem dX9_factsOf_12 : decode cX9_factsOf 12 = .ok (.irem, 1) := by decide +kernel
theorem dX9_factsOf_13 : decode cX9_factsOf 13 = .ok (.istore_n 3, 1) := by decide +kernel
theorem dX9_factsOf_14 : decode cX9_factsOf 14 = .ok (.iload_n 1, 1) := by decide +kernel
theorem dX9_factsOf_15 : decode cX9_factsOf 15 = .ok (.bipush 10, 2) := by decide +kernel
theorem dX9_factsOf_17 : decode cX9_factsOf 17 = .ok (.idiv, 1) := by decide +kernel
theorem dX9_factsOf_18 : decode cX9_factsOf 18 = .ok (.bipush 10, 2) := by decide +kernel
theorem dX9_factsOf_20 : decode cX9_factsOf 20 = .ok (.irem, 1) := by decide +kernel
theorem dX9_factsOf_21 : decode cX9_factsOf 21 = .ok (.istore 4, 2) := by decide +kernel
theorem dX9_factsOf_23 : decode cX9_factsOf 23 = .ok (.aload_n 0, 1) := by decide +kernel
theorem dX9_factsOf_24 : decode cX9_factsOf 24 = .ok (.getfield 9, 3) := by decide +kernel
theorem dX9_factsOf_27 : decode cX9_factsOf 27 = .ok (.iload_n 2, 1) := by decide +kernel
theorem dX9_factsOf_28 : decode cX9_factsOf 28 = .ok (.iaload, 1) := by decide +kernel
theorem dX9_factsOf_29 : decode cX9_factsOf 29 = .ok (.iconst 4, 1) := by decide +kernel
theorem dX9_factsOf_30 : decode cX9_factsOf 30 = .ok (.imul, 1) := by decide +kernel
theorem dX9_factsOf_31 : decode cX9_factsOf 31 = .ok (.aload_n 0, 1) := by decide +kernel
theorem dX9_factsOf_32 : decode cX9_factsOf 32 = .ok (.iload_n 3, 1) := by decide +kernel
theorem dX9_factsOf_33 : decode cX9_factsOf 33 = .ok (.iconst 0, 1) := by decide +kernel
theorem dX9_factsOf_34 : decode cX9_factsOf 34 = .ok (.invokevirtual 98, 3) := by decide +kernel
theorem dX9_factsOf_37 : decode cX9_factsOf 37 = .ok (.iadd, 1) := by decide +kernel
theorem dX9_factsOf_38 : decode cX9_factsOf 38 = .ok (.iconst 4, 1) := by decide +kernel
theorem dX9_factsOf_39 : decode cX9_factsOf 39 = .ok (.imul, 1) := by decide +kernel
theorem dX9_factsOf_40 : decode cX9_factsOf 40 = .ok (.aload_n 0, 1) := by decide +kernel
theorem dX9_factsOf_41 : decode cX9_factsOf 41 = .ok (.iload_n 3, 1) := by decide +kernel
theorem dX9_factsOf_42 : decode cX9_factsOf 42 = .ok (.iconst 1, 1) := by decide +kernel
theorem dX9_factsOf_43 : decode cX9_factsOf 43 = .ok (.invokevirtual 98, 3) := by decide +kernel
theorem dX9_factsOf_46 : decode cX9_factsOf 46 = .ok (.iadd, 1) := by decide +kernel
theorem dX9_factsOf_47 : decode cX9_factsOf 47 = .ok (.iconst 4, 1) := by decide +kernel
theorem dX9_factsOf_48 : decode cX9_factsOf 48 = .ok (.imul, 1) := by decide +kernel
theorem dX9_factsOf_49 : decode cX9_factsOf 49 = .ok (.aload_n 0, 1) := by decide +kernel
theorem dX9_factsOf_50 : decode cX9_factsOf 50 = .ok (.iload_n 2, 1) := by decide +kernel
theorem dX9_factsOf_51 : decode cX9_factsOf 51 = .ok (.iconst 2, 1) := by decide +kernel
theorem dX9_factsOf_52 : decode cX9_factsOf 52 = .ok (.invokevirtual 98, 3) := by decide +kernel
theorem dX9_factsOf_55 : decode cX9_factsOf 55 = .ok (.iadd, 1) := by decide +kernel
theorem dX9_factsOf_56 : decode cX9_factsOf 56 = .ok (.istore 5, 2) := by decide +kernel
theorem dX9_factsOf_58 : decode cX9_factsOf 58 = .ok (.iload 5, 2) := by decide +kernel
theorem dX9_factsOf_60 : decode cX9_factsOf 60 = .ok (.iconst 4, 1) := by decide +kernel
theorem dX9_factsOf_61 : decode cX9_factsOf 61 = .ok (.imul, 1) := by decide +kernel
theorem dX9_factsOf_62 : decode cX9_factsOf 62 = .ok (.iload_n 1, 1) := by decide +kernel
theorem dX9_factsOf_63 : decode cX9_factsOf 63 = .ok (.bipush 10, 2) := by decide +kernel
theorem dX9_factsOf_65 : decode cX9_factsOf 65 = .ok (.irem, 1) := by decide +kernel
theorem dX9_factsOf_66 : decode cX9_factsOf 66 = .ok (.iadd, 1) := by decide +kernel
theorem dX9_factsOf_67 : decode cX9_factsOf 67 = .ok (.iconst 4, 1) := by decide +kernel
theorem dX9_factsOf_68 : decode cX9_factsOf 68 = .ok (.imul, 1) := by decide +kernel
theorem dX9_factsOf_69 : decode cX9_factsOf 69 = .ok (.aload_n 0, 1) := by decide +kernel
theorem dX9_factsOf_70 : decode cX9_factsOf 70 = .ok (.getfield 25, 3) := by decide +kernel
theorem dX9_factsOf_73 : decode cX9_factsOf 73 = .ok (.iload 4, 2) := by decide +kernel
theorem dX9_factsOf_75 : decode cX9_factsOf 75 = .ok (.iaload, 1) := by decide +kernel
theorem dX9_factsOf_76 : decode cX9_factsOf 76 = .ok (.iadd, 1) := by decide +kernel
theorem dX9_factsOf_77 : decode cX9_factsOf 77 = .ok (.iconst 5, 1) := by decide +kernel
theorem dX9_factsOf_78 : decode cX9_factsOf 78 = .ok (.imul, 1) := by decide +kernel
theorem dX9_factsOf_79 : decode cX9_factsOf 79 = .ok (.aload_n 0, 1) := by decide +kernel
theorem dX9_factsOf_80 : decode cX9_factsOf 80 = .ok (.getfield 28, 3) := by decide +kernel
theorem dX9_factsOf_83 : decode cX9_factsOf 83 = .ok (.iload 4, 2) := by decide +kernel
theorem dX9_factsOf_85 : decode cX9_factsOf 85 = .ok (.iaload, 1) := by decide +kernel
theorem dX9_factsOf_86 : decode cX9_factsOf 86 = .ok (.iadd, 1) := by decide +kernel
theorem dX9_factsOf_87 : decode cX9_factsOf 87 = .ok (.ireturn, 1) := by decide +kernel
theorem dX9_rolesOf_0 : decode cX9_rolesOf 0 = .ok (.iload_n 0, 1) := by decide +kernel
theorem dX9_rolesOf_1 : decode cX9_rolesOf 1 = .ok (.sipush 5120, 3) := by decide +kernel
theorem dX9_rolesOf_4 : decode cX9_rolesOf 4 = .ok (.idiv, 1) := by decide +kernel
theorem dX9_rolesOf_5 : decode cX9_rolesOf 5 = .ok (.ireturn, 1) := by decide +kernel
theorem dX9_markOf_0 : decode cX9_markOf 0 = .ok (.iload_n 1, 1) := by decide +kernel
theorem dX9_markOf_1 : decode cX9_markOf 1 = .ok (.ifCond .ne 13, 3) := by decide +kernel
theorem dX9_markOf_4 : decode cX9_markOf 4 = .ok (.iload_n 0, 1) := by decide +kernel
theorem dX9_markOf_5 : decode cX9_markOf 5 = .ok (.sipush 1280, 3) := by decide +kernel
theorem dX9_markOf_8 : decode cX9_markOf 8 = .ok (.idiv, 1) := by decide +kernel
theorem dX9_markOf_9 : decode cX9_markOf 9 = .ok (.iconst 4, 1) := by decide +kernel
theorem dX9_markOf_10 : decode cX9_markOf 10 = .ok (.irem, 1) := by decide +kernel
theorem dX9_markOf_11 : decode cX9_markOf 11 = .ok (.goto 24, 3) := by decide +kernel
theorem dX9_markOf_14 : decode cX9_markOf 14 = .ok (.iload_n 1, 1) := by decide +kernel
theorem dX9_markOf_15 : decode cX9_markOf 15 = .ok (.iconst 1, 1) := by decide +kernel
theorem dX9_markOf_16 : decode cX9_markOf 16 = .ok (.if_icmp .ne 13, 3) := by decide +kernel
theorem dX9_markOf_19 : decode cX9_markOf 19 = .ok (.iload_n 0, 1) := by decide +kernel
theorem dX9_markOf_20 : decode cX9_markOf 20 = .ok (.sipush 320, 3) := by decide +kernel
theorem dX9_markOf_23 : decode cX9_markOf 23 = .ok (.idiv, 1) := by decide +kernel
theorem dX9_markOf_24 : decode cX9_markOf 24 = .ok (.iconst 4, 1) := by decide +kernel
theorem dX9_markOf_25 : decode cX9_markOf 25 = .ok (.irem, 1) := by decide +kernel
theorem dX9_markOf_26 : decode cX9_markOf 26 = .ok (.goto 9, 3) := by decide +kernel
theorem dX9_markOf_29 : decode cX9_markOf 29 = .ok (.iload_n 0, 1) := by decide +kernel
theorem dX9_markOf_30 : decode cX9_markOf 30 = .ok (.bipush 80, 2) := by decide +kernel
theorem dX9_markOf_32 : decode cX9_markOf 32 = .ok (.idiv, 1) := by decide +kernel
theorem dX9_markOf_33 : decode cX9_markOf 33 = .ok (.iconst 4, 1) := by decide +kernel
theorem dX9_markOf_34 : decode cX9_markOf 34 = .ok (.irem, 1) := by decide +kernel
theorem dX9_markOf_35 : decode cX9_markOf 35 = .ok (.ireturn, 1) := by decide +kernel
theorem dX9_sure_0 : decode cX9_sure 0 = .ok (.iload_n 1, 1) := by decide +kernel
theorem dX9_sure_1 : decode cX9_sure 1 = .ok (.iconst 0, 1) := by decide +kernel
theorem dX9_sure_2 : decode cX9_sure 2 = .ok (.invokestatic 102, 3) := by decide +kernel
theorem dX9_sure_5 : decode cX9_sure 5 = .ok (.aload_n 0, 1) := by decide +kernel
theorem dX9_sure_6 : decode cX9_sure 6 = .ok (.getfield 22, 3) := by decide +kernel
theorem dX9_sure_9 : decode cX9_sure 9 = .ok (.iconst 0, 1) := by decide +kernel
theorem dX9_sure_10 : decode cX9_sure 10 = .ok (.iaload, 1) := by decide +kernel
theorem dX9_sure_11 : decode cX9_sure 11 = .ok (.imul, 1) := by decide +kernel
theorem dX9_sure_12 : decode cX9_sure 12 = .ok (.iload_n 1, 1) := by decide +kernel
theorem dX9_sure_13 : decode cX9_sure 13 = .ok (.iconst 1, 1) := by decide +kernel
theorem dX9_sure_14 : decode cX9_sure 14 = .ok (.invokestatic 102, 3) := by decide +kernel
theorem dX9_sure_17 : decode cX9_sure 17 = .ok (.aload_n 0, 1) := by decide +kernel
theorem dX9_sure_18 : decode cX9_sure 18 = .ok (.getfield 22, 3) := by decide +kernel
theorem dX9_sure_21 : decode cX9_sure 21 = .ok (.iconst 1, 1) := by decide +kernel
theorem dX9_sure_22 : decode cX9_sure 22 = .ok (.iaload, 1) := by decide +kernel
theorem dX9_sure_23 : decode cX9_sure 23 = .ok (.imul, 1) := by decide +kernel
theorem dX9_sure_24 : decode cX9_sure 24 = .ok (.iadd, 1) := by decide +kernel
theorem dX9_sure_25 : decode cX9_sure 25 = .ok (.iload_n 1, 1) := by decide +kernel
theorem dX9_sure_26 : decode cX9_sure 26 = .ok (.iconst 2, 1) := by decide +kernel
theorem dX9_sure_27 : decode cX9_sure 27 = .ok (.invokestatic 102, 3) := by decide +kernel
theorem dX9_sure_30 : decode cX9_sure 30 = .ok (.aload_n 0, 1) := by decide +kernel
theorem dX9_sure_31 : decode cX9_sure 31 = .ok (.getfield 22, 3) := by decide +kernel
theorem dX9_sure_34 : decode cX9_sure 34 = .ok (.iconst 2, 1) := by decide +kernel
theorem dX9_sure_35 : decode cX9_sure 35 = .ok (.iaload, 1) := by decide +kernel
theorem dX9_sure_36 : decode cX9_sure 36 = .ok (.imul, 1) := by decide +kernel
theorem dX9_sure_37 : decode cX9_sure 37 = .ok (.iadd, 1) := by decide +kernel
theorem dX9_sure_38 : decode cX9_sure 38 = .ok (.ireturn, 1) := by decide +kernel
theorem dX9_fits_0 : decode cX9_fits 0 = .ok (.aload_n 0, 1) := by decide +kernel
theorem dX9_fits_1 : decode cX9_fits 1 = .ok (.getfield 34, 3) := by decide +kernel
theorem dX9_fits_4 : decode cX9_fits 4 = .ok (.iload_n 1, 1) := by decide +kernel
theorem dX9_fits_5 : decode cX9_fits 5 = .ok (.iaload, 1) := by decide +kernel
theorem dX9_fits_6 : decode cX9_fits 6 = .ok (.istore_n 3, 1) := by decide +kernel
theorem dX9_fits_7 : decode cX9_fits 7 = .ok (.aload_n 0, 1) := by decide +kernel
theorem dX9_fits_8 : decode cX9_fits 8 = .ok (.getfield 37, 3) := by decide +kernel
theorem dX9_fits_11 : decode cX9_fits 11 = .ok (.iload_n 1, 1) := by decide +kernel
theorem dX9_fits_12 : decode cX9_fits 12 = .ok (.iaload, 1) := by decide +kernel
theorem dX9_fits_13 : decode cX9_fits 13 = .ok (.istore 4, 2) := by decide +kernel
theorem dX9_fits_15 : decode cX9_fits 15 = .ok (.iload_n 3, 1) := by decide +kernel
theorem dX9_fits_16 : decode cX9_fits 16 = .ok (.sipush 10000, 3) := by decide +kernel
theorem dX9_fits_19 : decode cX9_fits 19 = .ok (.idiv, 1) := by decide +kernel
theorem dX9_fits_20 : decode cX9_fits 20 = .ok (.istore 5, 2) := by decide +kernel
theorem dX9_fits_22 : decode cX9_fits 22 = .ok (.iload_n 3, 1) := by decide +kernel
theorem dX9_fits_23 : decode cX9_fits 23 = .ok (.sipush 1000, 3) := by decide +kernel
theorem dX9_fits_26 : decode cX9_fits 26 = .ok (.idiv, 1) := by decide +kernel
theorem dX9_fits_27 : decode cX9_fits 27 = .ok (.bipush 10, 2) := by decide +kernel
theorem dX9_fits_29 : decode cX9_fits 29 = .ok (.irem, 1) := by decide +kernel
theorem dX9_fits_30 : decode cX9_fits 30 = .ok (.istore 6, 2) := by decide +kernel
theorem dX9_fits_32 : decode cX9_fits 32 = .ok (.iload_n 2, 1) := by decide +kernel
theorem dX9_fits_33 : decode cX9_fits 33 = .ok (.invokestatic 105, 3) := by decide +kernel
theorem dX9_fits_36 : decode cX9_fits 36 = .ok (.iload 5, 2) := by decide +kernel
theorem dX9_fits_38 : decode cX9_fits 38 = .ok (.iand, 1) := by decide +kernel
theorem dX9_fits_39 : decode cX9_fits 39 = .ok (.iload 5, 2) := by decide +kernel
theorem dX9_fits_41 : decode cX9_fits 41 = .ok (.if_icmp .ne 37, 3) := by decide +kernel
theorem dX9_fits_44 : decode cX9_fits 44 = .ok (.iload 6, 2) := by decide +kernel
theorem dX9_fits_46 : decode cX9_fits 46 = .ok (.iconst 3, 1) := by decide +kernel
theorem dX9_fits_47 : decode cX9_fits 47 = .ok (.if_icmp .ge 19, 3) := by decide +kernel
theorem dX9_fits_50 : decode cX9_fits 50 = .ok (.iload_n 2, 1) := by decide +kernel
theorem dX9_fits_51 : decode cX9_fits 51 = .ok (.iload 6, 2) := by decide +kernel
theorem dX9_fits_53 : decode cX9_fits 53 = .ok (.invokestatic 102, 3) := by decide +kernel
theorem dX9_fits_56 : decode cX9_fits 56 = .ok (.iload_n 3, 1) := by decide +kernel
theorem dX9_fits_57 : decode cX9_fits 57 = .ok (.bipush 100, 2) := by decide +kernel
theorem dX9_fits_59 : decode cX9_fits 59 = .ok (.idiv, 1) := by decide +kernel
theorem dX9_fits_60 : decode cX9_fits 60 = .ok (.bipush 10, 2) := by decide +kernel
theorem dX9_fits_62 : decode cX9_fits 62 = .ok (.irem, 1) := by decide +kernel
theorem dX9_fits_63 : decode cX9_fits 63 = .ok (.if_icmp .lt 15, 3) := by decide +kernel
theorem dX9_fits_66 : decode cX9_fits 66 = .ok (.aload_n 0, 1) := by decide +kernel
theorem dX9_fits_67 : decode cX9_fits 67 = .ok (.iload_n 2, 1) := by decide +kernel
