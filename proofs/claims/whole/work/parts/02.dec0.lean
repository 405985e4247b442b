theorem dX0_init_0 : decode cX0_init 0 = .ok (.aload_n 0, 1) := by decide +kernel
theorem dX0_init_1 : decode cX0_init 1 = .ok (.invokespecial 3, 3) := by decide +kernel
theorem dX0_init_4 : decode cX0_init 4 = .ok (.aload_n 0, 1) := by decide +kernel
theorem dX0_init_5 : decode cX0_init 5 = .ok (.iconst 5, 1) := by decide +kernel
theorem dX0_init_6 : decode cX0_init 6 = .ok (.sipush 300, 3) := by decide +kernel
theorem dX0_init_9 : decode cX0_init 9 = .ok (.multianewarray 11 2, 4) := by decide +kernel
theorem dX0_init_13 : decode cX0_init 13 = .ok (.putfield 13, 3) := by decide +kernel
theorem dX0_init_16 : decode cX0_init 16 = .ok (.return_, 1) := by decide +kernel
theorem dX0_isFull_0 : decode cX0_isFull 0 = .ok (.aload_n 0, 1) := by decide +kernel
theorem dX0_isFull_1 : decode cX0_isFull 1 = .ok (.getfield 16, 3) := by decide +kernel
theorem dX0_isFull_4 : decode cX0_isFull 4 = .ok (.sipush 300, 3) := by decide +kernel
theorem dX0_isFull_7 : decode cX0_isFull 7 = .ok (.if_icmp .lt 7, 3) := by decide +kernel
theorem dX0_isFull_10 : decode cX0_isFull 10 = .ok (.iconst 1, 1) := by decide +kernel
theorem dX0_isFull_11 : decode cX0_isFull 11 = .ok (.goto 4, 3) := by decide +kernel
theorem dX0_isFull_14 : decode cX0_isFull 14 = .ok (.iconst 0, 1) := by decide +kernel
theorem dX0_isFull_15 : decode cX0_isFull 15 = .ok (.ireturn, 1) := by decide +kernel
theorem dX0_write_0 : decode cX0_write 0 = .ok (.aload_n 0, 1) := by decide +kernel
theorem dX0_write_1 : decode cX0_write 1 = .ok (.invokevirtual 20, 3) := by decide +kernel
theorem dX0_write_4 : decode cX0_write 4 = .ok (.ifCond .eq 4, 3) := by decide +kernel
theorem dX0_write_7 : decode cX0_write 7 = .ok (.return_, 1) := by decide +kernel
theorem dX0_write_8 : decode cX0_write 8 = .ok (.aload_n 0, 1) := by decide +kernel
theorem dX0_write_9 : decode cX0_write 9 = .ok (.getfield 13, 3) := by decide +kernel
theorem dX0_write_12 : decode cX0_write 12 = .ok (.iconst 0, 1) := by decide +kernel
theorem dX0_write_13 : decode cX0_write 13 = .ok (.aaload, 1) := by decide +kernel
theorem dX0_write_14 : decode cX0_write 14 = .ok (.aload_n 0, 1) := by decide +kernel
theorem dX0_write_15 : decode cX0_write 15 = .ok (.getfield 16, 3) := by decide +kernel
theorem dX0_write_18 : decode cX0_write 18 = .ok (.iload_n 1, 1) := by decide +kernel
theorem dX0_write_19 : decode cX0_write 19 = .ok (.iastore, 1) := by decide +kernel
theorem dX0_write_20 : decode cX0_write 20 = .ok (.aload_n 0, 1) := by decide +kernel
theorem dX0_write_21 : decode cX0_write 21 = .ok (.getfield 13, 3) := by decide +kernel
theorem dX0_write_24 : decode cX0_write 24 = .ok (.iconst 1, 1) := by decide +kernel
theorem dX0_write_25 : decode cX0_write 25 = .ok (.aaload, 1) := by decide +kernel
theorem dX0_write_26 : decode cX0_write 26 = .ok (.aload_n 0, 1) := by decide +kernel
theorem dX0_write_27 : decode cX0_write 27 = .ok (.getfield 16, 3) := by decide +kernel
theorem dX0_write_30 : decode cX0_write 30 = .ok (.iload_n 2, 1) := by decide +kernel
theorem dX0_write_31 : decode cX0_write 31 = .ok (.iastore, 1) := by decide +kernel
theorem dX0_write_32 : decode cX0_write 32 = .ok (.aload_n 0, 1) := by decide +kernel
theorem dX0_write_33 : decode cX0_write 33 = .ok (.getfield 13, 3) := by decide +kernel
theorem dX0_write_36 : decode cX0_write 36 = .ok (.iconst 2, 1) := by decide +kernel
theorem dX0_write_37 : decode cX0_write 37 = .ok (.aaload, 1) := by decide +kernel
theorem dX0_write_38 : decode cX0_write 38 = .ok (.aload_n 0, 1) := by decide +kernel
theorem dX0_write_39 : decode cX0_write 39 = .ok (.getfield 16, 3) := by decide +kernel
theorem dX0_write_42 : decode cX0_write 42 = .ok (.iload_n 3, 1) := by decide +kernel
theorem dX0_write_43 : decode cX0_write 43 = .ok (.iastore, 1) := by decide +kernel
theorem dX0_write_44 : decode cX0_write 44 = .ok (.aload_n 0, 1) := by decide +kernel
theorem dX0_write_45 : decode cX0_write 45 = .ok (.getfield 13, 3) := by decide +kernel
theorem dX0_write_48 : decode cX0_write 48 = .ok (.iconst 3, 1) := by decide +kernel
theorem dX0_write_49 : decode cX0_write 49 = .ok (.aaload, 1) := by decide +kernel
theorem dX0_write_50 : decode cX0_write 50 = .ok (.aload_n 0, 1) := by decide +kernel
theorem dX0_write_51 : decode cX0_write 51 = .ok (.getfield 16, 3) := by decide +kernel
theorem dX0_write_54 : decode cX0_write 54 = .ok (.iload 4, 2) := by decide +kernel
theorem dX0_write_56 : decode cX0_write 56 = .ok (.iastore, 1) := by decide +kernel
theorem dX0_write_57 : decode cX0_write 57 = .ok (.aload_n 0, 1) := by decide +kernel
theorem dX0_write_58 : decode cX0_write 58 = .ok (.getfield 13, 3) := by decide +kernel
theorem dX0_write_61 : decode cX0_write 61 = .ok (.iconst 4, 1) := by decide +kernel
theorem dX0_write_62 : decode cX0_write 62 = .ok (.aaload, 1) := by decide +kernel
theorem dX0_write_63 : decode cX0_write 63 = .ok (.aload_n 0, 1) := by decide +kernel
theorem dX0_write_64 : decode cX0_write 64 = .ok (.getfield 16, 3) := by decide +kernel
theorem dX0_write_67 : decode cX0_write 67 = .ok (.iload 5, 2) := by decide +kernel
theorem dX0_write_69 : decode cX0_write 69 = .ok (.iastore, 1) := by decide +kernel
theorem dX0_write_70 : decode cX0_write 70 = .ok (.aload_n 0, 1) := by decide +kernel
theorem dX0_write_71 : decode cX0_write 71 = .ok (.dup, 1) := by decide +kernel
theorem dX0_write_72 : decode cX0_write 72 = .ok (.getfield 16, 3) := by decide +kernel
theorem dX0_write_75 : decode cX0_write 75 = .ok (.iconst 1, 1) := by decide +kernel
theorem dX0_write_76 : decode cX0_write 76 = .ok (.iadd, 1) := by decide +kernel
theorem dX0_write_77 : decode cX0_write 77 = .ok (.putfield 16, 3) := by decide +kernel
theorem dX0_write_80 : decode cX0_write 80 = .ok (.iload 4, 2) := by decide +kernel
theorem dX0_write_82 : decode cX0_write 82 = .ok (.ifCond .ne 13, 3) := by decide +kernel
theorem dX0_write_85 : decode cX0_write 85 = .ok (.aload_n 0, 1) := by decide +kernel
theorem dX0_write_86 : decode cX0_write 86 = .ok (.dup, 1) := by decide +kernel
theorem dX0_write_87 : decode cX0_write 87 = .ok (.getfield 24, 3) := by decide +kernel
theorem dX0_write_90 : decode cX0_write 90 = .ok (.iconst 1, 1) := by decide +kernel
theorem dX0_write_91 : decode cX0_write 91 = .ok (.iadd, 1) := by decide +kernel
theorem dX0_write_92 : decode cX0_write 92 = .ok (.putfield 24, 3) := by decide +kernel
theorem dX0_write_95 : decode cX0_write 95 = .ok (.return_, 1) := by decide +kernel
theorem dX0_read_0 : decode cX0_read 0 = .ok (.iload_n 1, 1) := by decide +kernel
theorem dX0_read_1 : decode cX0_read 1 = .ok (.aload_n 0, 1) := by decide +kernel
theorem dX0_read_2 : decode cX0_read 2 = .ok (.getfield 16, 3) := by decide +kernel
theorem dX0_read_5 : decode cX0_read 5 = .ok (.invokestatic 27, 3) := by decide +kernel
theorem dX0_read_8 : decode cX0_read 8 = .ok (.ifCond .eq 22, 3) := by decide +kernel
theorem dX0_read_11 : decode cX0_read 11 = .ok (.iload_n 2, 1) := by decide +kernel
theorem dX0_read_12 : decode cX0_read 12 = .ok (.iconst 5, 1) := by decide +kernel
theorem dX0_read_13 : decode cX0_read 13 = .ok (.invokestatic 27, 3) := by decide +kernel
theorem dX0_read_16 : decode cX0_read 16 = .ok (.ifCond .eq 14, 3) := by decide +kernel
theorem dX0_read_19 : decode cX0_read 19 = .ok (.aload_n 0, 1) := by decide +kernel
theorem dX0_read_20 : decode cX0_read 20 = .ok (.getfield 13, 3) := by decide +kernel
theorem dX0_read_23 : decode cX0_read 23 = .ok (.iload_n 2, 1) := by decide +kernel
theorem dX0_read_24 : decode cX0_read 24 = .ok (.aaload, 1) := by decide +kernel
theorem dX0_read_25 : decode cX0_read 25 = .ok (.iload_n 1, 1) := by decide +kernel
theorem dX0_read_26 : decode cX0_read 26 = .ok (.iaload, 1) := by decide +kernel
theorem dX0_read_27 : decode cX0_read 27 = .ok (.goto 4, 3) := by decide +kernel
theorem dX0_read_30 : decode cX0_read 30 = .ok (.iconst (-1), 1) := by decide +kernel
theorem dX0_read_31 : decode cX0_read 31 = .ok (.ireturn, 1) := by decide +kernel
theorem dX1_init_0 : decode cX1_init 0 = .ok (.aload_n 0, 1) := by decide +kernel
theorem dX1_init_1 : decode cX1_init 1 = .ok (.invokespecial 3, 3) := by decide +kernel
theorem dX1_init_4 : decode cX1_init 4 = .ok (.aload_n 0, 1) := by decide +kernel
theorem dX1_init_5 : decode cX1_init 5 = .ok (.bipush 12, 2) := by decide +kernel
theorem dX1_init_7 : decode cX1_init 7 = .ok (.anewarray 9, 3) := by decide +kernel
theorem dX1_init_10 : decode cX1_init 10 = .ok (.putfield 11, 3) := by decide +kernel
theorem dX1_init_13 : decode cX1_init 13 = .ok (.return_, 1) := by decide +kernel
theorem dX1_isFull_0 : decode cX1_isFull 0 = .ok (.aload_n 0, 1) := by decide +kernel
theorem dX1_isFull_1 : decode cX1_isFull 1 = .ok (.getfield 17, 3) := by decide +kernel
theorem dX1_isFull_4 : decode cX1_isFull 4 = .ok (.bipush 12, 2) := by decide +kernel
theorem dX1_isFull_6 : decode cX1_isFull 6 = .ok (.if_icmp .lt 7, 3) := by decide +kernel
theorem dX1_isFull_9 : decode cX1_isFull 9 = .ok (.iconst 1, 1) := by decide +kernel
theorem dX1_isFull_10 : decode cX1_isFull 10 = .ok (.goto 4, 3) := by decide +kernel
theorem dX1_isFull_13 : decode cX1_isFull 13 = .ok (.iconst 0, 1) := by decide +kernel
theorem dX1_isFull_14 : decode cX1_isFull 14 = .ok (.ireturn, 1) := by decide +kernel
theorem dX1_append_0 : decode cX1_append 0 = .ok (.aload_n 0, 1) := by decide +kernel
theorem dX1_append_1 : decode cX1_append 1 = .ok (.invokevirtual 21, 3) := by decide +kernel
theorem dX1_append_4 : decode cX1_append 4 = .ok (.ifCond .ne 23, 3) := by decide +kernel
theorem dX1_append_7 : decode cX1_append 7 = .ok (.aload_n 0, 1) := by decide +kernel
theorem dX1_append_8 : decode cX1_append 8 = .ok (.getfield 11, 3) := by decide +kernel
theorem dX1_append_11 : decode cX1_append 11 = .ok (.aload_n 0, 1) := by decide +kernel
theorem dX1_append_12 : decode cX1_append 12 = .ok (.getfield 17, 3) := by decide +kernel
theorem dX1_append_15 : decode cX1_append 15 = .ok (.aload_n 1, 1) := by decide +kernel
theorem dX1_append_16 : decode cX1_append 16 = .ok (.aastore, 1) := by decide +kernel
theorem dX1_append_17 : decode cX1_append 17 = .ok (.aload_n 0, 1) := by decide +kernel
theorem dX1_append_18 : decode cX1_append 18 = .ok (.dup, 1) := by decide +kernel
theorem dX1_append_19 : decode cX1_append 19 = .ok (.getfield 17, 3) := by decide +kernel
theorem dX1_append_22 : decode cX1_append 22 = .ok (.iconst 1, 1) := by decide +kernel
theorem dX1_append_23 : decode cX1_append 23 = .ok (.iadd, 1) := by decide +kernel
theorem dX1_append_24 : decode cX1_append 24 = .ok (.putfield 17, 3) := by decide +kernel
theorem dX1_append_27 : decode cX1_append 27 = .ok (.return_, 1) := by decide +kernel
theorem dX1_drop_0 : decode cX1_drop 0 = .ok (.iload_n 1, 1) := by decide +kernel
theorem dX1_drop_1 : decode cX1_drop 1 = .ok (.aload_n 0, 1) := by decide +kernel
theorem dX1_drop_2 : decode cX1_drop 2 = .ok (.getfield 17, 3) := by decide +kernel
theorem dX1_drop_5 : decode cX1_drop 5 = .ok (.invokestatic 25, 3) := by decide +kernel
theorem dX1_drop_8 : decode cX1_drop 8 = .ok (.ifCond .ne 5, 3) := by decide +kernel
theorem dX1_drop_11 : decode cX1_drop 11 = .ok (.iconst 0, 1) := by decide +kernel
theorem dX1_drop_12 : decode cX1_drop 12 = .ok (.ireturn, 1) := by decide +kernel
theorem dX1_drop_13 : decode cX1_drop 13 = .ok (.aload_n 0, 1) := by decide +kernel
theorem dX1_drop_14 : decode cX1_drop 14 = .ok (.dup, 1) := by decide +kernel
theorem dX1_drop_15 : decode cX1_drop 15 = .ok (.getfield 17, 3) := by decide +kernel
theorem dX1_drop_18 : decode cX1_drop 18 = .ok (.iconst 1, 1) := by decide +kernel
theorem dX1_drop_19 : decode cX1_drop 19 = .ok (.isub, 1) := by decide +kernel
theorem dX1_drop_20 : decode cX1_drop 20 = .ok (.putfield 17, 3) := by decide +kernel
theorem dX1_drop_23 : decode cX1_drop 23 = .ok (.iload_n 1, 1) := by decide +kernel
theorem dX1_drop_24 : decode cX1_drop 24 = .ok (.istore_n 2, 1) := by decide +kernel
theorem dX1_drop_25 : decode cX1_drop 25 = .ok (.iload_n 2, 1) := by decide +kernel
theorem dX1_drop_26 : decode cX1_drop 26 = .ok (.aload_n 0, 1) := by decide +kernel
theorem dX1_drop_27 : decode cX1_drop 27 = .ok (.getfield 17, 3) := by decide +kernel
theorem dX1_drop_30 : decode cX1_drop 30 = .ok (.if_icmp .ge 23, 3) := by decide +kernel
theorem dX1_drop_33 : decode cX1_drop 33 = .ok (.aload_n 0, 1) := by decide +kernel
theorem dX1_drop_34 : decode cX1_drop 34 = .ok (.getfield 11, 3) := by decide +kernel
theorem dX1_drop_37 : decode cX1_drop 37 = .ok (.iload_n 2, 1) := by decide +kernel
theorem dX1_drop_38 : decode cX1_drop 38 = .ok (.aload_n 0, 1) := by decide +kernel
theorem dX1_drop_39 : decode cX1_drop 39 = .ok (.getfield 11, 3) := by decide +kernel
theorem dX1_drop_42 : decode cX1_drop 42 = .ok (.iload_n 2, 1) := by decide +kernel
theorem dX1_drop_43 : decode cX1_drop 43 = .ok (.iconst 1, 1) := by decide +kernel
theorem dX1_drop_44 : decode cX1_drop 44 = .ok (.iadd, 1) := by decide +kernel
theorem dX1_drop_45 : decode cX1_drop 45 = .ok (.aaload, 1) := by decide +kernel
theorem dX1_drop_46 : decode cX1_drop 46 = .ok (.aastore, 1) := by decide +kernel
theorem dX1_drop_47 : decode cX1_drop 47 = .ok (.iinc 2 1, 3) := by decide +kernel
theorem dX1_drop_50 : decode cX1_drop 50 = .ok (.goto (-25), 3) := by decide +kernel
theorem dX1_drop_53 : decode cX1_drop 53 = .ok (.aload_n 0, 1) := by decide +kernel
theorem dX1_drop_54 : decode cX1_drop 54 = .ok (.getfield 11, 3) := by decide +kernel
theorem dX1_drop_57 : decode cX1_drop 57 = .ok (.aload_n 0, 1) := by decide +kernel
theorem dX1_drop_58 : decode cX1_drop 58 = .ok (.getfield 17, 3) := by decide +kernel
theorem dX1_drop_61 : decode cX1_drop 61 = .ok (.aconst_null, 1) := by decide +kernel
theorem dX1_drop_62 : decode cX1_drop 62 = .ok (.aastore, 1) := by decide +kernel
theorem dX1_drop_63 : decode cX1_drop 63 = .ok (.iconst 1, 1) := by decide +kernel
theorem dX1_drop_64 : decode cX1_drop 64 = .ok (.ireturn, 1) := by decide +kernel
theorem dX1_ruleAt_0 : decode cX1_ruleAt 0 = .ok (.iload_n 1, 1) := by decide +kernel
theorem dX1_ruleAt_1 : decode cX1_ruleAt 1 = .ok (.aload_n 0, 1) := by decide +kernel
theorem dX1_ruleAt_2 : decode cX1_ruleAt 2 = .ok (.getfield 17, 3) := by decide +kernel
theorem dX1_ruleAt_5 : decode cX1_ruleAt 5 = .ok (.invokestatic 25, 3) := by decide +kernel
theorem dX1_ruleAt_8 : decode cX1_ruleAt 8 = .ok (.ifCond .eq 12, 3) := by decide +kernel
theorem dX1_ruleAt_11 : decode cX1_ruleAt 11 = .ok (.aload_n 0, 1) := by decide +kernel
theorem dX1_ruleAt_12 : decode cX1_ruleAt 12 = .ok (.getfield 11, 3) := by decide +kernel
theorem dX1_ruleAt_15 : decode cX1_ruleAt 15 = .ok (.iload_n 1, 1) := by decide +kernel
theorem dX1_ruleAt_16 : decode cX1_ruleAt 16 = .ok (.aaload, 1) := by decide +kernel
theorem dX1_ruleAt_17 : decode cX1_ruleAt 17 = .ok (.goto 4, 3) := by decide +kernel
theorem dX1_ruleAt_20 : decode cX1_ruleAt 20 = .ok (.aconst_null, 1) := by decide +kernel
theorem dX1_ruleAt_21 : decode cX1_ruleAt 21 = .ok (.areturn, 1) := by decide +kernel
theorem dX1_firstFit_0 : decode cX1_firstFit 0 = .ok (.aload_n 2, 1) := by decide +kernel
theorem dX1_firstFit_1 : decode cX1_firstFit 1 = .ok (.iload_n 1, 1) := by decide +kernel
theorem dX1_firstFit_2 : decode cX1_firstFit 2 = .ok (.invokestatic 29, 3) := by decide +kernel
theorem dX1_firstFit_5 : decode cX1_firstFit 5 = .ok (.invokevirtual 33, 3) := by decide +kernel
theorem dX1_firstFit_8 : decode cX1_firstFit 8 = .ok (.istore_n 3, 1) := by decide +kernel
theorem dX1_firstFit_9 : decode cX1_firstFit 9 = .ok (.iconst 0, 1) := by decide +kernel
theorem dX1_firstFit_10 : decode cX1_firstFit 10 = .ok (.istore 4, 2) := by decide +kernel
theorem dX1_firstFit_12 : decode cX1_firstFit 12 = .ok (.iload 4, 2) := by decide +kernel
theorem dX1_firstFit_14 : decode cX1_firstFit 14 = .ok (.aload_n 0, 1) := by decide +kernel
theorem dX1_firstFit_15 : decode cX1_firstFit 15 = .ok (.getfield 17, 3) := by decide +kernel
theorem dX1_firstFit_18 : decode cX1_firstFit 18 = .ok (.if_icmp .ge 36, 3) := by decide +kernel
theorem dX1_firstFit_21 : decode cX1_firstFit 21 = .ok (.aload_n 0, 1) := by decide +kernel
theorem dX1_firstFit_22 : decode cX1_firstFit 22 = .ok (.getfield 11, 3) := by decide +kernel
theorem dX1_firstFit_25 : decode cX1_firstFit 25 = .ok (.iload 4, 2) := by decide +kernel
theorem dX1_firstFit_27 : decode cX1_firstFit 27 = .ok (.aaload, 1) := by decide +kernel
theorem dX1_firstFit_28 : decode cX1_firstFit 28 = .ok (.astore 5, 2) := by decide +kernel
theorem dX1_firstFit_30 : decode cX1_firstFit 30 = .ok (.aload 5, 2) := by decide +kernel
theorem dX1_firstFit_32 : decode cX1_firstFit 32 = .ok (.ifnull 16, 3) := by decide +kernel
theorem dX1_firstFit_35 : decode cX1_firstFit 35 = .ok (.aload 5, 2) := by decide +kernel
theorem dX1_firstFit_37 : decode cX1_firstFit 37 = .ok (.iload_n 1, 1) := by decide +kernel
theorem dX1_firstFit_38 : decode cX1_firstFit 38 = .ok (.iload_n 3, 1) := by decide +kernel
theorem dX1_firstFit_39 : decode cX1_firstFit 39 = .ok (.invokevirtual 38, 3) := by decide +kernel
theorem dX1_firstFit_42 : decode cX1_firstFit 42 = .ok (.ifCond .eq 6, 3) := by decide +kernel
theorem dX1_firstFit_45 : decode cX1_firstFit 45 = .ok (.iload 4, 2) := by decide +kernel
theorem dX1_firstFit_47 : decode cX1_firstFit 47 = .ok (.ireturn, 1) := by decide +kernel
theorem dX1_firstFit_48 : decode cX1_firstFit 48 = .ok (.iinc 4 1, 3) := by decide +kernel
theorem dX1_firstFit_51 : decode cX1_firstFit 51 = .ok (.goto (-39), 3) := by decide +kernel
theorem dX1_firstFit_54 : decode cX1_firstFit 54 = .ok (.iconst (-1), 1) := by decide +kernel
theorem dX1_firstFit_55 : decode cX1_firstFit 55 = .ok (.ireturn, 1) := by decide +kernel
theorem dX1_isLet_0 : decode cX1_isLet 0 = .ok (.aload_n 0, 1) := by decide +kernel
theorem dX1_isLet_1 : decode cX1_isLet 1 = .ok (.aload_n 0, 1) := by decide +kernel
theorem dX1_isLet_2 : decode cX1_isLet 2 = .ok (.iload_n 1, 1) := by decide +kernel
theorem dX1_isLet_3 : decode cX1_isLet 3 = .ok (.aload_n 2, 1) := by decide +kernel
theorem dX1_isLet_4 : decode cX1_isLet 4 = .ok (.invokevirtual 41, 3) := by decide +kernel
theorem dX1_isLet_7 : decode cX1_isLet 7 = .ok (.invokevirtual 45, 3) := by decide +kernel
theorem dX1_isLet_10 : decode cX1_isLet 10 = .ok (.astore_n 3, 1) := by decide +kernel
theorem dX1_isLet_11 : decode cX1_isLet 11 = .ok (.aload_n 3, 1) := by decide +kernel
theorem dX1_isLet_12 : decode cX1_isLet 12 = .ok (.ifnull 14, 3) := by decide +kernel
theorem dX1_isLet_15 : decode cX1_isLet 15 = .ok (.aload_n 3, 1) := by decide +kernel
theorem dX1_isLet_16 : decode cX1_isLet 16 = .ok (.getfield 49, 3) := by decide +kernel
theorem dX1_isLet_19 : decode cX1_isLet 19 = .ok (.ifCond .ne 7, 3) := by decide +kernel
theorem dX1_isLet_22 : decode cX1_isLet 22 = .ok (.iconst 1, 1) := by decide +kernel
theorem dX1_isLet_23 : decode cX1_isLet 23 = .ok (.goto 4, 3) := by decide +kernel
theorem dX1_isLet_26 : decode cX1_isLet 26 = .ok (.iconst 0, 1) := by decide +kernel
theorem dX1_isLet_27 : decode cX1_isLet 27 = .ok (.ireturn, 1) := by decide +kernel
theorem dX2_init_0 : decode cX2_init 0 = .ok (.aload_n 0, 1) := by decide +kernel
theorem dX2_init_1 : decode cX2_init 1 = .ok (.invokespecial 3, 3) := by decide +kernel
theorem dX2_init_4 : decode cX2_init 4 = .ok (.aload_n 0, 1) := by decide +kernel
theorem dX2_init_5 : decode cX2_init 5 = .ok (.iconst 5, 1) := by decide +kernel
theorem dX2_init_6 : decode cX2_init 6 = .ok (.putfield 9, 3) := by decide +kernel
theorem dX2_init_9 : decode cX2_init 9 = .ok (.aload_n 0, 1) := by decide +kernel
theorem dX2_init_10 : decode cX2_init 10 = .ok (.iconst 2, 1) := by decide +kernel
theorem dX2_init_11 : decode cX2_init 11 = .ok (.putfield 15, 3) := by decide +kernel
theorem dX2_init_14 : decode cX2_init 14 = .ok (.return_, 1) := by decide +kernel
theorem dX2_sendLetter_0 : decode cX2_sendLetter 0 = .ok (.aload_n 0, 1) := by decide +kernel
theorem dX2_sendLetter_1 : decode cX2_sendLetter 1 = .ok (.getfield 15, 3) := by decide +kernel
theorem dX2_sendLetter_4 : decode cX2_sendLetter 4 = .ok (.ifCond .ne 11, 3) := by decide +kernel
theorem dX2_sendLetter_7 : decode cX2_sendLetter 7 = .ok (.aload_n 0, 1) := by decide +kernel
theorem dX2_sendLetter_8 : decode cX2_sendLetter 8 = .ok (.aconst_null, 1) := by decide +kernel
theorem dX2_sendLetter_9 : decode cX2_sendLetter 9 = .ok (.putfield 18, 3) := by decide +kernel
theorem dX2_sendLetter_12 : decode cX2_sendLetter 12 = .ok (.goto 18, 3) := by decide +kernel
theorem dX2_sendLetter_15 : decode cX2_sendLetter 15 = .ok (.aload_n 0, 1) := by decide +kernel
theorem dX2_sendLetter_16 : decode cX2_sendLetter 16 = .ok (.dup, 1) := by decide +kernel
theorem dX2_sendLetter_17 : decode cX2_sendLetter 17 = .ok (.getfield 22, 3) := by decide +kernel
theorem dX2_sendLetter_20 : decode cX2_sendLetter 20 = .ok (.iconst 1, 1) := by decide +kernel
theorem dX2_sendLetter_21 : decode cX2_sendLetter 21 = .ok (.aload_n 0, 1) := by decide +kernel
theorem dX2_sendLetter_22 : decode cX2_sendLetter 22 = .ok (.getfield 15, 3) := by decide +kernel
theorem dX2_sendLetter_25 : decode cX2_sendLetter 25 = .ok (.ishl, 1) := by decide +kernel
theorem dX2_sendLetter_26 : decode cX2_sendLetter 26 = .ok (.ior, 1) := by decide +kernel
theorem dX2_sendLetter_27 : decode cX2_sendLetter 27 = .ok (.putfield 22, 3) := by decide +kernel
theorem dX2_sendLetter_30 : decode cX2_sendLetter 30 = .ok (.return_, 1) := by decide +kernel
theorem dX2_letPass_0 : decode cX2_letPass 0 = .ok (.iload_n 1, 1) := by decide +kernel
theorem dX2_letPass_1 : decode cX2_letPass 1 = .ok (.bipush 20, 2) := by decide +kernel
theorem dX2_letPass_3 : decode cX2_letPass 3 = .ok (.invokestatic 25, 3) := by decide +kernel
theorem dX2_letPass_6 : decode cX2_letPass 6 = .ok (.istore_n 2, 1) := by decide +kernel
theorem dX2_letPass_7 : decode cX2_letPass 7 = .ok (.aload_n 0, 1) := by decide +kernel
theorem dX2_letPass_8 : decode cX2_letPass 8 = .ok (.getfield 22, 3) := by decide +kernel
theorem dX2_letPass_11 : decode cX2_letPass 11 = .ok (.iconst 1, 1) := by decide +kernel
theorem dX2_letPass_12 : decode cX2_letPass 12 = .ok (.iload_n 2, 1) := by decide +kernel
theorem dX2_letPass_13 : decode cX2_letPass 13 = .ok (.iconst 1, 1) := by decide +kernel
theorem dX2_letPass_14 : decode cX2_letPass 14 = .ok (.iadd, 1) := by decide +kernel
theorem dX2_letPass_15 : decode cX2_letPass 15 = .ok (.ishl, 1) := by decide +kernel
theorem dX2_letPass_16 : decode cX2_letPass 16 = .ok (.iconst 1, 1) := by decide +kernel
theorem dX2_letPass_17 : decode cX2_letPass 17 = .ok (.isub, 1) := by decide +kernel
theorem dX2_letPass_18 : decode cX2_letPass 18 = .ok (.iand, 1) := by decide +kernel
theorem dX2_letPass_19 : decode cX2_letPass 19 = .ok (.istore_n 3, 1) := by decide +kernel
theorem dX2_letPass_20 : decode cX2_letPass 20 = .ok (.iload_n 3, 1) := by decide +kernel
theorem dX2_letPass_21 : decode cX2_letPass 21 = .ok (.ifCond .eq 8, 3) := by decide +kernel
theorem dX2_letPass_24 : decode cX2_letPass 24 = .ok (.aload_n 0, 1) := by decide +kernel
theorem dX2_letPass_25 : decode cX2_letPass 25 = .ok (.aconst_null, 1) := by decide +kernel
theorem dX2_letPass_26 : decode cX2_letPass 26 = .ok (.putfield 18, 3) := by decide +kernel
theorem dX2_letPass_29 : decode cX2_letPass 29 = .ok (.aload_n 0, 1) := by decide +kernel
theorem dX2_letPass_30 : decode cX2_letPass 30 = .ok (.aload_n 0, 1) := by decide +kernel
theorem dX2_letPass_31 : decode cX2_letPass 31 = .ok (.getfield 22, 3) := by decide +kernel
theorem dX2_letPass_34 : decode cX2_letPass 34 = .ok (.iload_n 3, 1) := by decide +kernel
theorem dX2_letPass_35 : decode cX2_letPass 35 = .ok (.isub, 1) := by decide +kernel
theorem dX2_letPass_36 : decode cX2_letPass 36 = .ok (.iload_n 2, 1) := by decide +kernel
theorem dX2_letPass_37 : decode cX2_letPass 37 = .ok (.ishr, 1) := by decide +kernel
theorem dX2_letPass_38 : decode cX2_letPass 38 = .ok (.putfield 22, 3) := by decide +kernel
theorem dX2_letPass_41 : decode cX2_letPass 41 = .ok (.return_, 1) := by decide +kernel
theorem dX2_keptFor_0 : decode cX2_keptFor 0 = .ok (.aload_n 0, 1) := by decide +kernel
theorem dX2_keptFor_1 : decode cX2_keptFor 1 = .ok (.getfield 18, 3) := by decide +kernel
theorem dX2_keptFor_4 : decode cX2_keptFor 4 = .ok (.astore_n 2, 1) := by decide +kernel
theorem dX2_keptFor_5 : decode cX2_keptFor 5 = .ok (.aload_n 2, 1) := by decide +kernel
theorem dX2_keptFor_6 : decode cX2_keptFor 6 = .ok (.ifnull 21, 3) := by decide +kernel
theorem dX2_keptFor_9 : decode cX2_keptFor 9 = .ok (.aload_n 2, 1) := by decide +kernel
theorem dX2_keptFor_10 : decode cX2_keptFor 10 = .ok (.getfield 31, 3) := by decide +kernel
theorem dX2_keptFor_13 : decode cX2_keptFor 13 = .ok (.iload_n 1, 1) := by decide +kernel
theorem dX2_keptFor_14 : decode cX2_keptFor 14 = .ok (.if_icmp .ne 5, 3) := by decide +kernel
theorem dX2_keptFor_17 : decode cX2_keptFor 17 = .ok (.aload_n 2, 1) := by decide +kernel
theorem dX2_keptFor_18 : decode cX2_keptFor 18 = .ok (.areturn, 1) := by decide +kernel
theorem dX2_keptFor_19 : decode cX2_keptFor 19 = .ok (.aload_n 2, 1) := by decide +kernel
theorem dX2_keptFor_20 : decode cX2_keptFor 20 = .ok (.getfield 36, 3) := by decide +kernel
theorem dX2_keptFor_23 : decode cX2_keptFor 23 = .ok (.astore_n 2, 1) := by decide +kernel
theorem dX2_keptFor_24 : decode cX2_keptFor 24 = .ok (.goto (-19), 3) := by decide +kernel
theorem dX2_keptFor_27 : decode cX2_keptFor 27 = .ok (.aconst_null, 1) := by decide +kernel
theorem dX2_keptFor_28 : decode cX2_keptFor 28 = .ok (.areturn, 1) := by decide +kernel
theorem dX2_keepMore_0 : decode cX2_keepMore 0 = .ok (.aload_n 0, 1) := by decide +kernel
theorem dX2_keepMore_1 : decode cX2_keepMore 1 = .ok (.new 32, 3) := by decide +kernel
theorem dX2_keepMore_4 : decode cX2_keepMore 4 = .ok (.dup, 1) := by decide +kernel
theorem dX2_keepMore_5 : decode cX2_keepMore 5 = .ok (.iload_n 1, 1) := by decide +kernel
theorem dX2_keepMore_6 : decode cX2_keepMore 6 = .ok (.aload_n 0, 1) := by decide +kernel
theorem dX2_keepMore_7 : decode cX2_keepMore 7 = .ok (.getfield 18, 3) := by decide +kernel
theorem dX2_keepMore_10 : decode cX2_keepMore 10 = .ok (.invokespecial 39, 3) := by decide +kernel
theorem dX2_keepMore_13 : decode cX2_keepMore 13 = .ok (.putfield 18, 3) := by decide +kernel
theorem dX2_keepMore_16 : decode cX2_keepMore 16 = .ok (.aload_n 0, 1) := by decide +kernel
theorem dX2_keepMore_17 : decode cX2_keepMore 17 = .ok (.getfield 18, 3) := by decide +kernel
theorem dX2_keepMore_20 : decode cX2_keepMore 20 = .ok (.areturn, 1) := by decide +kernel
theorem dX2_couldTell_0 : decode cX2_couldTell 0 = .ok (.iload_n 2, 1) := by decide +kernel
theorem dX2_couldTell_1 : decode cX2_couldTell 1 = .ok (.aload_n 1, 1) := by decide +kernel
theorem dX2_couldTell_2 : decode cX2_couldTell 2 = .ok (.getfield 42, 3) := by decide +kernel
theorem dX2_couldTell_5 : decode cX2_couldTell 5 = .ok (.isub, 1) := by decide +kernel
theorem dX2_couldTell_6 : decode cX2_couldTell 6 = .ok (.aload_n 0, 1) := by decide +kernel
theorem dX2_couldTell_7 : decode cX2_couldTell 7 = .ok (.getfield 9, 3) := by decide +kernel
theorem dX2_couldTell_10 : decode cX2_couldTell 10 = .ok (.if_icmp .gt 7, 3) := by decide +kernel
theorem dX2_couldTell_13 : decode cX2_couldTell 13 = .ok (.iconst 1, 1) := by decide +kernel
theorem dX2_couldTell_14 : decode cX2_couldTell 14 = .ok (.goto 4, 3) := by decide +kernel
theorem dX2_couldTell_17 : decode cX2_couldTell 17 = .ok (.iconst 0, 1) := by decide +kernel
theorem dX2_couldTell_18 : decode cX2_couldTell 18 = .ok (.ireturn, 1) := by decide +kernel
theorem dX2_tellable_0 : decode cX2_tellable 0 = .ok (.iconst 0, 1) := by decide +kernel
theorem dX2_tellable_1 : decode cX2_tellable 1 = .ok (.istore_n 2, 1) := by decide +kernel
theorem dX2_tellable_2 : decode cX2_tellable 2 = .ok (.aload_n 0, 1) := by decide +kernel
theorem dX2_tellable_3 : decode cX2_tellable 3 = .ok (.getfield 18, 3) := by decide +kernel
theorem dX2_tellable_6 : decode cX2_tellable 6 = .ok (.astore_n 3, 1) := by decide +kernel
theorem dX2_tellable_7 : decode cX2_tellable 7 = .ok (.aload_n 3, 1) := by decide +kernel
theorem dX2_tellable_8 : decode cX2_tellable 8 = .ok (.ifnull 23, 3) := by decide +kernel
theorem dX2_tellable_11 : decode cX2_tellable 11 = .ok (.aload_n 0, 1) := by decide +kernel
theorem dX2_tellable_12 : decode cX2_tellable 12 = .ok (.aload_n 3, 1) := by decide +kernel
theorem dX2_tellable_13 : decode cX2_tellable 13 = .ok (.iload_n 1, 1) := by decide +kernel
theorem dX2_tellable_14 : decode cX2_tellable 14 = .ok (.invokevirtual 45, 3) := by decide +kernel
theorem dX2_tellable_17 : decode cX2_tellable 17 = .ok (.ifCond .eq 6, 3) := by decide +kernel
theorem dX2_tellable_20 : decode cX2_tellable 20 = .ok (.iinc 2 1, 3) := by decide +kernel
theorem dX2_tellable_23 : decode cX2_tellable 23 = .ok (.aload_n 3, 1) := by decide +kernel
theorem dX2_tellable_24 : decode cX2_tellable 24 = .ok (.getfield 36, 3) := by decide +kernel
theorem dX2_tellable_27 : decode cX2_tellable 27 = .ok (.astore_n 3, 1) := by decide +kernel
theorem dX2_tellable_28 : decode cX2_tellable 28 = .ok (.goto (-21), 3) := by decide +kernel
theorem dX2_tellable_31 : decode cX2_tellable 31 = .ok (.iload_n 2, 1) := by decide +kernel
theorem dX2_tellable_32 : decode cX2_tellable 32 = .ok (.ireturn, 1) := by decide +kernel
theorem dX3_init_0 : decode cX3_init 0 = .ok (.aload_n 0, 1) := by decide +kernel
theorem dX3_init_1 : decode cX3_init 1 = .ok (.invokespecial 1, 3) := by decide +kernel
theorem dX3_init_4 : decode cX3_init 4 = .ok (.aload_n 0, 1) := by decide +kernel
theorem dX3_init_5 : decode cX3_init 5 = .ok (.iload_n 1, 1) := by decide +kernel
theorem dX3_init_6 : decode cX3_init 6 = .ok (.putfield 7, 3) := by decide +kernel
theorem dX3_init_9 : decode cX3_init 9 = .ok (.aload_n 0, 1) := by decide +kernel
theorem dX3_init_10 : decode cX3_init 10 = .ok (.aload_n 2, 1) := by decide +kernel
theorem dX3_init_11 : decode cX3_init 11 = .ok (.putfield 13, 3) := by decide +kernel
theorem dX3_init_14 : decode cX3_init 14 = .ok (.return_, 1) := by decide +kernel
theorem dX4_init_0 : decode cX4_init 0 = .ok (.aload_n 0, 1) := by decide +kernel
theorem dX4_init_1 : decode cX4_init 1 = .ok (.invokespecial 3, 3) := by decide +kernel
theorem dX4_init_4 : decode cX4_init 4 = .ok (.aload_n 0, 1) := by decide +kernel
theorem dX4_init_5 : decode cX4_init 5 = .ok (.iload_n 1, 1) := by decide +kernel
theorem dX4_init_6 : decode cX4_init 6 = .ok (.sipush 10000, 3) := by decide +kernel
theorem dX4_init_9 : decode cX4_init 9 = .ok (.idiv, 1) := by decide +kernel
theorem dX4_init_10 : decode cX4_init 10 = .ok (.putfield 9, 3) := by decide +kernel
theorem dX4_init_13 : decode cX4_init 13 = .ok (.aload_n 0, 1) := by decide +kernel
theorem dX4_init_14 : decode cX4_init 14 = .ok (.iload_n 1, 1) := by decide +kernel
theorem dX4_init_15 : decode cX4_init 15 = .ok (.sipush 1000, 3) := by decide +kernel
theorem dX4_init_18 : decode cX4_init 18 = .ok (.idiv, 1) := by decide +kernel
theorem dX4_init_19 : decode cX4_init 19 = .ok (.bipush 10, 2) := by decide +kernel
theorem dX4_init_21 : decode cX4_init 21 = .ok (.irem, 1) := by decide +kernel
theorem dX4_init_22 : decode cX4_init 22 = .ok (.putfield 15, 3) := by decide +kernel
theorem dX4_init_25 : decode cX4_init 25 = .ok (.aload_n 0, 1) := by decide +kernel
theorem dX4_init_26 : decode cX4_init 26 = .ok (.iload_n 1, 1) := by decide +kernel
theorem dX4_init_27 : decode cX4_init 27 = .ok (.bipush 100, 2) := by decide +kernel
theorem dX4_init_29 : decode cX4_init 29 = .ok (.idiv, 1) := by decide +kernel
theorem dX4_init_30 : decode cX4_init 30 = .ok (.bipush 10, 2) := by decide +kernel
theorem dX4_init_32 : decode cX4_init 32 = .ok (.irem, 1) := by decide +kernel
theorem dX4_init_33 : decode cX4_init 33 = .ok (.putfield 18, 3) := by decide +kernel
theorem dX4_init_36 : decode cX4_init 36 = .ok (.aload_n 0, 1) := by decide +kernel
theorem dX4_init_37 : decode cX4_init 37 = .ok (.iload_n 1, 1) := by decide +kernel
theorem dX4_init_38 : decode cX4_init 38 = .ok (.bipush 10, 2) := by decide +kernel
theorem dX4_init_40 : decode cX4_init 40 = .ok (.idiv, 1) := by decide +kernel
theorem dX4_init_41 : decode cX4_init 41 = .ok (.bipush 10, 2) := by decide +kernel
theorem dX4_init_43 : decode cX4_init 43 = .ok (.irem, 1) := by decide +kernel
theorem dX4_init_44 : decode cX4_init 44 = .ok (.putfield 21, 3) := by decide +kernel
theorem dX4_init_47 : decode cX4_init 47 = .ok (.aload_n 0, 1) := by decide +kernel
theorem dX4_init_48 : decode cX4_init 48 = .ok (.iload_n 1, 1) := by decide +kernel
theorem dX4_init_49 : decode cX4_init 49 = .ok (.bipush 10, 2) := by decide +kernel
theorem dX4_init_51 : decode cX4_init 51 = .ok (.irem, 1) := by decide +kernel
theorem dX4_init_52 : decode cX4_init 52 = .ok (.putfield 24, 3) := by decide +kernel
theorem dX4_init_55 : decode cX4_init 55 = .ok (.return_, 1) := by decide +kernel
theorem dX4_canBe_0 : decode cX4_canBe 0 = .ok (.iload_n 0, 1) := by decide +kernel
theorem dX4_canBe_1 : decode cX4_canBe 1 = .ok (.ifCond .lt 58, 3) := by decide +kernel
theorem dX4_canBe_4 : decode cX4_canBe 4 = .ok (.iload_n 0, 1) := by decide +kernel
theorem dX4_canBe_5 : decode cX4_canBe 5 = .ok (.sipush 10000, 3) := by decide +kernel
theorem dX4_canBe_8 : decode cX4_canBe 8 = .ok (.idiv, 1) := by decide +kernel
theorem dX4_canBe_9 : decode cX4_canBe 9 = .ok (.iconst 4, 1) := by decide +kernel
theorem dX4_canBe_10 : decode cX4_canBe 10 = .ok (.if_icmp .ge 49, 3) := by decide +kernel
theorem dX4_canBe_13 : decode cX4_canBe 13 = .ok (.iload_n 0, 1) := by decide +kernel
theorem dX4_canBe_14 : decode cX4_canBe 14 = .ok (.sipush 1000, 3) := by decide +kernel
theorem dX4_canBe_17 : decode cX4_canBe 17 = .ok (.idiv, 1) := by decide +kernel
theorem dX4_canBe_18 : decode cX4_canBe 18 = .ok (.bipush 10, 2) := by decide +kernel
theorem dX4_canBe_20 : decode cX4_canBe 20 = .ok (.irem, 1) := by decide +kernel
theorem dX4_canBe_21 : decode cX4_canBe 21 = .ok (.iconst 5, 1) := by decide +kernel
theorem dX4_canBe_22 : decode cX4_canBe 22 = .ok (.if_icmp .ge 37, 3) := by decide +kernel
theorem dX4_canBe_25 : decode cX4_canBe 25 = .ok (.iload_n 0, 1) := by decide +kernel
theorem dX4_canBe_26 : decode cX4_canBe 26 = .ok (.bipush 100, 2) := by decide +kernel
theorem dX4_canBe_28 : decode cX4_canBe 28 = .ok (.idiv, 1) := by decide +kernel
theorem dX4_canBe_29 : decode cX4_canBe 29 = .ok (.bipush 10, 2) := by decide +kernel
theorem dX4_canBe_31 : decode cX4_canBe 31 = .ok (.irem, 1) := by decide +kernel
theorem dX4_canBe_32 : decode cX4_canBe 32 = .ok (.iconst 4, 1) := by decide +kernel
theorem dX4_canBe_33 : decode cX4_canBe 33 = .ok (.if_icmp .gt 26, 3) := by decide +kernel
theorem dX4_canBe_36 : decode cX4_canBe 36 = .ok (.iload_n 0, 1) := by decide +kernel
theorem dX4_canBe_37 : decode cX4_canBe 37 = .ok (.bipush 10, 2) := by decide +kernel
theorem dX4_canBe_39 : decode cX4_canBe 39 = .ok (.idiv, 1) := by decide +kernel
theorem dX4_canBe_40 : decode cX4_canBe 40 = .ok (.bipush 10, 2) := by decide +kernel
theorem dX4_canBe_42 : decode cX4_canBe 42 = .ok (.irem, 1) := by decide +kernel
theorem dX4_canBe_43 : decode cX4_canBe 43 = .ok (.iconst 3, 1) := by decide +kernel
theorem dX4_canBe_44 : decode cX4_canBe 44 = .ok (.if_icmp .gt 15, 3) := by decide +kernel
theorem dX4_canBe_47 : decode cX4_canBe 47 = .ok (.iload_n 0, 1) := by decide +kernel
theorem dX4_canBe_48 : decode cX4_canBe 48 = .ok (.bipush 10, 2) := by decide +kernel
theorem dX4_canBe_50 : decode cX4_canBe 50 = .ok (.irem, 1) := by decide +kernel
theorem dX4_canBe_51 : decode cX4_canBe 51 = .ok (.iconst 3, 1) := by decide +kernel
theorem dX4_canBe_52 : decode cX4_canBe 52 = .ok (.if_icmp .gt 7, 3) := by decide +kernel
theorem dX4_canBe_55 : decode cX4_canBe 55 = .ok (.iconst 1, 1) := by decide +kernel
theorem dX4_canBe_56 : decode cX4_canBe 56 = .ok (.goto 4, 3) := by decide +kernel
theorem dX4_canBe_59 : decode cX4_canBe 59 = .ok (.iconst 0, 1) := by decide +kernel
theorem dX4_canBe_60 : decode cX4_canBe 60 = .ok (.ireturn, 1) := by decide +kernel
theorem dX4_missesRole_0 : decode cX4_missesRole 0 = .ok (.aload_n 0, 1) := by decide +kernel
theorem dX4_missesRole_1 : decode cX4_missesRole 1 = .ok (.getfield 18, 3) := by decide +kernel
theorem dX4_missesRole_4 : decode cX4_missesRole 4 = .ok (.iconst 4, 1) := by decide +kernel
theorem dX4_missesRole_5 : decode cX4_missesRole 5 = .ok (.if_icmp .ge 18, 3) := by decide +kernel
theorem dX4_missesRole_8 : decode cX4_missesRole 8 = .ok (.iload_n 1, 1) := by decide +kernel
theorem dX4_missesRole_9 : decode cX4_missesRole 9 = .ok (.aload_n 0, 1) := by decide +kernel
theorem dX4_missesRole_10 : decode cX4_missesRole 10 = .ok (.getfield 18, 3) := by decide +kernel
theorem dX4_missesRole_13 : decode cX4_missesRole 13 = .ok (.invokestatic 27, 3) := by decide +kernel
theorem dX4_missesRole_16 : decode cX4_missesRole 16 = .ok (.ifCond .ne 7, 3) := by decide +kernel
theorem dX4_missesRole_19 : decode cX4_missesRole 19 = .ok (.iconst 1, 1) := by decide +kernel
theorem dX4_missesRole_20 : decode cX4_missesRole 20 = .ok (.goto 4, 3) := by decide +kernel
theorem dX4_missesRole_23 : decode cX4_missesRole 23 = .ok (.iconst 0, 1) := by decide +kernel
theorem dX4_missesRole_24 : decode cX4_missesRole 24 = .ok (.ireturn, 1) := by decide +kernel
theorem dX4_missesMark_0 : decode cX4_missesMark 0 = .ok (.aload_n 0, 1) := by decide +kernel
theorem dX4_missesMark_1 : decode cX4_missesMark 1 = .ok (.getfield 21, 3) := by decide +kernel
theorem dX4_missesMark_4 : decode cX4_missesMark 4 = .ok (.iconst 3, 1) := by decide +kernel
theorem dX4_missesMark_5 : decode cX4_missesMark 5 = .ok (.if_icmp .ge 22, 3) := by decide +kernel
theorem dX4_missesMark_8 : decode cX4_missesMark 8 = .ok (.iload_n 1, 1) := by decide +kernel
theorem dX4_missesMark_9 : decode cX4_missesMark 9 = .ok (.aload_n 0, 1) := by decide +kernel
theorem dX4_missesMark_10 : decode cX4_missesMark 10 = .ok (.getfield 21, 3) := by decide +kernel
theorem dX4_missesMark_13 : decode cX4_missesMark 13 = .ok (.invokestatic 31, 3) := by decide +kernel
theorem dX4_missesMark_16 : decode cX4_missesMark 16 = .ok (.aload_n 0, 1) := by decide +kernel
theorem dX4_missesMark_17 : decode cX4_missesMark 17 = .ok (.getfield 24, 3) := by decide +kernel
theorem dX4_missesMark_20 : decode cX4_missesMark 20 = .ok (.if_icmp .ge 7, 3) := by decide +kernel
theorem dX4_missesMark_23 : decode cX4_missesMark 23 = .ok (.iconst 1, 1) := by decide +kernel
theorem dX4_missesMark_24 : decode cX4_missesMark 24 = .ok (.goto 4, 3) := by decide +kernel
theorem dX4_missesMark_27 : decode cX4_missesMark 27 = .ok (.iconst 0, 1) := by decide +kernel
theorem dX4_missesMark_28 : decode cX4_missesMark 28 = .ok (.ireturn, 1) := by decide +kernel
theorem dX5_init_0 : decode cX5_init 0 = .ok (.aload_n 0, 1) := by decide +kernel
theorem dX5_init_1 : decode cX5_init 1 = .ok (.invokespecial 3, 3) := by decide +kernel
theorem dX5_init_4 : decode cX5_init 4 = .ok (.aload_n 0, 1) := by decide +kernel
theorem dX5_init_5 : decode cX5_init 5 = .ok (.iconst 3, 1) := by decide +kernel
theorem dX5_init_6 : decode cX5_init 6 = .ok (.bipush 10, 2) := by decide +kernel
theorem dX5_init_8 : decode cX5_init 8 = .ok (.multianewarray 9 2, 4) := by decide +kernel
theorem dX5_init_12 : decode cX5_init 12 = .ok (.putfield 11, 3) := by decide +kernel
theorem dX5_init_15 : decode cX5_init 15 = .ok (.aload_n 0, 1) := by decide +kernel
theorem dX5_init_16 : decode cX5_init 16 = .ok (.iconst 3, 1) := by decide +kernel
theorem dX5_init_17 : decode cX5_init 17 = .ok (.bipush 10, 2) := by decide +kernel
theorem dX5_init_19 : decode cX5_init 19 = .ok (.multianewarray 9 2, 4) := by decide +kernel
theorem dX5_init_23 : decode cX5_init 23 = .ok (.putfield 16, 3) := by decide +kernel
theorem dX5_init_26 : decode cX5_init 26 = .ok (.aload_n 0, 1) := by decide +kernel
theorem dX5_init_27 : decode cX5_init 27 = .ok (.iconst 3, 1) := by decide +kernel
theorem dX5_init_28 : decode cX5_init 28 = .ok (.newarray .int, 2) := by decide +kernel
theorem dX5_init_30 : decode cX5_init 30 = .ok (.dup, 1) := by decide +kernel
theorem dX5_init_31 : decode cX5_init 31 = .ok (.iconst 0, 1) := by decide +kernel
theorem dX5_init_32 : decode cX5_init 32 = .ok (.bipush 20, 2) := by decide +kernel
theorem dX5_init_34 : decode cX5_init 34 = .ok (.iastore, 1) := by decide +kernel
theorem dX5_init_35 : decode cX5_init 35 = .ok (.dup, 1) := by decide +kernel
theorem dX5_init_36 : decode cX5_init 36 = .ok (.iconst 1, 1) := by decide +kernel
theorem dX5_init_37 : decode cX5_init 37 = .ok (.bipush 20, 2) := by decide +kernel
theorem dX5_init_39 : decode cX5_init 39 = .ok (.iastore, 1) := by decide +kernel
theorem dX5_init_40 : decode cX5_init 40 = .ok (.dup, 1) := by decide +kernel
theorem dX5_init_41 : decode cX5_init 41 = .ok (.iconst 2, 1) := by decide +kernel
theorem dX5_init_42 : decode cX5_init 42 = .ok (.bipush 20, 2) := by decide +kernel
theorem dX5_init_44 : decode cX5_init 44 = .ok (.iastore, 1) := by decide +kernel
theorem dX5_init_45 : decode cX5_init 45 = .ok (.putfield 19, 3) := by decide +kernel
theorem dX5_init_48 : decode cX5_init 48 = .ok (.aload_n 0, 1) := by decide +kernel
theorem dX5_init_49 : decode cX5_init 49 = .ok (.iconst 3, 1) := by decide +kernel
theorem dX5_init_50 : decode cX5_init 50 = .ok (.newarray .int, 2) := by decide +kernel
theorem dX5_init_52 : decode cX5_init 52 = .ok (.dup, 1) := by decide +kernel
theorem dX5_init_53 : decode cX5_init 53 = .ok (.iconst 0, 1) := by decide +kernel
theorem dX5_init_54 : decode cX5_init 54 = .ok (.iconst 1, 1) := by decide +kernel
theorem dX5_init_55 : decode cX5_init 55 = .ok (.iastore, 1) := by decide +kernel
theorem dX5_init_56 : decode cX5_init 56 = .ok (.dup, 1) := by decide +kernel
theorem dX5_init_57 : decode cX5_init 57 = .ok (.iconst 1, 1) := by decide +kernel
theorem dX5_init_58 : decode cX5_init 58 = .ok (.iconst 1, 1) := by decide +kernel
theorem dX5_init_59 : decode cX5_init 59 = .ok (.iastore, 1) := by decide +kernel
theorem dX5_init_60 : decode cX5_init 60 = .ok (.dup, 1) := by decide +kernel
theorem dX5_init_61 : decode cX5_init 61 = .ok (.iconst 2, 1) := by decide +kernel
theorem dX5_init_62 : decode cX5_init 62 = .ok (.iconst 1, 1) := by decide +kernel
theorem dX5_init_63 : decode cX5_init 63 = .ok (.iastore, 1) := by decide +kernel
theorem dX5_init_64 : decode cX5_init 64 = .ok (.putfield 23, 3) := by decide +kernel
theorem dX5_init_67 : decode cX5_init 67 = .ok (.return_, 1) := by decide +kernel
theorem dX5_tell_0 : decode cX5_tell 0 = .ok (.aload_n 0, 1) := by decide +kernel
theorem dX5_tell_1 : decode cX5_tell 1 = .ok (.getfield 11, 3) := by decide +kernel
theorem dX5_tell_4 : decode cX5_tell 4 = .ok (.iload_n 2, 1) := by decide +kernel
theorem dX5_tell_5 : decode cX5_tell 5 = .ok (.aaload, 1) := by decide +kernel
theorem dX5_tell_6 : decode cX5_tell 6 = .ok (.iload_n 1, 1) := by decide +kernel
theorem dX5_tell_7 : decode cX5_tell 7 = .ok (.iload_n 3, 1) := by decide +kernel
theorem dX5_tell_8 : decode cX5_tell 8 = .ok (.iastore, 1) := by decide +kernel
theorem dX5_tell_9 : decode cX5_tell 9 = .ok (.aload_n 0, 1) := by decide +kernel
theorem dX5_tell_10 : decode cX5_tell 10 = .ok (.getfield 16, 3) := by decide +kernel
theorem dX5_tell_13 : decode cX5_tell 13 = .ok (.iload_n 2, 1) := by decide +kernel
theorem dX5_tell_14 : decode cX5_tell 14 = .ok (.aaload, 1) := by decide +kernel
theorem dX5_tell_15 : decode cX5_tell 15 = .ok (.iload_n 1, 1) := by decide +kernel
theorem dX5_tell_16 : decode cX5_tell 16 = .ok (.iload 4, 2) := by decide +kernel
theorem dX5_tell_18 : decode cX5_tell 18 = .ok (.iastore, 1) := by decide +kernel
theorem dX5_tell_19 : decode cX5_tell 19 = .ok (.return_, 1) := by decide +kernel
theorem dX5_regulate_0 : decode cX5_regulate 0 = .ok (.aload_n 0, 1) := by decide +kernel
theorem dX5_regulate_1 : decode cX5_regulate 1 = .ok (.getfield 19, 3) := by decide +kernel
theorem dX5_regulate_4 : decode cX5_regulate 4 = .ok (.iload_n 1, 1) := by decide +kernel
theorem dX5_regulate_5 : decode cX5_regulate 5 = .ok (.iload_n 2, 1) := by decide +kernel
theorem dX5_regulate_6 : decode cX5_regulate 6 = .ok (.iastore, 1) := by decide +kernel
theorem dX5_regulate_7 : decode cX5_regulate 7 = .ok (.aload_n 0, 1) := by decide +kernel
theorem dX5_regulate_8 : decode cX5_regulate 8 = .ok (.getfield 23, 3) := by decide +kernel
theorem dX5_regulate_11 : decode cX5_regulate 11 = .ok (.iload_n 1, 1) := by decide +kernel
theorem dX5_regulate_12 : decode cX5_regulate 12 = .ok (.iload_n 3, 1) := by decide +kernel
theorem dX5_regulate_13 : decode cX5_regulate 13 = .ok (.iastore, 1) := by decide +kernel
theorem dX5_regulate_14 : decode cX5_regulate 14 = .ok (.return_, 1) := by decide +kernel
theorem dX5_valueOf_0 : decode cX5_valueOf 0 = .ok (.iload_n 3, 1) := by decide +kernel
theorem dX5_valueOf_1 : decode cX5_valueOf 1 = .ok (.aload_n 0, 1) := by decide +kernel
theorem dX5_valueOf_2 : decode cX5_valueOf 2 = .ok (.getfield 16, 3) := by decide +kernel
theorem dX5_valueOf_5 : decode cX5_valueOf 5 = .ok (.iload_n 2, 1) := by decide +kernel
theorem dX5_valueOf_6 : decode cX5_valueOf 6 = .ok (.aaload, 1) := by decide +kernel
theorem dX5_valueOf_7 : decode cX5_valueOf 7 = .ok (.iload_n 1, 1) := by decide +kernel
theorem dX5_valueOf_8 : decode cX5_valueOf 8 = .ok (.iaload, 1) := by decide +kernel
theorem dX5_valueOf_9 : decode cX5_valueOf 9 = .ok (.isub, 1) := by decide +kernel
theorem dX5_valueOf_10 : decode cX5_valueOf 10 = .ok (.aload_n 0, 1) := by decide +kernel
theorem dX5_valueOf_11 : decode cX5_valueOf 11 = .ok (.getfield 19, 3) := by decide +kernel
theorem dX5_valueOf_14 : decode cX5_valueOf 14 = .ok (.iload_n 2, 1) := by decide +kernel
theorem dX5_valueOf_15 : decode cX5_valueOf 15 = .ok (.iaload, 1) := by decide +kernel
theorem dX5_valueOf_16 : decode cX5_valueOf 16 = .ok (.if_icmp .gt 7, 3) := by decide +kernel
theorem dX5_valueOf_19 : decode cX5_valueOf 19 = .ok (.iconst 1, 1) := by decide +kernel
theorem dX5_valueOf_20 : decode cX5_valueOf 20 = .ok (.goto 4, 3) := by decide +kernel
theorem dX5_valueOf_23 : decode cX5_valueOf 23 = .ok (.iconst 0, 1) := by decide +kernel
theorem dX5_valueOf_24 : decode cX5_valueOf 24 = .ok (.istore 4, 2) := by decide +kernel
theorem dX5_valueOf_26 : decode cX5_valueOf 26 = .ok (.iload 4, 2) := by decide +kernel
theorem dX5_valueOf_28 : decode cX5_valueOf 28 = .ok (.ifCond .eq 14, 3) := by decide +kernel
theorem dX5_valueOf_31 : decode cX5_valueOf 31 = .ok (.aload_n 0, 1) := by decide +kernel
theorem dX5_valueOf_32 : decode cX5_valueOf 32 = .ok (.getfield 11, 3) := by decide +kernel
theorem dX5_valueOf_35 : decode cX5_valueOf 35 = .ok (.iload_n 2, 1) := by decide +kernel
theorem dX5_valueOf_36 : decode cX5_valueOf 36 = .ok (.aaload, 1) := by decide +kernel
theorem dX5_valueOf_37 : decode cX5_valueOf 37 = .ok (.iload_n 1, 1) := by decide +kernel
theorem dX5_valueOf_38 : decode cX5_valueOf 38 = .ok (.iaload, 1) := by decide +kernel
theorem dX5_valueOf_39 : decode cX5_valueOf 39 = .ok (.goto 4, 3) := by decide +kernel
theorem dX5_valueOf_42 : decode cX5_valueOf 42 = .ok (.iconst 0, 1) := by decide +kernel
theorem dX5_valueOf_43 : decode cX5_valueOf 43 = .ok (.ireturn, 1) := by decide +kernel
theorem dX5_sureOf_0 : decode cX5_sureOf 0 = .ok (.iconst 0, 1) := by decide +kernel
theorem dX5_sureOf_1 : decode cX5_sureOf 1 = .ok (.istore_n 2, 1) := by decide +kernel
theorem dX5_sureOf_2 : decode cX5_sureOf 2 = .ok (.iconst 0, 1) := by decide +kernel
theorem dX5_sureOf_3 : decode cX5_sureOf 3 = .ok (.istore_n 3, 1) := by decide +kernel
theorem dX5_sureOf_4 : decode cX5_sureOf 4 = .ok (.iload_n 3, 1) := by decide +kernel
theorem dX5_sureOf_5 : decode cX5_sureOf 5 = .ok (.iconst 3, 1) := by decide +kernel
theorem dX5_sureOf_6 : decode cX5_sureOf 6 = .ok (.if_icmp .ge 24, 3) := by decide +kernel
theorem dX5_sureOf_9 : decode cX5_sureOf 9 = .ok (.iload_n 2, 1) := by decide +kernel
theorem dX5_sureOf_10 : decode cX5_sureOf 10 = .ok (.iload_n 1, 1) := by decide +kernel
theorem dX5_sureOf_11 : decode cX5_sureOf 11 = .ok (.iload_n 3, 1) := by decide +kernel
theorem dX5_sureOf_12 : decode cX5_sureOf 12 = .ok (.invokestatic 26, 3) := by decide +kernel
theorem dX5_sureOf_15 : decode cX5_sureOf 15 = .ok (.aload_n 0, 1) := by decide +kernel
theorem dX5_sureOf_16 : decode cX5_sureOf 16 = .ok (.getfield 23, 3) := by decide +kernel
theorem dX5_sureOf_19 : decode cX5_sureOf 19 = .ok (.iload_n 3, 1) := by decide +kernel
theorem dX5_sureOf_20 : decode cX5_sureOf 20 = .ok (.iaload, 1) := by decide +kernel
theorem dX5_sureOf_21 : decode cX5_sureOf 21 = .ok (.imul, 1) := by decide +kernel
theorem dX5_sureOf_22 : decode cX5_sureOf 22 = .ok (.iadd, 1) := by decide +kernel
theorem dX5_sureOf_23 : decode cX5_sureOf 23 = .ok (.istore_n 2, 1) := by decide +kernel
theorem dX5_sureOf_24 : decode cX5_sureOf 24 = .ok (.iinc 3 1, 3) := by decide +kernel
theorem dX5_sureOf_27 : decode cX5_sureOf 27 = .ok (.goto (-23), 3) := by decide +kernel
theorem dX5_sureOf_30 : decode cX5_sureOf 30 = .ok (.iload_n 2, 1) := by decide +kernel
theorem dX5_sureOf_31 : decode cX5_sureOf 31 = .ok (.ireturn, 1) := by decide +kernel
theorem dX6_init_0 : decode cX6_init 0 = .ok (.aload_n 0, 1) := by decide +kernel
theorem dX6_init_1 : decode cX6_init 1 = .ok (.invokespecial 3, 3) := by decide +kernel
theorem dX6_init_4 : decode cX6_init 4 = .ok (.aload_n 0, 1) := by decide +kernel
theorem dX6_init_5 : decode cX6_init 5 = .ok (.iload_n 1, 1) := by decide +kernel
theorem dX6_init_6 : decode cX6_init 6 = .ok (.sipush 10000, 3) := by decide +kernel
theorem dX6_init_9 : decode cX6_init 9 = .ok (.idiv, 1) := by decide +kernel
theorem dX6_init_10 : decode cX6_init 10 = .ok (.putfield 9, 3) := by decide +kernel
theorem dX6_init_13 : decode cX6_init 13 = .ok (.aload_n 0, 1) := by decide +kernel
theorem dX6_init_14 : decode cX6_init 14 = .ok (.iload_n 1, 1) := by decide +kernel
theorem dX6_init_15 : decode cX6_init 15 = .ok (.sipush 1000, 3) := by decide +kernel
theorem dX6_init_18 : decode cX6_init 18 = .ok (.idiv, 1) := by decide +kernel
theorem dX6_init_19 : decode cX6_init 19 = .ok (.bipush 10, 2) := by decide +kernel
theorem dX6_init_21 : decode cX6_init 21 = .ok (.irem, 1) := by decide +kernel
theorem dX6_init_22 : decode cX6_init 22 = .ok (.putfield 15, 3) := by decide +kernel
theorem dX6_init_25 : decode cX6_init 25 = .ok (.aload_n 0, 1) := by decide +kernel
theorem dX6_init_26 : decode cX6_init 26 = .ok (.iload_n 1, 1) := by decide +kernel
theorem dX6_init_27 : decode cX6_init 27 = .ok (.bipush 100, 2) := by decide +kernel
theorem dX6_init_29 : decode cX6_init 29 = .ok (.idiv, 1) := by decide +kernel
theorem dX6_init_30 : decode cX6_init 30 = .ok (.bipush 10, 2) := by decide +kernel
theorem dX6_init_32 : decode cX6_init 32 = .ok (.irem, 1) := by decide +kernel
theorem dX6_init_33 : decode cX6_init 33 = .ok (.putfield 18, 3) := by decide +kernel
theorem dX6_init_36 : decode cX6_init 36 = .ok (.aload_n 0, 1) := by decide +kernel
theorem dX6_init_37 : decode cX6_init 37 = .ok (.iload_n 1, 1) := by decide +kernel
theorem dX6_init_38 : decode cX6_init 38 = .ok (.bipush 100, 2) := by decide +kernel
theorem dX6_init_40 : decode cX6_init 40 = .ok (.irem, 1) := by decide +kernel
theorem dX6_init_41 : decode cX6_init 41 = .ok (.putfield 21, 3) := by decide +kernel
theorem dX6_init_44 : decode cX6_init 44 = .ok (.aload_n 0, 1) := by decide +kernel
theorem dX6_init_45 : decode cX6_init 45 = .ok (.iload_n 2, 1) := by decide +kernel
theorem dX6_init_46 : decode cX6_init 46 = .ok (.sipush 10000, 3) := by decide +kernel
theorem dX6_init_49 : decode cX6_init 49 = .ok (.idiv, 1) := by decide +kernel
theorem dX6_init_50 : decode cX6_init 50 = .ok (.putfield 24, 3) := by decide +kernel
theorem dX6_init_53 : decode cX6_init 53 = .ok (.aload_n 0, 1) := by decide +kernel
theorem dX6_init_54 : decode cX6_init 54 = .ok (.iload_n 2, 1) := by decide +kernel
theorem dX6_init_55 : decode cX6_init 55 = .ok (.bipush 100, 2) := by decide +kernel
theorem dX6_init_57 : decode cX6_init 57 = .ok (.idiv, 1) := by decide +kernel
theorem dX6_init_58 : decode cX6_init 58 = .ok (.bipush 100, 2) := by decide +kernel
theorem dX6_init_60 : decode cX6_init 60 = .ok (.irem, 1) := by decide +kernel
theorem dX6_init_61 : decode cX6_init 61 = .ok (.putfield 27, 3) := by decide +kernel
theorem dX6_init_64 : decode cX6_init 64 = .ok (.aload_n 0, 1) := by decide +kernel
theorem dX6_init_65 : decode cX6_init 65 = .ok (.iload_n 2, 1) := by decide +kernel
theorem dX6_init_66 : decode cX6_init 66 = .ok (.bipush 10, 2) := by decide +kernel
theorem dX6_init_68 : decode cX6_init 68 = .ok (.idiv, 1) := by decide +kernel
theorem dX6_init_69 : decode cX6_init 69 = .ok (.bipush 10, 2) := by decide +kernel
theorem dX6_init_71 : decode cX6_init 71 = .ok (.irem, 1) := by decide +kernel
theorem dX6_init_72 : decode cX6_init 72 = .ok (.putfield 30, 3) := by decide +kernel
theorem dX6_init_75 : decode cX6_init 75 = .ok (.aload_n 0, 1) := by decide +kernel
theorem dX6_init_76 : decode cX6_init 76 = .ok (.iload_n 2, 1) := by decide +kernel
theorem dX6_init_77 : decode cX6_init 77 = .ok (.bipush 10, 2) := by decide +kernel
theorem dX6_init_79 : decode cX6_init 79 = .ok (.irem, 1) := by decide +kernel
theorem dX6_init_80 : decode cX6_init 80 = .ok (.putfield 33, 3) := by decide +kernel
theorem dX6_init_83 : decode cX6_init 83 = .ok (.aload_n 0, 1) := by decide +kernel
theorem dX6_init_84 : decode cX6_init 84 = .ok (.iload_n 3, 1) := by decide +kernel
theorem dX6_init_85 : decode cX6_init 85 = .ok (.putfield 36, 3) := by decide +kernel
theorem dX6_init_88 : decode cX6_init 88 = .ok (.return_, 1) := by decide +kernel
theorem dX6_canBe_0 : decode cX6_canBe 0 = .ok (.iload_n 0, 1) := by decide +kernel
theorem dX6_canBe_1 : decode cX6_canBe 1 = .ok (.invokestatic 39, 3) := by decide +kernel
theorem dX6_canBe_4 : decode cX6_canBe 4 = .ok (.ifCond .eq 23, 3) := by decide +kernel
theorem dX6_canBe_7 : decode cX6_canBe 7 = .ok (.iload_n 1, 1) := by decide +kernel
theorem dX6_canBe_8 : decode cX6_canBe 8 = .ok (.invokestatic 43, 3) := by decide +kernel
theorem dX6_canBe_11 : decode cX6_canBe 11 = .ok (.ifCond .eq 16, 3) := by decide +kernel
theorem dX6_canBe_14 : decode cX6_canBe 14 = .ok (.iload_n 2, 1) := by decide +kernel
theorem dX6_canBe_15 : decode cX6_canBe 15 = .ok (.ifCond .eq 8, 3) := by decide +kernel
theorem dX6_canBe_18 : decode cX6_canBe 18 = .ok (.iload_n 2, 1) := by decide +kernel
theorem dX6_canBe_19 : decode cX6_canBe 19 = .ok (.iconst 2, 1) := by decide +kernel
theorem dX6_canBe_20 : decode cX6_canBe 20 = .ok (.if_icmp .ne 7, 3) := by decide +kernel
theorem dX6_canBe_23 : decode cX6_canBe 23 = .ok (.iconst 1, 1) := by decide +kernel
theorem dX6_canBe_24 : decode cX6_canBe 24 = .ok (.goto 4, 3) := by decide +kernel
theorem dX6_canBe_27 : decode cX6_canBe 27 = .ok (.iconst 0, 1) := by decide +kernel
theorem dX6_canBe_28 : decode cX6_canBe 28 = .ok (.ireturn, 1) := by decide +kernel
theorem dX6_canAsk_0 : decode cX6_canAsk 0 = .ok (.iload_n 0, 1) := by decide +kernel
theorem dX6_canAsk_1 : decode cX6_canAsk 1 = .ok (.ifCond .lt 40, 3) := by decide +kernel
theorem dX6_canAsk_4 : decode cX6_canAsk 4 = .ok (.iload_n 0, 1) := by decide +kernel
theorem dX6_canAsk_5 : decode cX6_canAsk 5 = .ok (.sipush 10000, 3) := by decide +kernel
theorem dX6_canAsk_8 : decode cX6_canAsk 8 = .ok (.idiv, 1) := by decide +kernel
theorem dX6_canAsk_9 : decode cX6_canAsk 9 = .ok (.bipush 16, 2) := by decide +kernel
theorem dX6_canAsk_11 : decode cX6_canAsk 11 = .ok (.if_icmp .ge 30, 3) := by decide +kernel
theorem dX6_canAsk_14 : decode cX6_canAsk 14 = .ok (.iload_n 0, 1) := by decide +kernel
theorem dX6_canAsk_15 : decode cX6_canAsk 15 = .ok (.sipush 1000, 3) := by decide +kernel
theorem dX6_canAsk_18 : decode cX6_canAsk 18 = .ok (.idiv, 1) := by decide +kernel
theorem dX6_canAsk_19 : decode cX6_canAsk 19 = .ok (.bipush 10, 2) := by decide +kernel
theorem dX6_canAsk_21 : decode cX6_canAsk 21 = .ok (.irem, 1) := by decide +kernel
theorem dX6_canAsk_22 : decode cX6_canAsk 22 = .ok (.iconst 3, 1) := by decide +kernel
theorem dX6_canAsk_23 : decode cX6_canAsk 23 = .ok (.if_icmp .gt 18, 3) := by decide +kernel
theorem dX6_canAsk_26 : decode cX6_canAsk 26 = .ok (.iload_n 0, 1) := by decide +kernel
theorem dX6_canAsk_27 : decode cX6_canAsk 27 = .ok (.bipush 100, 2) := by decide +kernel
theorem dX6_canAsk_29 : decode cX6_canAsk 29 = .ok (.idiv, 1) := by decide +kernel
theorem dX6_canAsk_30 : decode cX6_canAsk 30 = .ok (.bipush 10, 2) := by decide +kernel
theorem dX6_canAsk_32 : decode cX6_canAsk 32 = .ok (.irem, 1) := by decide +kernel
theorem dX6_canAsk_33 : decode cX6_canAsk 33 = .ok (.iconst 3, 1) := by decide +kernel
theorem dX6_canAsk_34 : decode cX6_canAsk 34 = .ok (.if_icmp .gt 7, 3) := by decide +kernel
theorem dX6_canAsk_37 : decode cX6_canAsk 37 = .ok (.iconst 1, 1) := by decide +kernel
theorem dX6_canAsk_38 : decode cX6_canAsk 38 = .ok (.goto 4, 3) := by decide +kernel
theorem dX6_canAsk_41 : decode cX6_canAsk 41 = .ok (.iconst 0, 1) := by decide +kernel
theorem dX6_canAsk_42 : decode cX6_canAsk 42 = .ok (.ireturn, 1) := by decide +kernel
theorem dX6_canStand_0 : decode cX6_canStand 0 = .ok (.iload_n 0, 1) := by decide +kernel
theorem dX6_canStand_1 : decode cX6_canStand 1 = .ok (.ifCond .lt 51, 3) := by decide +kernel
theorem dX6_canStand_4 : decode cX6_canStand 4 = .ok (.iload_n 0, 1) := by decide +kernel
theorem dX6_canStand_5 : decode cX6_canStand 5 = .ok (.sipush 10000, 3) := by decide +kernel
theorem dX6_canStand_8 : decode cX6_canStand 8 = .ok (.idiv, 1) := by decide +kernel
theorem dX6_canStand_9 : decode cX6_canStand 9 = .ok (.bipush 16, 2) := by decide +kernel
theorem dX6_canStand_11 : decode cX6_canStand 11 = .ok (.if_icmp .ge 41, 3) := by decide +kernel
theorem dX6_canStand_14 : decode cX6_canStand 14 = .ok (.iload_n 0, 1) := by decide +kernel
theorem dX6_canStand_15 : decode cX6_canStand 15 = .ok (.bipush 100, 2) := by decide +kernel
theorem dX6_canStand_17 : decode cX6_canStand 17 = .ok (.idiv, 1) := by decide +kernel
theorem dX6_canStand_18 : decode cX6_canStand 18 = .ok (.bipush 100, 2) := by decide +kernel
theorem dX6_canStand_20 : decode cX6_canStand 20 = .ok (.irem, 1) := by decide +kernel
theorem dX6_canStand_21 : decode cX6_canStand 21 = .ok (.bipush 16, 2) := by decide +kernel
theorem dX6_canStand_23 : decode cX6_canStand 23 = .ok (.if_icmp .ge 29, 3) := by decide +kernel
theorem dX6_canStand_26 : decode cX6_canStand 26 = .ok (.iload_n 0, 1) := by decide +kernel
theorem dX6_canStand_27 : decode cX6_canStand 27 = .ok (.bipush 10, 2) := by decide +kernel
theorem dX6_canStand_29 : decode cX6_canStand 29 = .ok (.idiv, 1) := by decide +kernel
theorem dX6_canStand_30 : decode cX6_canStand 30 = .ok (.bipush 10, 2) := by decide +kernel
theorem dX6_canStand_32 : decode cX6_canStand 32 = .ok (.irem, 1) := by decide +kernel
theorem dX6_canStand_33 : decode cX6_canStand 33 = .ok (.iload_n 0, 1) := by decide +kernel
theorem dX6_canStand_34 : decode cX6_canStand 34 = .ok (.bipush 10, 2) := by decide +kernel
theorem dX6_canStand_36 : decode cX6_canStand 36 = .ok (.irem, 1) := by decide +kernel
theorem dX6_canStand_37 : decode cX6_canStand 37 = .ok (.if_icmp .gt 15, 3) := by decide +kernel
theorem dX6_canStand_40 : decode cX6_canStand 40 = .ok (.iload_n 0, 1) := by decide +kernel
theorem dX6_canStand_41 : decode cX6_canStand 41 = .ok (.bipush 10, 2) := by decide +kernel
theorem dX6_canStand_43 : decode cX6_canStand 43 = .ok (.irem, 1) := by decide +kernel
theorem dX6_canStand_44 : decode cX6_canStand 44 = .ok (.iconst 5, 1) := by decide +kernel
theorem dX6_canStand_45 : decode cX6_canStand 45 = .ok (.if_icmp .ge 7, 3) := by decide +kernel
theorem dX6_canStand_48 : decode cX6_canStand 48 = .ok (.iconst 1, 1) := by decide +kernel
theorem dX6_canStand_49 : decode cX6_canStand 49 = .ok (.goto 4, 3) := by decide +kernel
theorem dX6_canStand_52 : decode cX6_canStand 52 = .ok (.iconst 0, 1) := by decide +kernel
theorem dX6_canStand_53 : decode cX6_canStand 53 = .ok (.ireturn, 1) := by decide +kernel
theorem dX6_fits_0 : decode cX6_fits 0 = .ok (.aload_n 0, 1) := by decide +kernel
theorem dX6_fits_1 : decode cX6_fits 1 = .ok (.iload_n 1, 1) := by decide +kernel
theorem dX6_fits_2 : decode cX6_fits 2 = .ok (.invokestatic 46, 3) := by decide +kernel
theorem dX6_fits_5 : decode cX6_fits 5 = .ok (.invokevirtual 50, 3) := by decide +kernel
theorem dX6_fits_8 : decode cX6_fits 8 = .ok (.ifCond .eq 30, 3) := by decide +kernel
theorem dX6_fits_11 : decode cX6_fits 11 = .ok (.aload_n 0, 1) := by decide +kernel
theorem dX6_fits_12 : decode cX6_fits 12 = .ok (.iload_n 1, 1) := by decide +kernel
theorem dX6_fits_13 : decode cX6_fits 13 = .ok (.invokestatic 53, 3) := by decide +kernel
theorem dX6_fits_16 : decode cX6_fits 16 = .ok (.iload_n 2, 1) := by decide +kernel
theorem dX6_fits_17 : decode cX6_fits 17 = .ok (.invokevirtual 56, 3) := by decide +kernel
theorem dX6_fits_20 : decode cX6_fits 20 = .ok (.ifCond .eq 18, 3) := by decide +kernel
theorem dX6_fits_23 : decode cX6_fits 23 = .ok (.aload_n 0, 1) := by decide +kernel
theorem dX6_fits_24 : decode cX6_fits 24 = .ok (.iload_n 1, 1) := by decide +kernel
theorem dX6_fits_25 : decode cX6_fits 25 = .ok (.invokestatic 60, 3) := by decide +kernel
theorem dX6_fits_28 : decode cX6_fits 28 = .ok (.invokevirtual 63, 3) := by decide +kernel
theorem dX6_fits_31 : decode cX6_fits 31 = .ok (.ifCond .eq 7, 3) := by decide +kernel
theorem dX6_fits_34 : decode cX6_fits 34 = .ok (.iconst 1, 1) := by decide +kernel
theorem dX6_fits_35 : decode cX6_fits 35 = .ok (.goto 4, 3) := by decide +kernel
theorem dX6_fits_38 : decode cX6_fits 38 = .ok (.iconst 0, 1) := by decide +kernel
theorem dX6_fits_39 : decode cX6_fits 39 = .ok (.ireturn, 1) := by decide +kernel
theorem dX6_fitsRoles_0 : decode cX6_fitsRoles 0 = .ok (.iload_n 1, 1) := by decide +kernel
theorem dX6_fitsRoles_1 : decode cX6_fitsRoles 1 = .ok (.aload_n 0, 1) := by decide +kernel
theorem dX6_fitsRoles_2 : decode cX6_fitsRoles 2 = .ok (.getfield 9, 3) := by decide +kernel
theorem dX6_fitsRoles_5 : decode cX6_fitsRoles 5 = .ok (.iand, 1) := by decide +kernel
theorem dX6_fitsRoles_6 : decode cX6_fitsRoles 6 = .ok (.aload_n 0, 1) := by decide +kernel
theorem dX6_fitsRoles_7 : decode cX6_fitsRoles 7 = .ok (.getfield 9, 3) := by decide +kernel
theorem dX6_fitsRoles_10 : decode cX6_fitsRoles 10 = .ok (.if_icmp .ne 7, 3) := by decide +kernel
theorem dX6_fitsRoles_13 : decode cX6_fitsRoles 13 = .ok (.iconst 1, 1) := by decide +kernel
theorem dX6_fitsRoles_14 : decode cX6_fitsRoles 14 = .ok (.goto 4, 3) := by decide +kernel
theorem dX6_fitsRoles_17 : decode cX6_fitsRoles 17 = .ok (.iconst 0, 1) := by decide +kernel
theorem dX6_fitsRoles_18 : decode cX6_fitsRoles 18 = .ok (.ireturn, 1) := by decide +kernel
theorem dX6_fitsMarks_0 : decode cX6_fitsMarks 0 = .ok (.iload_n 2, 1) := by decide +kernel
theorem dX6_fitsMarks_1 : decode cX6_fitsMarks 1 = .ok (.aload_n 0, 1) := by decide +kernel
theorem dX6_fitsMarks_2 : decode cX6_fitsMarks 2 = .ok (.getfield 21, 3) := by decide +kernel
theorem dX6_fitsMarks_5 : decode cX6_fitsMarks 5 = .ok (.if_icmp .lt 30, 3) := by decide +kernel
theorem dX6_fitsMarks_8 : decode cX6_fitsMarks 8 = .ok (.aload_n 0, 1) := by decide +kernel
theorem dX6_fitsMarks_9 : decode cX6_fitsMarks 9 = .ok (.getfield 15, 3) := by decide +kernel
theorem dX6_fitsMarks_12 : decode cX6_fitsMarks 12 = .ok (.iconst 3, 1) := by decide +kernel
theorem dX6_fitsMarks_13 : decode cX6_fitsMarks 13 = .ok (.if_icmp .eq 18, 3) := by decide +kernel
theorem dX6_fitsMarks_16 : decode cX6_fitsMarks 16 = .ok (.iload_n 1, 1) := by decide +kernel
theorem dX6_fitsMarks_17 : decode cX6_fitsMarks 17 = .ok (.aload_n 0, 1) := by decide +kernel
theorem dX6_fitsMarks_18 : decode cX6_fitsMarks 18 = .ok (.getfield 15, 3) := by decide +kernel
theorem dX6_fitsMarks_21 : decode cX6_fitsMarks 21 = .ok (.invokestatic 66, 3) := by decide +kernel
theorem dX6_fitsMarks_24 : decode cX6_fitsMarks 24 = .ok (.aload_n 0, 1) := by decide +kernel
theorem dX6_fitsMarks_25 : decode cX6_fitsMarks 25 = .ok (.getfield 18, 3) := by decide +kernel
theorem dX6_fitsMarks_28 : decode cX6_fitsMarks 28 = .ok (.if_icmp .lt 7, 3) := by decide +kernel
theorem dX6_fitsMarks_31 : decode cX6_fitsMarks 31 = .ok (.iconst 1, 1) := by decide +kernel
theorem dX6_fitsMarks_32 : decode cX6_fitsMarks 32 = .ok (.goto 4, 3) := by decide +kernel
theorem dX6_fitsMarks_35 : decode cX6_fitsMarks 35 = .ok (.iconst 0, 1) := by decide +kernel
theorem dX6_fitsMarks_36 : decode cX6_fitsMarks 36 = .ok (.ireturn, 1) := by decide +kernel
theorem dX6_fitsSpot_0 : decode cX6_fitsSpot 0 = .ok (.iload_n 1, 1) := by decide +kernel
theorem dX6_fitsSpot_1 : decode cX6_fitsSpot 1 = .ok (.iconst 5, 1) := by decide +kernel
theorem dX6_fitsSpot_2 : decode cX6_fitsSpot 2 = .ok (.irem, 1) := by decide +kernel
theorem dX6_fitsSpot_3 : decode cX6_fitsSpot 3 = .ok (.istore_n 2, 1) := by decide +kernel
theorem dX6_fitsSpot_4 : decode cX6_fitsSpot 4 = .ok (.aload_n 0, 1) := by decide +kernel
theorem dX6_fitsSpot_5 : decode cX6_fitsSpot 5 = .ok (.getfield 24, 3) := by decide +kernel
theorem dX6_fitsSpot_8 : decode cX6_fitsSpot 8 = .ok (.iload_n 1, 1) := by decide +kernel
theorem dX6_fitsSpot_9 : decode cX6_fitsSpot 9 = .ok (.bipush 20, 2) := by decide +kernel
theorem dX6_fitsSpot_11 : decode cX6_fitsSpot 11 = .ok (.idiv, 1) := by decide +kernel
theorem dX6_fitsSpot_12 : decode cX6_fitsSpot 12 = .ok (.invokestatic 70, 3) := by decide +kernel
theorem dX6_fitsSpot_15 : decode cX6_fitsSpot 15 = .ok (.ifCond .eq 38, 3) := by decide +kernel
theorem dX6_fitsSpot_18 : decode cX6_fitsSpot 18 = .ok (.aload_n 0, 1) := by decide +kernel
theorem dX6_fitsSpot_19 : decode cX6_fitsSpot 19 = .ok (.getfield 27, 3) := by decide +kernel
theorem dX6_fitsSpot_22 : decode cX6_fitsSpot 22 = .ok (.iload_n 1, 1) := by decide +kernel
theorem dX6_fitsSpot_23 : decode cX6_fitsSpot 23 = .ok (.iconst 5, 1) := by decide +kernel
theorem dX6_fitsSpot_24 : decode cX6_fitsSpot 24 = .ok (.idiv, 1) := by decide +kernel
theorem dX6_fitsSpot_25 : decode cX6_fitsSpot 25 = .ok (.iconst 4, 1) := by decide +kernel
theorem dX6_fitsSpot_26 : decode cX6_fitsSpot 26 = .ok (.irem, 1) := by decide +kernel
theorem dX6_fitsSpot_27 : decode cX6_fitsSpot 27 = .ok (.invokestatic 70, 3) := by decide +kernel
theorem dX6_fitsSpot_30 : decode cX6_fitsSpot 30 = .ok (.ifCond .eq 23, 3) := by decide +kernel
theorem dX6_fitsSpot_33 : decode cX6_fitsSpot 33 = .ok (.aload_n 0, 1) := by decide +kernel
theorem dX6_fitsSpot_34 : decode cX6_fitsSpot 34 = .ok (.getfield 30, 3) := by decide +kernel
theorem dX6_fitsSpot_37 : decode cX6_fitsSpot 37 = .ok (.iload_n 2, 1) := by decide +kernel
theorem dX6_fitsSpot_38 : decode cX6_fitsSpot 38 = .ok (.if_icmp .gt 15, 3) := by decide +kernel
theorem dX6_fitsSpot_41 : decode cX6_fitsSpot 41 = .ok (.iload_n 2, 1) := by decide +kernel
theorem dX6_fitsSpot_42 : decode cX6_fitsSpot 42 = .ok (.aload_n 0, 1) := by decide +kernel
theorem dX6_fitsSpot_43 : decode cX6_fitsSpot 43 = .ok (.getfield 33, 3) := by decide +kernel
theorem dX6_fitsSpot_46 : decode cX6_fitsSpot 46 = .ok (.if_icmp .gt 7, 3) := by decide +kernel
theorem dX6_fitsSpot_49 : decode cX6_fitsSpot 49 = .ok (.iconst 1, 1) := by decide +kernel
theorem dX6_fitsSpot_50 : decode cX6_fitsSpot 50 = .ok (.goto 4, 3) := by decide +kernel
theorem dX6_fitsSpot_53 : decode cX6_fitsSpot 53 = .ok (.iconst 0, 1) := by decide +kernel
theorem dX6_fitsSpot_54 : decode cX6_fitsSpot 54 = .ok (.ireturn, 1) := by decide +kernel
theorem dX7_init_0 : decode cX7_init 0 = .ok (.aload_n 0, 1) := by decide +kernel
theorem dX7_init_1 : decode cX7_init 1 = .ok (.invokespecial 3, 3) := by decide +kernel
theorem dX7_init_4 : decode cX7_init 4 = .ok (.aload_n 0, 1) := by decide +kernel
theorem dX7_init_5 : decode cX7_init 5 = .ok (.bipush 16, 2) := by decide +kernel
theorem dX7_init_7 : decode cX7_init 7 = .ok (.newarray .int, 2) := by decide +kernel
theorem dX7_init_9 : decode cX7_init 9 = .ok (.putfield 9, 3) := by decide +kernel
theorem dX7_init_12 : decode cX7_init 12 = .ok (.aload_n 0, 1) := by decide +kernel
theorem dX7_init_13 : decode cX7_init 13 = .ok (.bipush 64, 2) := by decide +kernel
theorem dX7_init_15 : decode cX7_init 15 = .ok (.newarray .int, 2) := by decide +kernel
theorem dX7_init_17 : decode cX7_init 17 = .ok (.putfield 15, 3) := by decide +kernel
theorem dX7_init_20 : decode cX7_init 20 = .ok (.aload_n 0, 1) := by decide +kernel
theorem dX7_init_21 : decode cX7_init 21 = .ok (.bipush 80, 2) := by decide +kernel
theorem dX7_init_23 : decode cX7_init 23 = .ok (.newarray .int, 2) := by decide +kernel
theorem dX7_init_25 : decode cX7_init 25 = .ok (.putfield 18, 3) := by decide +kernel
theorem dX7_init_28 : decode cX7_init 28 = .ok (.aload_n 0, 1) := by decide +kernel
theorem dX7_init_29 : decode cX7_init 29 = .ok (.bipush 64, 2) := by decide +kernel
theorem dX7_init_31 : decode cX7_init 31 = .ok (.newarray .int, 2) := by decide +kernel
theorem dX7_init_33 : decode cX7_init 33 = .ok (.putfield 21, 3) := by decide +kernel
theorem dX7_init_36 : decode cX7_init 36 = .ok (.return_, 1) := by decide +kernel
theorem dX7_sift_0 : decode cX7_sift 0 = .ok (.aload_n 0, 1) := by decide +kernel
theorem dX7_sift_1 : decode cX7_sift 1 = .ok (.iconst 0, 1) := by decide +kernel
theorem dX7_sift_2 : decode cX7_sift 2 = .ok (.putfield 24, 3) := by decide +kernel
theorem dX7_sift_5 : decode cX7_sift 5 = .ok (.aload_n 0, 1) := by decide +kernel
theorem dX7_sift_6 : decode cX7_sift 6 = .ok (.getfield 9, 3) := by decide +kernel
theorem dX7_sift_9 : decode cX7_sift 9 = .ok (.iconst 0, 1) := by decide +kernel
theorem dX7_sift_10 : decode cX7_sift 10 = .ok (.invokestatic 28, 3) := by decide +kernel
theorem dX7_sift_13 : decode cX7_sift 13 = .ok (.aload_n 0, 1) := by decide +kernel
theorem dX7_sift_14 : decode cX7_sift 14 = .ok (.getfield 15, 3) := by decide +kernel
theorem dX7_sift_17 : decode cX7_sift 17 = .ok (.iconst 0, 1) := by decide +kernel
theorem dX7_sift_18 : decode cX7_sift 18 = .ok (.invokestatic 28, 3) := by decide +kernel
theorem dX7_sift_21 : decode cX7_sift 21 = .ok (.aload_n 0, 1) := by decide +kernel
theorem dX7_sift_22 : decode cX7_sift 22 = .ok (.getfield 18, 3) := by decide +kernel
theorem dX7_sift_25 : decode cX7_sift 25 = .ok (.iconst 0, 1) := by decide +kernel
theorem dX7_sift_26 : decode cX7_sift 26 = .ok (.invokestatic 28, 3) := by decide +kernel
theorem dX7_sift_29 : decode cX7_sift 29 = .ok (.iconst 0, 1) := by decide +kernel
theorem dX7_sift_30 : decode cX7_sift 30 = .ok (.istore_n 3, 1) := by decide +kernel
theorem dX7_sift_31 : decode cX7_sift 31 = .ok (.iload_n 3, 1) := by decide +kernel
theorem dX7_sift_32 : decode cX7_sift 32 = .ok (.bipush 64, 2) := by decide +kernel
theorem dX7_sift_34 : decode cX7_sift 34 = .ok (.if_icmp .ge 20, 3) := by decide +kernel
theorem dX7_sift_37 : decode cX7_sift 37 = .ok (.aload_n 0, 1) := by decide +kernel
theorem dX7_sift_38 : decode cX7_sift 38 = .ok (.getfield 21, 3) := by decide +kernel
theorem dX7_sift_41 : decode cX7_sift 41 = .ok (.iload_n 3, 1) := by decide +kernel
theorem dX7_sift_42 : decode cX7_sift 42 = .ok (.aload_n 2, 1) := by decide +kernel
theorem dX7_sift_43 : decode cX7_sift 43 = .ok (.iload_n 3, 1) := by decide +kernel
theorem dX7_sift_44 : decode cX7_sift 44 = .ok (.invokevirtual 34, 3) := by decide +kernel
theorem dX7_sift_47 : decode cX7_sift 47 = .ok (.iastore, 1) := by decide +kernel
theorem dX7_sift_48 : decode cX7_sift 48 = .ok (.iinc 3 1, 3) := by decide +kernel
theorem dX7_sift_51 : decode cX7_sift 51 = .ok (.goto (-20), 3) := by decide +kernel
theorem dX7_sift_54 : decode cX7_sift 54 = .ok (.iconst 0, 1) := by decide +kernel
theorem dX7_sift_55 : decode cX7_sift 55 = .ok (.istore_n 3, 1) := by decide +kernel
theorem dX7_sift_56 : decode cX7_sift 56 = .ok (.iload_n 3, 1) := by decide +kernel
theorem dX7_sift_57 : decode cX7_sift 57 = .ok (.aload_n 1, 1) := by decide +kernel
theorem dX7_sift_58 : decode cX7_sift 58 = .ok (.getfield 40, 3) := by decide +kernel
theorem dX7_sift_61 : decode cX7_sift 61 = .ok (.if_icmp .ge 30, 3) := by decide +kernel
theorem dX7_sift_64 : decode cX7_sift 64 = .ok (.aload_n 1, 1) := by decide +kernel
theorem dX7_sift_65 : decode cX7_sift 65 = .ok (.iload_n 3, 1) := by decide +kernel
theorem dX7_sift_66 : decode cX7_sift 66 = .ok (.invokevirtual 45, 3) := by decide +kernel
theorem dX7_sift_69 : decode cX7_sift 69 = .ok (.astore 4, 2) := by decide +kernel
theorem dX7_sift_71 : decode cX7_sift 71 = .ok (.aload 4, 2) := by decide +kernel
theorem dX7_sift_73 : decode cX7_sift 73 = .ok (.ifnull 12, 3) := by decide +kernel
theorem dX7_sift_76 : decode cX7_sift 76 = .ok (.aload_n 0, 1) := by decide +kernel
theorem dX7_sift_77 : decode cX7_sift 77 = .ok (.aload 4, 2) := by decide +kernel
theorem dX7_sift_79 : decode cX7_sift 79 = .ok (.iconst 1, 1) := by decide +kernel
theorem dX7_sift_80 : decode cX7_sift 80 = .ok (.iload_n 3, 1) := by decide +kernel
theorem dX7_sift_81 : decode cX7_sift 81 = .ok (.ishl, 1) := by decide +kernel
theorem dX7_sift_82 : decode cX7_sift 82 = .ok (.invokevirtual 49, 3) := by decide +kernel
theorem dX7_sift_85 : decode cX7_sift 85 = .ok (.iinc 3 1, 3) := by decide +kernel
theorem dX7_sift_88 : decode cX7_sift 88 = .ok (.goto (-32), 3) := by decide +kernel
theorem dX7_sift_91 : decode cX7_sift 91 = .ok (.return_, 1) := by decide +kernel
theorem dX7_siftBy_0 : decode cX7_siftBy 0 = .ok (.aload_n 1, 1) := by decide +kernel
theorem dX7_siftBy_1 : decode cX7_siftBy 1 = .ok (.getfield 53, 3) := by decide +kernel
theorem dX7_siftBy_4 : decode cX7_siftBy 4 = .ok (.ifCond .ne 13, 3) := by decide +kernel
theorem dX7_siftBy_7 : decode cX7_siftBy 7 = .ok (.aload_n 0, 1) := by decide +kernel
theorem dX7_siftBy_8 : decode cX7_siftBy 8 = .ok (.dup, 1) := by decide +kernel
theorem dX7_siftBy_9 : decode cX7_siftBy 9 = .ok (.getfield 24, 3) := by decide +kernel
theorem dX7_siftBy_12 : decode cX7_siftBy 12 = .ok (.iload_n 2, 1) := by decide +kernel
theorem dX7_siftBy_13 : decode cX7_siftBy 13 = .ok (.ior, 1) := by decide +kernel
theorem dX7_siftBy_14 : decode cX7_siftBy 14 = .ok (.putfield 24, 3) := by decide +kernel
theorem dX7_siftBy_17 : decode cX7_siftBy 17 = .ok (.iconst 0, 1) := by decide +kernel
theorem dX7_siftBy_18 : decode cX7_siftBy 18 = .ok (.istore_n 3, 1) := by decide +kernel
theorem dX7_siftBy_19 : decode cX7_siftBy 19 = .ok (.iload_n 3, 1) := by decide +kernel
theorem dX7_siftBy_20 : decode cX7_siftBy 20 = .ok (.bipush 16, 2) := by decide +kernel
theorem dX7_siftBy_22 : decode cX7_siftBy 22 = .ok (.if_icmp .ge 27, 3) := by decide +kernel
theorem dX7_siftBy_25 : decode cX7_siftBy 25 = .ok (.aload_n 1, 1) := by decide +kernel
theorem dX7_siftBy_26 : decode cX7_siftBy 26 = .ok (.iload_n 3, 1) := by decide +kernel
theorem dX7_siftBy_27 : decode cX7_siftBy 27 = .ok (.invokevirtual 58, 3) := by decide +kernel
theorem dX7_siftBy_30 : decode cX7_siftBy 30 = .ok (.ifCond .eq 13, 3) := by decide +kernel
theorem dX7_siftBy_33 : decode cX7_siftBy 33 = .ok (.aload_n 0, 1) := by decide +kernel
theorem dX7_siftBy_34 : decode cX7_siftBy 34 = .ok (.getfield 9, 3) := by decide +kernel
theorem dX7_siftBy_37 : decode cX7_siftBy 37 = .ok (.iload_n 3, 1) := by decide +kernel
theorem dX7_siftBy_38 : decode cX7_siftBy 38 = .ok (.dup2, 1) := by decide +kernel
theorem dX7_siftBy_39 : decode cX7_siftBy 39 = .ok (.iaload, 1) := by decide +kernel
theorem dX7_siftBy_40 : decode cX7_siftBy 40 = .ok (.iload_n 2, 1) := by decide +kernel
theorem dX7_siftBy_41 : decode cX7_siftBy 41 = .ok (.ior, 1) := by decide +kernel
theorem dX7_siftBy_42 : decode cX7_siftBy 42 = .ok (.iastore, 1) := by decide +kernel
theorem dX7_siftBy_43 : decode cX7_siftBy 43 = .ok (.iinc 3 1, 3) := by decide +kernel
theorem dX7_siftBy_46 : decode cX7_siftBy 46 = .ok (.goto (-27), 3) := by decide +kernel
theorem dX7_siftBy_49 : decode cX7_siftBy 49 = .ok (.iconst 0, 1) := by decide +kernel
theorem dX7_siftBy_50 : decode cX7_siftBy 50 = .ok (.istore_n 3, 1) := by decide +kernel
theorem dX7_siftBy_51 : decode cX7_siftBy 51 = .ok (.iload_n 3, 1) := by decide +kernel
theorem dX7_siftBy_52 : decode cX7_siftBy 52 = .ok (.bipush 64, 2) := by decide +kernel
theorem dX7_siftBy_54 : decode cX7_siftBy 54 = .ok (.if_icmp .ge 33, 3) := by decide +kernel
theorem dX7_siftBy_57 : decode cX7_siftBy 57 = .ok (.aload_n 1, 1) := by decide +kernel
theorem dX7_siftBy_58 : decode cX7_siftBy 58 = .ok (.iload_n 3, 1) := by decide +kernel
theorem dX7_siftBy_59 : decode cX7_siftBy 59 = .ok (.aload_n 0, 1) := by decide +kernel
theorem dX7_siftBy_60 : decode cX7_siftBy 60 = .ok (.getfield 21, 3) := by decide +kernel
theorem dX7_siftBy_63 : decode cX7_siftBy 63 = .ok (.iload_n 3, 1) := by decide +kernel
theorem dX7_siftBy_64 : decode cX7_siftBy 64 = .ok (.iaload, 1) := by decide +kernel
theorem dX7_siftBy_65 : decode cX7_siftBy 65 = .ok (.invokevirtual 62, 3) := by decide +kernel
theorem dX7_siftBy_68 : decode cX7_siftBy 68 = .ok (.ifCond .eq 13, 3) := by decide +kernel
theorem dX7_siftBy_71 : decode cX7_siftBy 71 = .ok (.aload_n 0, 1) := by decide +kernel
theorem dX7_siftBy_72 : decode cX7_siftBy 72 = .ok (.getfield 15, 3) := by decide +kernel
theorem dX7_siftBy_75 : decode cX7_siftBy 75 = .ok (.iload_n 3, 1) := by decide +kernel
theorem dX7_siftBy_76 : decode cX7_siftBy 76 = .ok (.dup2, 1) := by decide +kernel
theorem dX7_siftBy_77 : decode cX7_siftBy 77 = .ok (.iaload, 1) := by decide +kernel
theorem dX7_siftBy_78 : decode cX7_siftBy 78 = .ok (.iload_n 2, 1) := by decide +kernel
theorem dX7_siftBy_79 : decode cX7_siftBy 79 = .ok (.ior, 1) := by decide +kernel
theorem dX7_siftBy_80 : decode cX7_siftBy 80 = .ok (.iastore, 1) := by decide +kernel
theorem dX7_siftBy_81 : decode cX7_siftBy 81 = .ok (.iinc 3 1, 3) := by decide +kernel
theorem dX7_siftBy_84 : decode cX7_siftBy 84 = .ok (.goto (-33), 3) := by decide +kernel
theorem dX7_siftBy_87 : decode cX7_siftBy 87 = .ok (.iconst 0, 1) := by decide +kernel
theorem dX7_siftBy_88 : decode cX7_siftBy 88 = .ok (.istore_n 3, 1) := by decide +kernel
theorem dX7_siftBy_89 : decode cX7_siftBy 89 = .ok (.iload_n 3, 1) := by decide +kernel
theorem dX7_siftBy_90 : decode cX7_siftBy 90 = .ok (.bipush 80, 2) := by decide +kernel
theorem dX7_siftBy_92 : decode cX7_siftBy 92 = .ok (.if_icmp .ge 27, 3) := by decide +kernel
theorem dX7_siftBy_95 : decode cX7_siftBy 95 = .ok (.aload_n 1, 1) := by decide +kernel
theorem dX7_siftBy_96 : decode cX7_siftBy 96 = .ok (.iload_n 3, 1) := by decide +kernel
theorem dX7_siftBy_97 : decode cX7_siftBy 97 = .ok (.invokevirtual 66, 3) := by decide +kernel
theorem dX7_siftBy_100 : decode cX7_siftBy 100 = .ok (.ifCond .eq 13, 3) := by decide +kernel
theorem dX7_siftBy_103 : decode cX7_siftBy 103 = .ok (.aload_n 0, 1) := by decide +kernel
theorem dX7_siftBy_104 : decode cX7_siftBy 104 = .ok (.getfield 18, 3) := by decide +kernel
theorem dX7_siftBy_107 : decode cX7_siftBy 107 = .ok (.iload_n 3, 1) := by decide +kernel
theorem dX7_siftBy_108 : decode cX7_siftBy 108 = .ok (.dup2, 1) := by decide +kernel
theorem dX7_siftBy_109 : decode cX7_siftBy 109 = .ok (.iaload, 1) := by decide +kernel
theorem dX7_siftBy_110 : decode cX7_siftBy 110 = .ok (.iload_n 2, 1) := by decide +kernel
theorem dX7_siftBy_111 : decode cX7_siftBy 111 = .ok (.ior, 1) := by decide +kernel
theorem dX7_siftBy_112 : decode cX7_siftBy 112 = .ok (.iastore, 1) := by decide +kernel
theorem dX7_siftBy_113 : decode cX7_siftBy 113 = .ok (.iinc 3 1, 3) := by decide +kernel
theorem dX7_siftBy_116 : decode cX7_siftBy 116 = .ok (.goto (-27), 3) := by decide +kernel
theorem dX7_siftBy_119 : decode cX7_siftBy 119 = .ok (.return_, 1) := by decide +kernel
theorem dX7_codeOf_0 : decode cX7_codeOf 0 = .ok (.iload_n 0, 1) := by decide +kernel
theorem dX7_codeOf_1 : decode cX7_codeOf 1 = .ok (.bipush 64, 2) := by decide +kernel
theorem dX7_codeOf_3 : decode cX7_codeOf 3 = .ok (.imul, 1) := by decide +kernel
theorem dX7_codeOf_4 : decode cX7_codeOf 4 = .ok (.iload_n 1, 1) := by decide +kernel
theorem dX7_codeOf_5 : decode cX7_codeOf 5 = .ok (.iadd, 1) := by decide +kernel
theorem dX7_codeOf_6 : decode cX7_codeOf 6 = .ok (.bipush 80, 2) := by decide +kernel
theorem dX7_codeOf_8 : decode cX7_codeOf 8 = .ok (.imul, 1) := by decide +kernel
theorem dX7_codeOf_9 : decode cX7_codeOf 9 = .ok (.iload_n 2, 1) := by decide +kernel
theorem dX7_codeOf_10 : decode cX7_codeOf 10 = .ok (.iadd, 1) := by decide +kernel
theorem dX7_codeOf_11 : decode cX7_codeOf 11 = .ok (.ireturn, 1) := by decide +kernel
theorem dX7_leastBreaking_0 : decode cX7_leastBreaking 0 = .ok (.iconst 0, 1) := by decide +kernel
theorem dX7_leastBreaking_1 : decode cX7_leastBreaking 1 = .ok (.istore_n 2, 1) := by decide +kernel
theorem dX7_leastBreaking_2 : decode cX7_leastBreaking 2 = .ok (.iload_n 2, 1) := by decide +kernel
theorem dX7_leastBreaking_3 : decode cX7_leastBreaking 3 = .ok (.bipush 16, 2) := by decide +kernel
theorem dX7_leastBreaking_5 : decode cX7_leastBreaking 5 = .ok (.if_icmp .ge 80, 3) := by decide +kernel
theorem dX7_leastBreaking_8 : decode cX7_leastBreaking 8 = .ok (.aload_n 1, 1) := by decide +kernel
theorem dX7_leastBreaking_9 : decode cX7_leastBreaking 9 = .ok (.iload_n 2, 1) := by decide +kernel
theorem dX7_leastBreaking_10 : decode cX7_leastBreaking 10 = .ok (.invokevirtual 69, 3) := by decide +kernel
theorem dX7_leastBreaking_13 : decode cX7_leastBreaking 13 = .ok (.istore_n 3, 1) := by decide +kernel
theorem dX7_leastBreaking_14 : decode cX7_leastBreaking 14 = .ok (.iconst 0, 1) := by decide +kernel
theorem dX7_leastBreaking_15 : decode cX7_leastBreaking 15 = .ok (.istore 4, 2) := by decide +kernel
theorem dX7_leastBreaking_17 : decode cX7_leastBreaking 17 = .ok (.iload 4, 2) := by decide +kernel
theorem dX7_leastBreaking_19 : decode cX7_leastBreaking 19 = .ok (.bipush 64, 2) := by decide +kernel
theorem dX7_leastBreaking_21 : decode cX7_leastBreaking 21 = .ok (.if_icmp .ge 58, 3) := by decide +kernel
theorem dX7_leastBreaking_24 : decode cX7_leastBreaking 24 = .ok (.iload_n 3, 1) := by decide +kernel
theorem dX7_leastBreaking_25 : decode cX7_leastBreaking 25 = .ok (.ifCond .ne 12, 3) := by decide +kernel
theorem dX7_leastBreaking_28 : decode cX7_leastBreaking 28 = .ok (.aload_n 1, 1) := by decide +kernel
theorem dX7_leastBreaking_29 : decode cX7_leastBreaking 29 = .ok (.iload 4, 2) := by decide +kernel
theorem dX7_leastBreaking_31 : decode cX7_leastBreaking 31 = .ok (.invokevirtual 74, 3) := by decide +kernel
theorem dX7_leastBreaking_34 : decode cX7_leastBreaking 34 = .ok (.ifCond .eq 39, 3) := by decide +kernel
theorem dX7_leastBreaking_37 : decode cX7_leastBreaking 37 = .ok (.aload_n 0, 1) := by decide +kernel
theorem dX7_leastBreaking_38 : decode cX7_leastBreaking 38 = .ok (.aload_n 0, 1) := by decide +kernel
theorem dX7_leastBreaking_39 : decode cX7_leastBreaking 39 = .ok (.getfield 9, 3) := by decide +kernel
theorem dX7_leastBreaking_42 : decode cX7_leastBreaking 42 = .ok (.iload_n 2, 1) := by decide +kernel
theorem dX7_leastBreaking_43 : decode cX7_leastBreaking 43 = .ok (.iaload, 1) := by decide +kernel
theorem dX7_leastBreaking_44 : decode cX7_leastBreaking 44 = .ok (.aload_n 0, 1) := by decide +kernel
theorem dX7_leastBreaking_45 : decode cX7_leastBreaking 45 = .ok (.getfield 15, 3) := by decide +kernel
theorem dX7_leastBreaking_48 : decode cX7_leastBreaking 48 = .ok (.iload 4, 2) := by decide +kernel
theorem dX7_leastBreaking_50 : decode cX7_leastBreaking 50 = .ok (.iaload, 1) := by decide +kernel
theorem dX7_leastBreaking_51 : decode cX7_leastBreaking 51 = .ok (.iand, 1) := by decide +kernel
theorem dX7_leastBreaking_52 : decode cX7_leastBreaking 52 = .ok (.aload_n 1, 1) := by decide +kernel
theorem dX7_leastBreaking_53 : decode cX7_leastBreaking 53 = .ok (.invokevirtual 77, 3) := by decide +kernel
theorem dX7_leastBreaking_56 : decode cX7_leastBreaking 56 = .ok (.istore 5, 2) := by decide +kernel
theorem dX7_leastBreaking_58 : decode cX7_leastBreaking 58 = .ok (.iload 5, 2) := by decide +kernel
theorem dX7_leastBreaking_60 : decode cX7_leastBreaking 60 = .ok (.iconst (-1), 1) := by decide +kernel
theorem dX7_leastBreaking_61 : decode cX7_leastBreaking 61 = .ok (.if_icmp .eq 12, 3) := by decide +kernel
theorem dX7_leastBreaking_64 : decode cX7_leastBreaking 64 = .ok (.iload_n 2, 1) := by decide +kernel
theorem dX7_leastBreaking_65 : decode cX7_leastBreaking 65 = .ok (.iload 4, 2) := by decide +kernel
theorem dX7_leastBreaking_67 : decode cX7_leastBreaking 67 = .ok (.iload 5, 2) := by decide +kernel
theorem dX7_leastBreaking_69 : decode cX7_leastBreaking 69 = .ok (.invokestatic 81, 3) := by decide +kernel
theorem dX7_leastBreaking_72 : decode cX7_leastBreaking 72 = .ok (.ireturn, 1) := by decide +kernel
theorem dX7_leastBreaking_73 : decode cX7_leastBreaking 73 = .ok (.iinc 4 1, 3) := by decide +kernel
theorem dX7_leastBreaking_76 : decode cX7_leastBreaking 76 = .ok (.goto (-59), 3) := by decide +kernel
theorem dX7_leastBreaking_79 : decode cX7_leastBreaking 79 = .ok (.iinc 2 1, 3) := by decide +kernel
theorem dX7_leastBreaking_82 : decode cX7_leastBreaking 82 = .ok (.goto (-80), 3) := by decide +kernel
theorem dX7_leastBreaking_85 : decode cX7_leastBreaking 85 = .ok (.iconst (-1), 1) := by decide +kernel
theorem dX7_leastBreaking_86 : decode cX7_leastBreaking 86 = .ok (.ireturn, 1) := by decide +kernel
theorem dX7_leastLetSpot_0 : decode cX7_leastLetSpot 0 = .ok (.iload_n 1, 1) := by decide +kernel
theorem dX7_leastLetSpot_1 : decode cX7_leastLetSpot 1 = .ok (.aload_n 0, 1) := by decide +kernel
theorem dX7_leastLetSpot_2 : decode cX7_leastLetSpot 2 = .ok (.getfield 24, 3) := by decide +kernel
theorem dX7_leastLetSpot_5 : decode cX7_leastLetSpot 5 = .ok (.iand, 1) := by decide +kernel
theorem dX7_leastLetSpot_6 : decode cX7_leastLetSpot 6 = .ok (.ifCond .ne 5, 3) := by decide +kernel
theorem dX7_leastLetSpot_9 : decode cX7_leastLetSpot 9 = .ok (.iconst (-1), 1) := by decide +kernel
theorem dX7_leastLetSpot_10 : decode cX7_leastLetSpot 10 = .ok (.ireturn, 1) := by decide +kernel
theorem dX7_leastLetSpot_11 : decode cX7_leastLetSpot 11 = .ok (.iconst 0, 1) := by decide +kernel
theorem dX7_leastLetSpot_12 : decode cX7_leastLetSpot 12 = .ok (.istore_n 3, 1) := by decide +kernel
theorem dX7_leastLetSpot_13 : decode cX7_leastLetSpot 13 = .ok (.iload_n 3, 1) := by decide +kernel
theorem dX7_leastLetSpot_14 : decode cX7_leastLetSpot 14 = .ok (.iconst 4, 1) := by decide +kernel
theorem dX7_leastLetSpot_15 : decode cX7_leastLetSpot 15 = .ok (.if_icmp .ge 74, 3) := by decide +kernel
theorem dX7_leastLetSpot_18 : decode cX7_leastLetSpot 18 = .ok (.aload_n 2, 1) := by decide +kernel
theorem dX7_leastLetSpot_19 : decode cX7_leastLetSpot 19 = .ok (.getfield 85, 3) := by decide +kernel
theorem dX7_leastLetSpot_22 : decode cX7_leastLetSpot 22 = .ok (.istore 4, 2) := by decide +kernel
theorem dX7_leastLetSpot_24 : decode cX7_leastLetSpot 24 = .ok (.iload 4, 2) := by decide +kernel
theorem dX7_leastLetSpot_26 : decode cX7_leastLetSpot 26 = .ok (.iconst 5, 1) := by decide +kernel
theorem dX7_leastLetSpot_27 : decode cX7_leastLetSpot 27 = .ok (.if_icmp .ge 56, 3) := by decide +kernel
theorem dX7_leastLetSpot_30 : decode cX7_leastLetSpot 30 = .ok (.iload_n 3, 1) := by decide +kernel
theorem dX7_leastLetSpot_31 : decode cX7_leastLetSpot 31 = .ok (.iconst 4, 1) := by decide +kernel
theorem dX7_leastLetSpot_32 : decode cX7_leastLetSpot 32 = .ok (.imul, 1) := by decide +kernel
theorem dX7_leastLetSpot_33 : decode cX7_leastLetSpot 33 = .ok (.aload_n 2, 1) := by decide +kernel
theorem dX7_leastLetSpot_34 : decode cX7_leastLetSpot 34 = .ok (.getfield 88, 3) := by decide +kernel
theorem dX7_leastLetSpot_37 : decode cX7_leastLetSpot 37 = .ok (.iadd, 1) := by decide +kernel
theorem dX7_leastLetSpot_38 : decode cX7_leastLetSpot 38 = .ok (.iconst 5, 1) := by decide +kernel
theorem dX7_leastLetSpot_39 : decode cX7_leastLetSpot 39 = .ok (.imul, 1) := by decide +kernel
theorem dX7_leastLetSpot_40 : decode cX7_leastLetSpot 40 = .ok (.iload 4, 2) := by decide +kernel
theorem dX7_leastLetSpot_42 : decode cX7_leastLetSpot 42 = .ok (.iadd, 1) := by decide +kernel
theorem dX7_leastLetSpot_43 : decode cX7_leastLetSpot 43 = .ok (.istore 5, 2) := by decide +kernel
theorem dX7_leastLetSpot_45 : decode cX7_leastLetSpot 45 = .ok (.iload_n 1, 1) := by decide +kernel
theorem dX7_leastLetSpot_46 : decode cX7_leastLetSpot 46 = .ok (.aload_n 0, 1) := by decide +kernel
theorem dX7_leastLetSpot_47 : decode cX7_leastLetSpot 47 = .ok (.getfield 18, 3) := by decide +kernel
theorem dX7_leastLetSpot_50 : decode cX7_leastLetSpot 50 = .ok (.iload 5, 2) := by decide +kernel
theorem dX7_leastLetSpot_52 : decode cX7_leastLetSpot 52 = .ok (.iaload, 1) := by decide +kernel
theorem dX7_leastLetSpot_53 : decode cX7_leastLetSpot 53 = .ok (.iand, 1) := by decide +kernel
theorem dX7_leastLetSpot_54 : decode cX7_leastLetSpot 54 = .ok (.istore 6, 2) := by decide +kernel
theorem dX7_leastLetSpot_56 : decode cX7_leastLetSpot 56 = .ok (.iload 6, 2) := by decide +kernel
theorem dX7_leastLetSpot_58 : decode cX7_leastLetSpot 58 = .ok (.iload 6, 2) := by decide +kernel
theorem dX7_leastLetSpot_60 : decode cX7_leastLetSpot 60 = .ok (.ineg, 1) := by decide +kernel
theorem dX7_leastLetSpot_61 : decode cX7_leastLetSpot 61 = .ok (.iand, 1) := by decide +kernel
theorem dX7_leastLetSpot_62 : decode cX7_leastLetSpot 62 = .ok (.istore 7, 2) := by decide +kernel
theorem dX7_leastLetSpot_64 : decode cX7_leastLetSpot 64 = .ok (.iload 7, 2) := by decide +kernel
theorem dX7_leastLetSpot_66 : decode cX7_leastLetSpot 66 = .ok (.aload_n 0, 1) := by decide +kernel
theorem dX7_leastLetSpot_67 : decode cX7_leastLetSpot 67 = .ok (.getfield 24, 3) := by decide +kernel
theorem dX7_leastLetSpot_70 : decode cX7_leastLetSpot 70 = .ok (.iand, 1) := by decide +kernel
theorem dX7_leastLetSpot_71 : decode cX7_leastLetSpot 71 = .ok (.ifCond .eq 6, 3) := by decide +kernel
theorem dX7_leastLetSpot_74 : decode cX7_leastLetSpot 74 = .ok (.iload 5, 2) := by decide +kernel
theorem dX7_leastLetSpot_76 : decode cX7_leastLetSpot 76 = .ok (.ireturn, 1) := by decide +kernel
theorem dX7_leastLetSpot_77 : decode cX7_leastLetSpot 77 = .ok (.iinc 4 1, 3) := by decide +kernel
theorem dX7_leastLetSpot_80 : decode cX7_leastLetSpot 80 = .ok (.goto (-56), 3) := by decide +kernel
theorem dX7_leastLetSpot_83 : decode cX7_leastLetSpot 83 = .ok (.iinc 3 1, 3) := by decide +kernel
theorem dX7_leastLetSpot_86 : decode cX7_leastLetSpot 86 = .ok (.goto (-73), 3) := by decide +kernel
theorem dX7_leastLetSpot_89 : decode cX7_leastLetSpot 89 = .ok (.iconst (-1), 1) := by decide +kernel
theorem dX7_leastLetSpot_90 : decode cX7_leastLetSpot 90 = .ok (.ireturn, 1) := by decide +kernel
theorem dX7_isEverFirst_0 : decode cX7_isEverFirst 0 = .ok (.iconst 1, 1) := by decide +kernel
theorem dX7_isEverFirst_1 : decode cX7_isEverFirst 1 = .ok (.iload_n 1, 1) := by decide +kernel
theorem dX7_isEverFirst_2 : decode cX7_isEverFirst 2 = .ok (.ishl, 1) := by decide +kernel
theorem dX7_isEverFirst_3 : decode cX7_isEverFirst 3 = .ok (.istore_n 3, 1) := by decide +kernel
theorem dX7_isEverFirst_4 : decode cX7_isEverFirst 4 = .ok (.iload_n 3, 1) := by decide +kernel
theorem dX7_isEverFirst_5 : decode cX7_isEverFirst 5 = .ok (.iconst 1, 1) := by decide +kernel
theorem dX7_isEverFirst_6 : decode cX7_isEverFirst 6 = .ok (.ishl, 1) := by decide +kernel
theorem dX7_isEverFirst_7 : decode cX7_isEverFirst 7 = .ok (.iconst 1, 1) := by decide +kernel
theorem dX7_isEverFirst_8 : decode cX7_isEverFirst 8 = .ok (.isub, 1) := by decide +kernel
theorem dX7_isEverFirst_9 : decode cX7_isEverFirst 9 = .ok (.istore 4, 2) := by decide +kernel
theorem dX7_isEverFirst_11 : decode cX7_isEverFirst 11 = .ok (.aload_n 0, 1) := by decide +kernel
theorem dX7_isEverFirst_12 : decode cX7_isEverFirst 12 = .ok (.getfield 9, 3) := by decide +kernel
theorem dX7_isEverFirst_15 : decode cX7_isEverFirst 15 = .ok (.iload_n 2, 1) := by decide +kernel
theorem dX7_isEverFirst_16 : decode cX7_isEverFirst 16 = .ok (.iaload, 1) := by decide +kernel
theorem dX7_isEverFirst_17 : decode cX7_isEverFirst 17 = .ok (.iload 4, 2) := by decide +kernel
theorem dX7_isEverFirst_19 : decode cX7_isEverFirst 19 = .ok (.iand, 1) := by decide +kernel
theorem dX7_isEverFirst_20 : decode cX7_isEverFirst 20 = .ok (.istore 5, 2) := by decide +kernel
theorem dX7_isEverFirst_22 : decode cX7_isEverFirst 22 = .ok (.iconst 0, 1) := by decide +kernel
theorem dX7_isEverFirst_23 : decode cX7_isEverFirst 23 = .ok (.istore 6, 2) := by decide +kernel
theorem dX7_isEverFirst_25 : decode cX7_isEverFirst 25 = .ok (.iload 6, 2) := by decide +kernel
theorem dX7_isEverFirst_27 : decode cX7_isEverFirst 27 = .ok (.bipush 64, 2) := by decide +kernel
theorem dX7_isEverFirst_29 : decode cX7_isEverFirst 29 = .ok (.if_icmp .ge 40, 3) := by decide +kernel
theorem dX7_isEverFirst_32 : decode cX7_isEverFirst 32 = .ok (.iload 5, 2) := by decide +kernel
theorem dX7_isEverFirst_34 : decode cX7_isEverFirst 34 = .ok (.aload_n 0, 1) := by decide +kernel
theorem dX7_isEverFirst_35 : decode cX7_isEverFirst 35 = .ok (.getfield 15, 3) := by decide +kernel
theorem dX7_isEverFirst_38 : decode cX7_isEverFirst 38 = .ok (.iload 6, 2) := by decide +kernel
theorem dX7_isEverFirst_40 : decode cX7_isEverFirst 40 = .ok (.iaload, 1) := by decide +kernel
theorem dX7_isEverFirst_41 : decode cX7_isEverFirst 41 = .ok (.iand, 1) := by decide +kernel
theorem dX7_isEverFirst_42 : decode cX7_isEverFirst 42 = .ok (.istore 7, 2) := by decide +kernel
theorem dX7_isEverFirst_44 : decode cX7_isEverFirst 44 = .ok (.iload 7, 2) := by decide +kernel
theorem dX7_isEverFirst_46 : decode cX7_isEverFirst 46 = .ok (.iload_n 3, 1) := by decide +kernel
theorem dX7_isEverFirst_47 : decode cX7_isEverFirst 47 = .ok (.iand, 1) := by decide +kernel
theorem dX7_isEverFirst_48 : decode cX7_isEverFirst 48 = .ok (.ifCond .eq 15, 3) := by decide +kernel
theorem dX7_isEverFirst_51 : decode cX7_isEverFirst 51 = .ok (.aload_n 0, 1) := by decide +kernel
theorem dX7_isEverFirst_52 : decode cX7_isEverFirst 52 = .ok (.iload_n 3, 1) := by decide +kernel
theorem dX7_isEverFirst_53 : decode cX7_isEverFirst 53 = .ok (.iload 7, 2) := by decide +kernel
theorem dX7_isEverFirst_55 : decode cX7_isEverFirst 55 = .ok (.invokevirtual 91, 3) := by decide +kernel
theorem dX7_isEverFirst_58 : decode cX7_isEverFirst 58 = .ok (.ifCond .eq 5, 3) := by decide +kernel
theorem dX7_isEverFirst_61 : decode cX7_isEverFirst 61 = .ok (.iconst 1, 1) := by decide +kernel
theorem dX7_isEverFirst_62 : decode cX7_isEverFirst 62 = .ok (.ireturn, 1) := by decide +kernel
theorem dX7_isEverFirst_63 : decode cX7_isEverFirst 63 = .ok (.iinc 6 1, 3) := by decide +kernel
theorem dX7_isEverFirst_66 : decode cX7_isEverFirst 66 = .ok (.goto (-41), 3) := by decide +kernel
theorem dX7_isEverFirst_69 : decode cX7_isEverFirst 69 = .ok (.iconst 0, 1) := by decide +kernel
theorem dX7_isEverFirst_70 : decode cX7_isEverFirst 70 = .ok (.ireturn, 1) := by decide +kernel
theorem dX7_isAnyJust_0 : decode cX7_isAnyJust 0 = .ok (.iconst 0, 1) := by decide +kernel
theorem dX7_isAnyJust_1 : decode cX7_isAnyJust 1 = .ok (.istore_n 3, 1) := by decide +kernel
theorem dX7_isAnyJust_2 : decode cX7_isAnyJust 2 = .ok (.iload_n 3, 1) := by decide +kernel
theorem dX7_isAnyJust_3 : decode cX7_isAnyJust 3 = .ok (.bipush 80, 2) := by decide +kernel
theorem dX7_isAnyJust_5 : decode cX7_isAnyJust 5 = .ok (.if_icmp .ge 23, 3) := by decide +kernel
theorem dX7_isAnyJust_8 : decode cX7_isAnyJust 8 = .ok (.iload_n 2, 1) := by decide +kernel
theorem dX7_isAnyJust_9 : decode cX7_isAnyJust 9 = .ok (.aload_n 0, 1) := by decide +kernel
theorem dX7_isAnyJust_10 : decode cX7_isAnyJust 10 = .ok (.getfield 18, 3) := by decide +kernel
theorem dX7_isAnyJust_13 : decode cX7_isAnyJust 13 = .ok (.iload_n 3, 1) := by decide +kernel
theorem dX7_isAnyJust_14 : decode cX7_isAnyJust 14 = .ok (.iaload, 1) := by decide +kernel
theorem dX7_isAnyJust_15 : decode cX7_isAnyJust 15 = .ok (.iand, 1) := by decide +kernel
theorem dX7_isAnyJust_16 : decode cX7_isAnyJust 16 = .ok (.iload_n 1, 1) := by decide +kernel
theorem dX7_isAnyJust_17 : decode cX7_isAnyJust 17 = .ok (.if_icmp .ne 5, 3) := by decide +kernel
theorem dX7_isAnyJust_20 : decode cX7_isAnyJust 20 = .ok (.iconst 1, 1) := by decide +kernel
theorem dX7_isAnyJust_21 : decode cX7_isAnyJust 21 = .ok (.ireturn, 1) := by decide +kernel
theorem dX7_isAnyJust_22 : decode cX7_isAnyJust 22 = .ok (.iinc 3 1, 3) := by decide +kernel
theorem dX7_isAnyJust_25 : decode cX7_isAnyJust 25 = .ok (.goto (-23), 3) := by decide +kernel
theorem dX7_isAnyJust_28 : decode cX7_isAnyJust 28 = .ok (.iconst 0, 1) := by decide +kernel
theorem dX7_isAnyJust_29 : decode cX7_isAnyJust 29 = .ok (.ireturn, 1) := by decide +kernel
theorem dX7_leastFittingAll_0 : decode cX7_leastFittingAll 0 = .ok (.aload_n 0, 1) := by decide +kernel
theorem dX7_leastFittingAll_1 : decode cX7_leastFittingAll 1 = .ok (.getfield 9, 3) := by decide +kernel
theorem dX7_leastFittingAll_4 : decode cX7_leastFittingAll 4 = .ok (.iload_n 1, 1) := by decide +kernel
theorem dX7_leastFittingAll_5 : decode cX7_leastFittingAll 5 = .ok (.invokestatic 94, 3) := by decide +kernel
theorem dX7_leastFittingAll_8 : decode cX7_leastFittingAll 8 = .ok (.istore_n 2, 1) := by decide +kernel
theorem dX7_leastFittingAll_9 : decode cX7_leastFittingAll 9 = .ok (.aload_n 0, 1) := by decide +kernel
theorem dX7_leastFittingAll_10 : decode cX7_leastFittingAll 10 = .ok (.getfield 15, 3) := by decide +kernel
theorem dX7_leastFittingAll_13 : decode cX7_leastFittingAll 13 = .ok (.iload_n 1, 1) := by decide +kernel
theorem dX7_leastFittingAll_14 : decode cX7_leastFittingAll 14 = .ok (.invokestatic 94, 3) := by decide +kernel
theorem dX7_leastFittingAll_17 : decode cX7_leastFittingAll 17 = .ok (.istore_n 3, 1) := by decide +kernel
theorem dX7_leastFittingAll_18 : decode cX7_leastFittingAll 18 = .ok (.aload_n 0, 1) := by decide +kernel
theorem dX7_leastFittingAll_19 : decode cX7_leastFittingAll 19 = .ok (.getfield 18, 3) := by decide +kernel
theorem dX7_leastFittingAll_22 : decode cX7_leastFittingAll 22 = .ok (.iload_n 1, 1) := by decide +kernel
theorem dX7_leastFittingAll_23 : decode cX7_leastFittingAll 23 = .ok (.invokestatic 94, 3) := by decide +kernel
theorem dX7_leastFittingAll_26 : decode cX7_leastFittingAll 26 = .ok (.istore 4, 2) := by decide +kernel
theorem dX7_leastFittingAll_28 : decode cX7_leastFittingAll 28 = .ok (.iload_n 2, 1) := by decide +kernel
theorem dX7_leastFittingAll_29 : decode cX7_leastFittingAll 29 = .ok (.iconst (-1), 1) := by decide +kernel
theorem dX7_leastFittingAll_30 : decode cX7_leastFittingAll 30 = .ok (.if_icmp .eq 14, 3) := by decide +kernel
theorem dX7_leastFittingAll_33 : decode cX7_leastFittingAll 33 = .ok (.iload_n 3, 1) := by decide +kernel
theorem dX7_leastFittingAll_34 : decode cX7_leastFittingAll 34 = .ok (.iconst (-1), 1) := by decide +kernel
theorem dX7_leastFittingAll_35 : decode cX7_leastFittingAll 35 = .ok (.if_icmp .eq 9, 3) := by decide +kernel
theorem dX7_leastFittingAll_38 : decode cX7_leastFittingAll 38 = .ok (.iload 4, 2) := by decide +kernel
theorem dX7_leastFittingAll_40 : decode cX7_leastFittingAll 40 = .ok (.iconst (-1), 1) := by decide +kernel
theorem dX7_leastFittingAll_41 : decode cX7_leastFittingAll 41 = .ok (.if_icmp .ne 5, 3) := by decide +kernel
theorem dX7_leastFittingAll_44 : decode cX7_leastFittingAll 44 = .ok (.iconst (-1), 1) := by decide +kernel
theorem dX7_leastFittingAll_45 : decode cX7_leastFittingAll 45 = .ok (.ireturn, 1) := by decide +kernel
theorem dX7_leastFittingAll_46 : decode cX7_leastFittingAll 46 = .ok (.iload_n 2, 1) := by decide +kernel
theorem dX7_leastFittingAll_47 : decode cX7_leastFittingAll 47 = .ok (.iload_n 3, 1) := by decide +kernel
theorem dX7_leastFittingAll_48 : decode cX7_leastFittingAll 48 = .ok (.iload 4, 2) := by decide +kernel
theorem dX7_leastFittingAll_50 : decode cX7_leastFittingAll 50 = .ok (.invokestatic 81, 3) := by decide +kernel
theorem dX7_leastFittingAll_53 : decode cX7_leastFittingAll 53 = .ok (.ireturn, 1) := by decide +kernel
theorem dX7_leastWithAll_0 : decode cX7_leastWithAll 0 = .ok (.iconst 0, 1) := by decide +kernel
theorem dX7_leastWithAll_1 : decode cX7_leastWithAll 1 = .ok (.istore_n 2, 1) := by decide +kernel
theorem dX7_leastWithAll_2 : decode cX7_leastWithAll 2 = .ok (.iload_n 2, 1) := by decide +kernel
theorem dX7_leastWithAll_3 : decode cX7_leastWithAll 3 = .ok (.aload_n 0, 1) := by decide +kernel
theorem dX7_leastWithAll_4 : decode cX7_leastWithAll 4 = .ok (.arraylength, 1) := by decide +kernel
theorem dX7_leastWithAll_5 : decode cX7_leastWithAll 5 = .ok (.if_icmp .ge 20, 3) := by decide +kernel
theorem dX7_leastWithAll_8 : decode cX7_leastWithAll 8 = .ok (.aload_n 0, 1) := by decide +kernel
theorem dX7_leastWithAll_9 : decode cX7_leastWithAll 9 = .ok (.iload_n 2, 1) := by decide +kernel
theorem dX7_leastWithAll_10 : decode cX7_leastWithAll 10 = .ok (.iaload, 1) := by decide +kernel
theorem dX7_leastWithAll_11 : decode cX7_leastWithAll 11 = .ok (.iload_n 1, 1) := by decide +kernel
theorem dX7_leastWithAll_12 : decode cX7_leastWithAll 12 = .ok (.iand, 1) := by decide +kernel
theorem dX7_leastWithAll_13 : decode cX7_leastWithAll 13 = .ok (.iload_n 1, 1) := by decide +kernel
theorem dX7_leastWithAll_14 : decode cX7_leastWithAll 14 = .ok (.if_icmp .ne 5, 3) := by decide +kernel
theorem dX7_leastWithAll_17 : decode cX7_leastWithAll 17 = .ok (.iload_n 2, 1) := by decide +kernel
theorem dX7_leastWithAll_18 : decode cX7_leastWithAll 18 = .ok (.ireturn, 1) := by decide +kernel
theorem dX7_leastWithAll_19 : decode cX7_leastWithAll 19 = .ok (.iinc 2 1, 3) := by decide +kernel
theorem dX7_leastWithAll_22 : decode cX7_leastWithAll 22 = .ok (.goto (-20), 3) := by decide +kernel
theorem dX7_leastWithAll_25 : decode cX7_leastWithAll 25 = .ok (.iconst (-1), 1) := by decide +kernel
theorem dX7_leastWithAll_26 : decode cX7_leastWithAll 26 = .ok (.ireturn, 1) := by decide +kernel
theorem dX8_init_0 : decode cX8_init 0 = .ok (.aload_n 0, 1) := by decide +kernel
theorem dX8_init_1 : decode cX8_init 1 = .ok (.invokespecial 1, 3) := by decide +kernel
theorem dX8_init_4 : decode cX8_init 4 = .ok (.aload_n 0, 1) := by decide +kernel
theorem dX8_init_5 : decode cX8_init 5 = .ok (.bipush 10, 2) := by decide +kernel
theorem dX8_init_7 : decode cX8_init 7 = .ok (.newarray .int, 2) := by decide +kernel
theorem dX8_init_9 : decode cX8_init 9 = .ok (.putfield 9, 3) := by decide +kernel
theorem dX8_init_12 : decode cX8_init 12 = .ok (.aload_n 0, 1) := by decide +kernel
theorem dX8_init_13 : decode cX8_init 13 = .ok (.bipush 10, 2) := by decide +kernel
theorem dX8_init_15 : decode cX8_init 15 = .ok (.newarray .int, 2) := by decide +kernel
theorem dX8_init_17 : decode cX8_init 17 = .ok (.putfield 13, 3) := by decide +kernel
theorem dX8_init_20 : decode cX8_init 20 = .ok (.aload_n 0, 1) := by decide +kernel
theorem dX8_init_21 : decode cX8_init 21 = .ok (.bipush 10, 2) := by decide +kernel
theorem dX8_init_23 : decode cX8_init 23 = .ok (.newarray .int, 2) := by decide +kernel
theorem dX8_init_25 : decode cX8_init 25 = .ok (.putfield 16, 3) := by decide +kernel
theorem dX8_init_28 : decode cX8_init 28 = .ok (.aload_n 0, 1) := by decide +kernel
theorem dX8_init_29 : decode cX8_init 29 = .ok (.new 19, 3) := by decide +kernel
theorem dX8_init_32 : decode cX8_init 32 = .ok (.dup, 1) := by decide +kernel
theorem dX8_init_33 : decode cX8_init 33 = .ok (.invokespecial 21, 3) := by decide +kernel
theorem dX8_init_36 : decode cX8_init 36 = .ok (.putfield 22, 3) := by decide +kernel
theorem dX8_init_39 : decode cX8_init 39 = .ok (.aload_n 0, 1) := by decide +kernel
theorem dX8_init_40 : decode cX8_init 40 = .ok (.iconst 2, 1) := by decide +kernel
theorem dX8_init_41 : decode cX8_init 41 = .ok (.anewarray 26, 3) := by decide +kernel
theorem dX8_init_44 : decode cX8_init 44 = .ok (.dup, 1) := by decide +kernel
theorem dX8_init_45 : decode cX8_init 45 = .ok (.iconst 0, 1) := by decide +kernel
theorem dX8_init_46 : decode cX8_init 46 = .ok (.new 26, 3) := by decide +kernel
theorem dX8_init_49 : decode cX8_init 49 = .ok (.dup, 1) := by decide +kernel
theorem dX8_init_50 : decode cX8_init 50 = .ok (.invokespecial 28, 3) := by decide +kernel
theorem dX8_init_53 : decode cX8_init 53 = .ok (.aastore, 1) := by decide +kernel
theorem dX8_init_54 : decode cX8_init 54 = .ok (.dup, 1) := by decide +kernel
theorem dX8_init_55 : decode cX8_init 55 = .ok (.iconst 1, 1) := by decide +kernel
theorem dX8_init_56 : decode cX8_init 56 = .ok (.new 26, 3) := by decide +kernel
theorem dX8_init_59 : decode cX8_init 59 = .ok (.dup, 1) := by decide +kernel
theorem dX8_init_60 : decode cX8_init 60 = .ok (.invokespecial 28, 3) := by decide +kernel
theorem dX8_init_63 : decode cX8_init 63 = .ok (.aastore, 1) := by decide +kernel
theorem dX8_init_64 : decode cX8_init 64 = .ok (.putfield 29, 3) := by decide +kernel
theorem dX8_init_67 : decode cX8_init 67 = .ok (.aload_n 0, 1) := by decide +kernel
theorem dX8_init_68 : decode cX8_init 68 = .ok (.iconst 4, 1) := by decide +kernel
theorem dX8_init_69 : decode cX8_init 69 = .ok (.anewarray 33, 3) := by decide +kernel
theorem dX8_init_72 : decode cX8_init 72 = .ok (.dup, 1) := by decide +kernel
theorem dX8_init_73 : decode cX8_init 73 = .ok (.iconst 0, 1) := by decide +kernel
theorem dX8_init_74 : decode cX8_init 74 = .ok (.new 33, 3) := by decide +kernel
theorem dX8_init_77 : decode cX8_init 77 = .ok (.dup, 1) := by decide +kernel
theorem dX8_init_78 : decode cX8_init 78 = .ok (.invokespecial 35, 3) := by decide +kernel
theorem dX8_init_81 : decode cX8_init 81 = .ok (.aastore, 1) := by decide +kernel
theorem dX8_init_82 : decode cX8_init 82 = .ok (.dup, 1) := by decide +kernel
theorem dX8_init_83 : decode cX8_init 83 = .ok (.iconst 1, 1) := by decide +kernel
theorem dX8_init_84 : decode cX8_init 84 = .ok (.new 33, 3) := by decide +kernel
theorem dX8_init_87 : decode cX8_init 87 = .ok (.dup, 1) := by decide +kernel
theorem dX8_init_88 : decode cX8_init 88 = .ok (.invokespecial 35, 3) := by decide +kernel
theorem dX8_init_91 : decode cX8_init 91 = .ok (.aastore, 1) := by decide +kernel
theorem dX8_init_92 : decode cX8_init 92 = .ok (.dup, 1) := by decide +kernel
theorem dX8_init_93 : decode cX8_init 93 = .ok (.iconst 2, 1) := by decide +kernel
theorem dX8_init_94 : decode cX8_init 94 = .ok (.new 33, 3) := by decide +kernel
theorem dX8_init_97 : decode cX8_init 97 = .ok (.dup, 1) := by decide +kernel
theorem dX8_init_98 : decode cX8_init 98 = .ok (.invokespecial 35, 3) := by decide +kernel
theorem dX8_init_101 : decode cX8_init 101 = .ok (.aastore, 1) := by decide +kernel
theorem dX8_init_102 : decode cX8_init 102 = .ok (.dup, 1) := by decide +kernel
theorem dX8_init_103 : decode cX8_init 103 = .ok (.iconst 3, 1) := by decide +kernel
theorem dX8_init_104 : decode cX8_init 104 = .ok (.new 33, 3) := by decide +kernel
theorem dX8_init_107 : decode cX8_init 107 = .ok (.dup, 1) := by decide +kernel
theorem dX8_init_108 : decode cX8_init 108 = .ok (.invokespecial 35, 3) := by decide +kernel
theorem dX8_init_111 : decode cX8_init 111 = .ok (.aastore, 1) := by decide +kernel
theorem dX8_init_112 : decode cX8_init 112 = .ok (.putfield 36, 3) := by decide +kernel
theorem dX8_init_115 : decode cX8_init 115 = .ok (.aload_n 0, 1) := by decide +kernel
theorem dX8_init_116 : decode cX8_init 116 = .ok (.new 40, 3) := by decide +kernel
theorem dX8_init_119 : decode cX8_init 119 = .ok (.dup, 1) := by decide +kernel
theorem dX8_init_120 : decode cX8_init 120 = .ok (.invokespecial 42, 3) := by decide +kernel
theorem dX8_init_123 : decode cX8_init 123 = .ok (.putfield 43, 3) := by decide +kernel
theorem dX8_init_126 : decode cX8_init 126 = .ok (.aload_n 0, 1) := by decide +kernel
theorem dX8_init_127 : decode cX8_init 127 = .ok (.new 47, 3) := by decide +kernel
theorem dX8_init_130 : decode cX8_init 130 = .ok (.dup, 1) := by decide +kernel
theorem dX8_init_131 : decode cX8_init 131 = .ok (.invokespecial 49, 3) := by decide +kernel
theorem dX8_init_134 : decode cX8_init 134 = .ok (.putfield 50, 3) := by decide +kernel
theorem dX8_init_137 : decode cX8_init 137 = .ok (.return_, 1) := by decide +kernel
theorem dX8_go_0 : decode cX8_go 0 = .ok (.iload_n 1, 1) := by decide +kernel
theorem dX8_go_1 : decode cX8_go 1 = .ok (.sipush 200, 3) := by decide +kernel
theorem dX8_go_4 : decode cX8_go 4 = .ok (.invokestatic 54, 3) := by decide +kernel
theorem dX8_go_7 : decode cX8_go 7 = .ok (.ifCond .ne 5, 3) := by decide +kernel
theorem dX8_go_10 : decode cX8_go 10 = .ok (.iconst (-1), 1) := by decide +kernel
theorem dX8_go_11 : decode cX8_go 11 = .ok (.ireturn, 1) := by decide +kernel
theorem dX8_go_12 : decode cX8_go 12 = .ok (.iload_n 1, 1) := by decide +kernel
theorem dX8_go_13 : decode cX8_go 13 = .ok (.sipush 5000, 3) := by decide +kernel
theorem dX8_go_16 : decode cX8_go 16 = .ok (.aload_n 0, 1) := by decide +kernel
theorem dX8_go_17 : decode cX8_go 17 = .ok (.getfield 58, 3) := by decide +kernel
theorem dX8_go_20 : decode cX8_go 20 = .ok (.isub, 1) := by decide +kernel
theorem dX8_go_21 : decode cX8_go 21 = .ok (.invokestatic 62, 3) := by decide +kernel
theorem dX8_go_24 : decode cX8_go 24 = .ok (.istore_n 2, 1) := by decide +kernel
theorem dX8_go_25 : decode cX8_go 25 = .ok (.aload_n 0, 1) := by decide +kernel
theorem dX8_go_26 : decode cX8_go 26 = .ok (.dup, 1) := by decide +kernel
theorem dX8_go_27 : decode cX8_go 27 = .ok (.getfield 58, 3) := by decide +kernel
theorem dX8_go_30 : decode cX8_go 30 = .ok (.iload_n 2, 1) := by decide +kernel
theorem dX8_go_31 : decode cX8_go 31 = .ok (.iadd, 1) := by decide +kernel
theorem dX8_go_32 : decode cX8_go 32 = .ok (.putfield 58, 3) := by decide +kernel
theorem dX8_go_35 : decode cX8_go 35 = .ok (.iconst 0, 1) := by decide +kernel
theorem dX8_go_36 : decode cX8_go 36 = .ok (.istore_n 3, 1) := by decide +kernel
theorem dX8_go_37 : decode cX8_go 37 = .ok (.iload_n 3, 1) := by decide +kernel
theorem dX8_go_38 : decode cX8_go 38 = .ok (.aload_n 0, 1) := by decide +kernel
theorem dX8_go_39 : decode cX8_go 39 = .ok (.getfield 36, 3) := by decide +kernel
theorem dX8_go_42 : decode cX8_go 42 = .ok (.arraylength, 1) := by decide +kernel
theorem dX8_go_43 : decode cX8_go 43 = .ok (.if_icmp .ge 19, 3) := by decide +kernel
theorem dX8_go_46 : decode cX8_go 46 = .ok (.aload_n 0, 1) := by decide +kernel
theorem dX8_go_47 : decode cX8_go 47 = .ok (.getfield 36, 3) := by decide +kernel
theorem dX8_go_50 : decode cX8_go 50 = .ok (.iload_n 3, 1) := by decide +kernel
theorem dX8_go_51 : decode cX8_go 51 = .ok (.aaload, 1) := by decide +kernel
theorem dX8_go_52 : decode cX8_go 52 = .ok (.iload_n 2, 1) := by decide +kernel
theorem dX8_go_53 : decode cX8_go 53 = .ok (.invokevirtual 68, 3) := by decide +kernel
theorem dX8_go_56 : decode cX8_go 56 = .ok (.iinc 3 1, 3) := by decide +kernel
theorem dX8_go_59 : decode cX8_go 59 = .ok (.goto (-22), 3) := by decide +kernel
theorem dX8_go_62 : decode cX8_go 62 = .ok (.aload_n 0, 1) := by decide +kernel
theorem dX8_go_63 : decode cX8_go 63 = .ok (.getfield 58, 3) := by decide +kernel
theorem dX8_go_66 : decode cX8_go 66 = .ok (.ireturn, 1) := by decide +kernel
theorem dX8_roles_0 : decode cX8_roles 0 = .ok (.iload_n 1, 1) := by decide +kernel
theorem dX8_roles_1 : decode cX8_roles 1 = .ok (.bipush 10, 2) := by decide +kernel
theorem dX8_roles_3 : decode cX8_roles 3 = .ok (.invokestatic 72, 3) := by decide +kernel
theorem dX8_roles_6 : decode cX8_roles 6 = .ok (.ifCond .eq 12, 3) := by decide +kernel
theorem dX8_roles_9 : decode cX8_roles 9 = .ok (.iload_n 2, 1) := by decide +kernel
theorem dX8_roles_10 : decode cX8_roles 10 = .ok (.bipush 16, 2) := by decide +kernel
theorem dX8_roles_12 : decode cX8_roles 12 = .ok (.invokestatic 72, 3) := by decide +kernel
theorem dX8_roles_15 : decode cX8_roles 15 = .ok (.ifCond .ne 5, 3) := by decide +kernel
theorem dX8_roles_18 : decode cX8_roles 18 = .ok (.iconst 0, 1) := by decide +kernel
theorem dX8_roles_19 : decode cX8_roles 19 = .ok (.ireturn, 1) := by decide +kernel
theorem dX8_roles_20 : decode cX8_roles 20 = .ok (.aload_n 0, 1) := by decide +kernel
theorem dX8_roles_21 : decode cX8_roles 21 = .ok (.getfield 9, 3) := by decide +kernel
theorem dX8_roles_24 : decode cX8_roles 24 = .ok (.iload_n 1, 1) := by decide +kernel
theorem dX8_roles_25 : decode cX8_roles 25 = .ok (.iload_n 2, 1) := by decide +kernel
theorem dX8_roles_26 : decode cX8_roles 26 = .ok (.iastore, 1) := by decide +kernel
theorem dX8_roles_27 : decode cX8_roles 27 = .ok (.aload_n 0, 1) := by decide +kernel
theorem dX8_roles_28 : decode cX8_roles 28 = .ok (.invokevirtual 75, 3) := by decide +kernel
theorem dX8_roles_31 : decode cX8_roles 31 = .ok (.iconst 1, 1) := by decide +kernel
theorem dX8_roles_32 : decode cX8_roles 32 = .ok (.ireturn, 1) := by decide +kernel
theorem dX8_mark_0 : decode cX8_mark 0 = .ok (.iload_n 1, 1) := by decide +kernel
theorem dX8_mark_1 : decode cX8_mark 1 = .ok (.bipush 10, 2) := by decide +kernel
theorem dX8_mark_3 : decode cX8_mark 3 = .ok (.invokestatic 72, 3) := by decide +kernel
theorem dX8_mark_6 : decode cX8_mark 6 = .ok (.ifCond .eq 19, 3) := by decide +kernel
theorem dX8_mark_9 : decode cX8_mark 9 = .ok (.iload_n 2, 1) := by decide +kernel
theorem dX8_mark_10 : decode cX8_mark 10 = .ok (.iconst 3, 1) := by decide +kernel
theorem dX8_mark_11 : decode cX8_mark 11 = .ok (.invokestatic 72, 3) := by decide +kernel
theorem dX8_mark_14 : decode cX8_mark 14 = .ok (.ifCond .eq 11, 3) := by decide +kernel
theorem dX8_mark_17 : decode cX8_mark 17 = .ok (.iload_n 3, 1) := by decide +kernel
theorem dX8_mark_18 : decode cX8_mark 18 = .ok (.iconst 3, 1) := by decide +kernel
theorem dX8_mark_19 : decode cX8_mark 19 = .ok (.invokestatic 54, 3) := by decide +kernel
theorem dX8_mark_22 : decode cX8_mark 22 = .ok (.ifCond .ne 5, 3) := by decide +kernel
theorem dX8_mark_25 : decode cX8_mark 25 = .ok (.iconst 0, 1) := by decide +kernel
theorem dX8_mark_26 : decode cX8_mark 26 = .ok (.ireturn, 1) := by decide +kernel
theorem dX8_mark_27 : decode cX8_mark 27 = .ok (.aload_n 0, 1) := by decide +kernel
theorem dX8_mark_28 : decode cX8_mark 28 = .ok (.getfield 22, 3) := by decide +kernel
theorem dX8_mark_31 : decode cX8_mark 31 = .ok (.iload_n 1, 1) := by decide +kernel
theorem dX8_mark_32 : decode cX8_mark 32 = .ok (.iload_n 2, 1) := by decide +kernel
theorem dX8_mark_33 : decode cX8_mark 33 = .ok (.iload_n 3, 1) := by decide +kernel
theorem dX8_mark_34 : decode cX8_mark 34 = .ok (.aload_n 0, 1) := by decide +kernel
theorem dX8_mark_35 : decode cX8_mark 35 = .ok (.getfield 58, 3) := by decide +kernel
theorem dX8_mark_38 : decode cX8_mark 38 = .ok (.invokevirtual 78, 3) := by decide +kernel
theorem dX8_mark_41 : decode cX8_mark 41 = .ok (.aload_n 0, 1) := by decide +kernel
theorem dX8_mark_42 : decode cX8_mark 42 = .ok (.invokevirtual 75, 3) := by decide +kernel
theorem dX8_mark_45 : decode cX8_mark 45 = .ok (.iconst 1, 1) := by decide +kernel
theorem dX8_mark_46 : decode cX8_mark 46 = .ok (.ireturn, 1) := by decide +kernel
theorem dX8_thing_0 : decode cX8_thing 0 = .ok (.iload_n 1, 1) := by decide +kernel
theorem dX8_thing_1 : decode cX8_thing 1 = .ok (.bipush 10, 2) := by decide +kernel
theorem dX8_thing_3 : decode cX8_thing 3 = .ok (.invokestatic 72, 3) := by decide +kernel
theorem dX8_thing_6 : decode cX8_thing 6 = .ok (.ifCond .eq 19, 3) := by decide +kernel
theorem dX8_thing_9 : decode cX8_thing 9 = .ok (.iload_n 2, 1) := by decide +kernel
theorem dX8_thing_10 : decode cX8_thing 10 = .ok (.iconst 4, 1) := by decide +kernel
theorem dX8_thing_11 : decode cX8_thing 11 = .ok (.invokestatic 72, 3) := by decide +kernel
theorem dX8_thing_14 : decode cX8_thing 14 = .ok (.ifCond .eq 11, 3) := by decide +kernel
theorem dX8_thing_17 : decode cX8_thing 17 = .ok (.iload_n 3, 1) := by decide +kernel
theorem dX8_thing_18 : decode cX8_thing 18 = .ok (.iconst 5, 1) := by decide +kernel
theorem dX8_thing_19 : decode cX8_thing 19 = .ok (.invokestatic 72, 3) := by decide +kernel
theorem dX8_thing_22 : decode cX8_thing 22 = .ok (.ifCond .ne 5, 3) := by decide +kernel
theorem dX8_thing_25 : decode cX8_thing 25 = .ok (.iconst 0, 1) := by decide +kernel
theorem dX8_thing_26 : decode cX8_thing 26 = .ok (.ireturn, 1) := by decide +kernel
theorem dX8_thing_27 : decode cX8_thing 27 = .ok (.aload_n 0, 1) := by decide +kernel
theorem dX8_thing_28 : decode cX8_thing 28 = .ok (.getfield 13, 3) := by decide +kernel
theorem dX8_thing_31 : decode cX8_thing 31 = .ok (.iload_n 1, 1) := by decide +kernel
theorem dX8_thing_32 : decode cX8_thing 32 = .ok (.iload_n 2, 1) := by decide +kernel
theorem dX8_thing_33 : decode cX8_thing 33 = .ok (.iastore, 1) := by decide +kernel
theorem dX8_thing_34 : decode cX8_thing 34 = .ok (.aload_n 0, 1) := by decide +kernel
theorem dX8_thing_35 : decode cX8_thing 35 = .ok (.getfield 16, 3) := by decide +kernel
theorem dX8_thing_38 : decode cX8_thing 38 = .ok (.iload_n 1, 1) := by decide +kernel
theorem dX8_thing_39 : decode cX8_thing 39 = .ok (.iload_n 3, 1) := by decide +kernel
theorem dX8_thing_40 : decode cX8_thing 40 = .ok (.iastore, 1) := by decide +kernel
theorem dX8_thing_41 : decode cX8_thing 41 = .ok (.aload_n 0, 1) := by decide +kernel
theorem dX8_thing_42 : decode cX8_thing 42 = .ok (.invokevirtual 75, 3) := by decide +kernel
theorem dX8_thing_45 : decode cX8_thing 45 = .ok (.iconst 1, 1) := by decide +kernel
theorem dX8_thing_46 : decode cX8_thing 46 = .ok (.ireturn, 1) := by decide +kernel
theorem dX8_sort_0 : decode cX8_sort 0 = .ok (.iload_n 1, 1) := by decide +kernel
theorem dX8_sort_1 : decode cX8_sort 1 = .ok (.iconst 3, 1) := by decide +kernel
theorem dX8_sort_2 : decode cX8_sort 2 = .ok (.invokestatic 72, 3) := by decide +kernel
theorem dX8_sort_5 : decode cX8_sort 5 = .ok (.ifCond .eq 22, 3) := by decide +kernel
theorem dX8_sort_8 : decode cX8_sort 8 = .ok (.iload_n 2, 1) := by decide +kernel
theorem dX8_sort_9 : decode cX8_sort 9 = .ok (.sipush 500, 3) := by decide +kernel
theorem dX8_sort_12 : decode cX8_sort 12 = .ok (.invokestatic 54, 3) := by decide +kernel
theorem dX8_sort_15 : decode cX8_sort 15 = .ok (.ifCond .eq 12, 3) := by decide +kernel
theorem dX8_sort_18 : decode cX8_sort 18 = .ok (.iload_n 3, 1) := by decide +kernel
theorem dX8_sort_19 : decode cX8_sort 19 = .ok (.bipush 9, 2) := by decide +kernel
theorem dX8_sort_21 : decode cX8_sort 21 = .ok (.invokestatic 54, 3) := by decide +kernel
theorem dX8_sort_24 : decode cX8_sort 24 = .ok (.ifCond .ne 5, 3) := by decide +kernel
theorem dX8_sort_27 : decode cX8_sort 27 = .ok (.iconst 0, 1) := by decide +kernel
theorem dX8_sort_28 : decode cX8_sort 28 = .ok (.ireturn, 1) := by decide +kernel
theorem dX8_sort_29 : decode cX8_sort 29 = .ok (.aload_n 0, 1) := by decide +kernel
theorem dX8_sort_30 : decode cX8_sort 30 = .ok (.getfield 22, 3) := by decide +kernel
theorem dX8_sort_33 : decode cX8_sort 33 = .ok (.iload_n 1, 1) := by decide +kernel
theorem dX8_sort_34 : decode cX8_sort 34 = .ok (.iload_n 2, 1) := by decide +kernel
theorem dX8_sort_35 : decode cX8_sort 35 = .ok (.iload_n 3, 1) := by decide +kernel
theorem dX8_sort_36 : decode cX8_sort 36 = .ok (.invokevirtual 82, 3) := by decide +kernel
theorem dX8_sort_39 : decode cX8_sort 39 = .ok (.aload_n 0, 1) := by decide +kernel
theorem dX8_sort_40 : decode cX8_sort 40 = .ok (.invokevirtual 75, 3) := by decide +kernel
theorem dX8_sort_43 : decode cX8_sort 43 = .ok (.iconst 1, 1) := by decide +kernel
theorem dX8_sort_44 : decode cX8_sort 44 = .ok (.ireturn, 1) := by decide +kernel
theorem dX8_rule_0 : decode cX8_rule 0 = .ok (.aload_n 0, 1) := by decide +kernel
theorem dX8_rule_1 : decode cX8_rule 1 = .ok (.iload_n 1, 1) := by decide +kernel
theorem dX8_rule_2 : decode cX8_rule 2 = .ok (.invokevirtual 86, 3) := by decide +kernel
theorem dX8_rule_5 : decode cX8_rule 5 = .ok (.astore 5, 2) := by decide +kernel
theorem dX8_rule_7 : decode cX8_rule 7 = .ok (.aload 5, 2) := by decide +kernel
theorem dX8_rule_9 : decode cX8_rule 9 = .ok (.ifnull 21, 3) := by decide +kernel
theorem dX8_rule_12 : decode cX8_rule 12 = .ok (.aload 5, 2) := by decide +kernel
theorem dX8_rule_14 : decode cX8_rule 14 = .ok (.invokevirtual 90, 3) := by decide +kernel
theorem dX8_rule_17 : decode cX8_rule 17 = .ok (.ifCond .ne 13, 3) := by decide +kernel
theorem dX8_rule_20 : decode cX8_rule 20 = .ok (.iload_n 2, 1) := by decide +kernel
theorem dX8_rule_21 : decode cX8_rule 21 = .ok (.iload_n 3, 1) := by decide +kernel
theorem dX8_rule_22 : decode cX8_rule 22 = .ok (.iload 4, 2) := by decide +kernel
theorem dX8_rule_24 : decode cX8_rule 24 = .ok (.invokestatic 94, 3) := by decide +kernel
theorem dX8_rule_27 : decode cX8_rule 27 = .ok (.ifCond .ne 5, 3) := by decide +kernel
theorem dX8_rule_30 : decode cX8_rule 30 = .ok (.iconst (-1), 1) := by decide +kernel
theorem dX8_rule_31 : decode cX8_rule 31 = .ok (.ireturn, 1) := by decide +kernel
theorem dX8_rule_32 : decode cX8_rule 32 = .ok (.aload 5, 2) := by decide +kernel
theorem dX8_rule_34 : decode cX8_rule 34 = .ok (.new 95, 3) := by decide +kernel
theorem dX8_rule_37 : decode cX8_rule 37 = .ok (.dup, 1) := by decide +kernel
theorem dX8_rule_38 : decode cX8_rule 38 = .ok (.iload_n 2, 1) := by decide +kernel
theorem dX8_rule_39 : decode cX8_rule 39 = .ok (.iload_n 3, 1) := by decide +kernel
theorem dX8_rule_40 : decode cX8_rule 40 = .ok (.iload 4, 2) := by decide +kernel
theorem dX8_rule_42 : decode cX8_rule 42 = .ok (.invokespecial 100, 3) := by decide +kernel
theorem dX8_rule_45 : decode cX8_rule 45 = .ok (.invokevirtual 102, 3) := by decide +kernel
theorem dX8_rule_48 : decode cX8_rule 48 = .ok (.aload_n 0, 1) := by decide +kernel
theorem dX8_rule_49 : decode cX8_rule 49 = .ok (.invokevirtual 75, 3) := by decide +kernel
theorem dX8_rule_52 : decode cX8_rule 52 = .ok (.aload 5, 2) := by decide +kernel
theorem dX8_rule_54 : decode cX8_rule 54 = .ok (.getfield 106, 3) := by decide +kernel
theorem dX8_rule_57 : decode cX8_rule 57 = .ok (.ireturn, 1) := by decide +kernel
theorem dX8_unrule_0 : decode cX8_unrule 0 = .ok (.aload_n 0, 1) := by decide +kernel
theorem dX8_unrule_1 : decode cX8_unrule 1 = .ok (.iload_n 1, 1) := by decide +kernel
theorem dX8_unrule_2 : decode cX8_unrule 2 = .ok (.invokevirtual 86, 3) := by decide +kernel
theorem dX8_unrule_5 : decode cX8_unrule 5 = .ok (.astore_n 3, 1) := by decide +kernel
theorem dX8_unrule_6 : decode cX8_unrule 6 = .ok (.aload_n 3, 1) := by decide +kernel
theorem dX8_unrule_7 : decode cX8_unrule 7 = .ok (.ifnull 11, 3) := by decide +kernel
theorem dX8_unrule_10 : decode cX8_unrule 10 = .ok (.aload_n 3, 1) := by decide +kernel
theorem dX8_unrule_11 : decode cX8_unrule 11 = .ok (.iload_n 2, 1) := by decide +kernel
theorem dX8_unrule_12 : decode cX8_unrule 12 = .ok (.invokevirtual 109, 3) := by decide +kernel
theorem dX8_unrule_15 : decode cX8_unrule 15 = .ok (.ifCond .ne 5, 3) := by decide +kernel
theorem dX8_unrule_18 : decode cX8_unrule 18 = .ok (.iconst 0, 1) := by decide +kernel
theorem dX8_unrule_19 : decode cX8_unrule 19 = .ok (.ireturn, 1) := by decide +kernel
theorem dX8_unrule_20 : decode cX8_unrule 20 = .ok (.aload_n 0, 1) := by decide +kernel
theorem dX8_unrule_21 : decode cX8_unrule 21 = .ok (.invokevirtual 75, 3) := by decide +kernel
theorem dX8_unrule_24 : decode cX8_unrule 24 = .ok (.iconst 1, 1) := by decide +kernel
theorem dX8_unrule_25 : decode cX8_unrule 25 = .ok (.ireturn, 1) := by decide +kernel
theorem dX8_ask_0 : decode cX8_ask 0 = .ok (.iload_n 1, 1) := by decide +kernel
theorem dX8_ask_1 : decode cX8_ask 1 = .ok (.invokestatic 113, 3) := by decide +kernel
theorem dX8_ask_4 : decode cX8_ask 4 = .ok (.ifCond .eq 13, 3) := by decide +kernel
theorem dX8_ask_7 : decode cX8_ask 7 = .ok (.aload_n 0, 1) := by decide +kernel
theorem dX8_ask_8 : decode cX8_ask 8 = .ok (.getfield 43, 3) := by decide +kernel
theorem dX8_ask_11 : decode cX8_ask 11 = .ok (.invokevirtual 116, 3) := by decide +kernel
theorem dX8_ask_14 : decode cX8_ask 14 = .ok (.ifCond .eq 5, 3) := by decide +kernel
theorem dX8_ask_17 : decode cX8_ask 17 = .ok (.iconst (-1), 1) := by decide +kernel
theorem dX8_ask_18 : decode cX8_ask 18 = .ok (.ireturn, 1) := by decide +kernel
theorem dX8_ask_19 : decode cX8_ask 19 = .ok (.aload_n 0, 1) := by decide +kernel
theorem dX8_ask_20 : decode cX8_ask 20 = .ok (.iload_n 1, 1) := by decide +kernel
theorem dX8_ask_21 : decode cX8_ask 21 = .ok (.invokevirtual 117, 3) := by decide +kernel
theorem dX8_ask_24 : decode cX8_ask 24 = .ok (.istore_n 2, 1) := by decide +kernel
