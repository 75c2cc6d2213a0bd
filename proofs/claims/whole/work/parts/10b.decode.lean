theorem dX11_isDay_14 : decode cX11_isDay 14 = .ok (.iconst 0, 1) := by decide +kernel
theorem dX11_isDay_15 : decode cX11_isDay 15 = .ok (.ireturn, 1) := by decide +kernel
theorem dX11_isLetter_0 : decode cX11_isLetter 0 = .ok (.iload_n 0, 1) := by decide +kernel
theorem dX11_isLetter_1 : decode cX11_isLetter 1 = .ok (.ifCond .lt 12, 3) := by decide +kernel
theorem dX11_isLetter_4 : decode cX11_isLetter 4 = .ok (.iload_n 0, 1) := by decide +kernel
theorem dX11_isLetter_5 : decode cX11_isLetter 5 = .ok (.iconst 3, 1) := by decide +kernel
theorem dX11_isLetter_6 : decode cX11_isLetter 6 = .ok (.if_icmp .gt 7, 3) := by decide +kernel
theorem dX11_isLetter_9 : decode cX11_isLetter 9 = .ok (.iconst 1, 1) := by decide +kernel
theorem dX11_isLetter_10 : decode cX11_isLetter 10 = .ok (.goto 4, 3) := by decide +kernel
theorem dX11_isLetter_13 : decode cX11_isLetter 13 = .ok (.iconst 0, 1) := by decide +kernel
theorem dX11_isLetter_14 : decode cX11_isLetter 14 = .ok (.ireturn, 1) := by decide +kernel
theorem dX11_isKnowable_0 : decode cX11_isKnowable 0 = .ok (.iload_n 1, 1) := by decide +kernel
theorem dX11_isKnowable_1 : decode cX11_isKnowable 1 = .ok (.ifCond .lt 31, 3) := by decide +kernel
theorem dX11_isKnowable_4 : decode cX11_isKnowable 4 = .ok (.iload_n 1, 1) := by decide +kernel
theorem dX11_isKnowable_5 : decode cX11_isKnowable 5 = .ok (.iconst 3, 1) := by decide +kernel
theorem dX11_isKnowable_6 : decode cX11_isKnowable 6 = .ok (.if_icmp .gt 26, 3) := by decide +kernel
theorem dX11_isKnowable_9 : decode cX11_isKnowable 9 = .ok (.iload_n 2, 1) := by decide +kernel
theorem dX11_isKnowable_10 : decode cX11_isKnowable 10 = .ok (.invokestatic 152, 3) := by decide +kernel
theorem dX11_isKnowable_13 : decode cX11_isKnowable 13 = .ok (.ifCond .eq 19, 3) := by decide +kernel
theorem dX11_isKnowable_16 : decode cX11_isKnowable 16 = .ok (.iload_n 3, 1) := by decide +kernel
theorem dX11_isKnowable_17 : decode cX11_isKnowable 17 = .ok (.ifCond .lt 15, 3) := by decide +kernel
theorem dX11_isKnowable_20 : decode cX11_isKnowable 20 = .ok (.iload_n 3, 1) := by decide +kernel
theorem dX11_isKnowable_21 : decode cX11_isKnowable 21 = .ok (.aload_n 0, 1) := by decide +kernel
theorem dX11_isKnowable_22 : decode cX11_isKnowable 22 = .ok (.getfield 71, 3) := by decide +kernel
theorem dX11_isKnowable_25 : decode cX11_isKnowable 25 = .ok (.if_icmp .gt 7, 3) := by decide +kernel
theorem dX11_isKnowable_28 : decode cX11_isKnowable 28 = .ok (.iconst 1, 1) := by decide +kernel
theorem dX11_isKnowable_29 : decode cX11_isKnowable 29 = .ok (.goto 4, 3) := by decide +kernel
theorem dX11_isKnowable_32 : decode cX11_isKnowable 32 = .ok (.iconst 0, 1) := by decide +kernel
theorem dX11_isKnowable_33 : decode cX11_isKnowable 33 = .ok (.ireturn, 1) := by decide +kernel
theorem dX11_rowAt_0 : decode cX11_rowAt 0 = .ok (.iload_n 1, 1) := by decide +kernel
theorem dX11_rowAt_1 : decode cX11_rowAt 1 = .ok (.ifCond .lt 18, 3) := by decide +kernel
theorem dX11_rowAt_4 : decode cX11_rowAt 4 = .ok (.iload_n 1, 1) := by decide +kernel
theorem dX11_rowAt_5 : decode cX11_rowAt 5 = .ok (.bipush 6, 2) := by decide +kernel
theorem dX11_rowAt_7 : decode cX11_rowAt 7 = .ok (.if_icmp .ge 12, 3) := by decide +kernel
theorem dX11_rowAt_10 : decode cX11_rowAt 10 = .ok (.aload_n 0, 1) := by decide +kernel
theorem dX11_rowAt_11 : decode cX11_rowAt 11 = .ok (.getfield 11, 3) := by decide +kernel
theorem dX11_rowAt_14 : decode cX11_rowAt 14 = .ok (.iload_n 1, 1) := by decide +kernel
theorem dX11_rowAt_15 : decode cX11_rowAt 15 = .ok (.aaload, 1) := by decide +kernel
theorem dX11_rowAt_16 : decode cX11_rowAt 16 = .ok (.goto 4, 3) := by decide +kernel
theorem dX11_rowAt_19 : decode cX11_rowAt 19 = .ok (.aconst_null, 1) := by decide +kernel
theorem dX11_rowAt_20 : decode cX11_rowAt 20 = .ok (.areturn, 1) := by decide +kernel
theorem dX11_textAt_0 : decode cX11_textAt 0 = .ok (.iload_n 1, 1) := by decide +kernel
theorem dX11_textAt_1 : decode cX11_textAt 1 = .ok (.ifCond .lt 17, 3) := by decide +kernel
theorem dX11_textAt_4 : decode cX11_textAt 4 = .ok (.iload_n 1, 1) := by decide +kernel
theorem dX11_textAt_5 : decode cX11_textAt 5 = .ok (.iconst 4, 1) := by decide +kernel
theorem dX11_textAt_6 : decode cX11_textAt 6 = .ok (.if_icmp .ge 12, 3) := by decide +kernel
theorem dX11_textAt_9 : decode cX11_textAt 9 = .ok (.aload_n 0, 1) := by decide +kernel
theorem dX11_textAt_10 : decode cX11_textAt 10 = .ok (.getfield 15, 3) := by decide +kernel
theorem dX11_textAt_13 : decode cX11_textAt 13 = .ok (.iload_n 1, 1) := by decide +kernel
theorem dX11_textAt_14 : decode cX11_textAt 14 = .ok (.aaload, 1) := by decide +kernel
theorem dX11_textAt_15 : decode cX11_textAt 15 = .ok (.goto 4, 3) := by decide +kernel
theorem dX11_textAt_18 : decode cX11_textAt 18 = .ok (.aconst_null, 1) := by decide +kernel
theorem dX11_textAt_19 : decode cX11_textAt 19 = .ok (.areturn, 1) := by decide +kernel
theorem dX11_bookAt_0 : decode cX11_bookAt 0 = .ok (.iload_n 1, 1) := by decide +kernel
theorem dX11_bookAt_1 : decode cX11_bookAt 1 = .ok (.ifCond .lt 28, 3) := by decide +kernel
theorem dX11_bookAt_4 : decode cX11_bookAt 4 = .ok (.iload_n 1, 1) := by decide +kernel
theorem dX11_bookAt_5 : decode cX11_bookAt 5 = .ok (.aload_n 0, 1) := by decide +kernel
theorem dX11_bookAt_6 : decode cX11_bookAt 6 = .ok (.getfield 21, 3) := by decide +kernel
theorem dX11_bookAt_9 : decode cX11_bookAt 9 = .ok (.invokevirtual 139, 3) := by decide +kernel
theorem dX11_bookAt_12 : decode cX11_bookAt 12 = .ok (.if_icmp .ge 17, 3) := by decide +kernel
theorem dX11_bookAt_15 : decode cX11_bookAt 15 = .ok (.aload_n 0, 1) := by decide +kernel
theorem dX11_bookAt_16 : decode cX11_bookAt 16 = .ok (.getfield 21, 3) := by decide +kernel
theorem dX11_bookAt_19 : decode cX11_bookAt 19 = .ok (.iload_n 1, 1) := by decide +kernel
theorem dX11_bookAt_20 : decode cX11_bookAt 20 = .ok (.invokevirtual 142, 3) := by decide +kernel
theorem dX11_bookAt_23 : decode cX11_bookAt 23 = .ok (.checkcast 146, 3) := by decide +kernel
theorem dX11_bookAt_26 : decode cX11_bookAt 26 = .ok (.goto 4, 3) := by decide +kernel
theorem dX11_bookAt_29 : decode cX11_bookAt 29 = .ok (.aconst_null, 1) := by decide +kernel
theorem dX11_bookAt_30 : decode cX11_bookAt 30 = .ok (.areturn, 1) := by decide +kernel
theorem dX11_slipAt_0 : decode cX11_slipAt 0 = .ok (.iload_n 1, 1) := by decide +kernel
theorem dX11_slipAt_1 : decode cX11_slipAt 1 = .ok (.ifCond .lt 28, 3) := by decide +kernel
theorem dX11_slipAt_4 : decode cX11_slipAt 4 = .ok (.iload_n 1, 1) := by decide +kernel
theorem dX11_slipAt_5 : decode cX11_slipAt 5 = .ok (.aload_n 0, 1) := by decide +kernel
theorem dX11_slipAt_6 : decode cX11_slipAt 6 = .ok (.getfield 25, 3) := by decide +kernel
theorem dX11_slipAt_9 : decode cX11_slipAt 9 = .ok (.invokevirtual 139, 3) := by decide +kernel
theorem dX11_slipAt_12 : decode cX11_slipAt 12 = .ok (.if_icmp .ge 17, 3) := by decide +kernel
theorem dX11_slipAt_15 : decode cX11_slipAt 15 = .ok (.aload_n 0, 1) := by decide +kernel
theorem dX11_slipAt_16 : decode cX11_slipAt 16 = .ok (.getfield 25, 3) := by decide +kernel
theorem dX11_slipAt_19 : decode cX11_slipAt 19 = .ok (.iload_n 1, 1) := by decide +kernel
theorem dX11_slipAt_20 : decode cX11_slipAt 20 = .ok (.invokevirtual 142, 3) := by decide +kernel
theorem dX11_slipAt_23 : decode cX11_slipAt 23 = .ok (.checkcast 258, 3) := by decide +kernel
theorem dX11_slipAt_26 : decode cX11_slipAt 26 = .ok (.goto 4, 3) := by decide +kernel
theorem dX11_slipAt_29 : decode cX11_slipAt 29 = .ok (.aconst_null, 1) := by decide +kernel
theorem dX11_slipAt_30 : decode cX11_slipAt 30 = .ok (.areturn, 1) := by decide +kernel
theorem dX11_dayOf_0 : decode cX11_dayOf 0 = .ok (.iload_n 0, 1) := by decide +kernel
theorem dX11_dayOf_1 : decode cX11_dayOf 1 = .ok (.sipush 1440, 3) := by decide +kernel
theorem dX11_dayOf_4 : decode cX11_dayOf 4 = .ok (.idiv, 1) := by decide +kernel
theorem dX11_dayOf_5 : decode cX11_dayOf 5 = .ok (.ireturn, 1) := by decide +kernel
theorem dX11_found_0 : decode cX11_found 0 = .ok (.aload_n 0, 1) := by decide +kernel
theorem dX11_found_1 : decode cX11_found 1 = .ok (.iload_n 1, 1) := by decide +kernel
theorem dX11_found_2 : decode cX11_found 2 = .ok (.putfield 75, 3) := by decide +kernel
theorem dX11_found_5 : decode cX11_found 5 = .ok (.aload_n 0, 1) := by decide +kernel
theorem dX11_found_6 : decode cX11_found 6 = .ok (.getfield 68, 3) := by decide +kernel
theorem dX11_found_9 : decode cX11_found 9 = .ok (.iload_n 1, 1) := by decide +kernel
theorem dX11_found_10 : decode cX11_found 10 = .ok (.dup2, 1) := by decide +kernel
theorem dX11_found_11 : decode cX11_found 11 = .ok (.iaload, 1) := by decide +kernel
theorem dX11_found_12 : decode cX11_found 12 = .ok (.iconst 1, 1) := by decide +kernel
theorem dX11_found_13 : decode cX11_found 13 = .ok (.iadd, 1) := by decide +kernel
theorem dX11_found_14 : decode cX11_found 14 = .ok (.iastore, 1) := by decide +kernel
theorem dX11_found_15 : decode cX11_found 15 = .ok (.bipush (-3), 2) := by decide +kernel
theorem dX11_found_17 : decode cX11_found 17 = .ok (.ireturn, 1) := by decide +kernel
theorem dX11_letArrive_0 : decode cX11_letArrive 0 = .ok (.aload_n 1, 1) := by decide +kernel
theorem dX11_letArrive_1 : decode cX11_letArrive 1 = .ok (.getfield 181, 3) := by decide +kernel
theorem dX11_letArrive_4 : decode cX11_letArrive 4 = .ok (.iconst 5, 1) := by decide +kernel
theorem dX11_letArrive_5 : decode cX11_letArrive 5 = .ok (.if_icmp .ne 22, 3) := by decide +kernel
theorem dX11_letArrive_8 : decode cX11_letArrive 8 = .ok (.aload_n 1, 1) := by decide +kernel
theorem dX11_letArrive_9 : decode cX11_letArrive 9 = .ok (.getfield 291, 3) := by decide +kernel
theorem dX11_letArrive_12 : decode cX11_letArrive 12 = .ok (.aload_n 0, 1) := by decide +kernel
theorem dX11_letArrive_13 : decode cX11_letArrive 13 = .ok (.getfield 71, 3) := by decide +kernel
theorem dX11_letArrive_16 : decode cX11_letArrive 16 = .ok (.if_icmp .gt 11, 3) := by decide +kernel
theorem dX11_letArrive_19 : decode cX11_letArrive 19 = .ok (.aload_n 0, 1) := by decide +kernel
theorem dX11_letArrive_20 : decode cX11_letArrive 20 = .ok (.aload_n 1, 1) := by decide +kernel
theorem dX11_letArrive_21 : decode cX11_letArrive 21 = .ok (.invokevirtual 479, 3) := by decide +kernel
theorem dX11_letArrive_24 : decode cX11_letArrive 24 = .ok (.goto 72, 3) := by decide +kernel
theorem dX11_letArrive_27 : decode cX11_letArrive 27 = .ok (.aload_n 1, 1) := by decide +kernel
theorem dX11_letArrive_28 : decode cX11_letArrive 28 = .ok (.getfield 181, 3) := by decide +kernel
theorem dX11_letArrive_31 : decode cX11_letArrive 31 = .ok (.iconst 3, 1) := by decide +kernel
theorem dX11_letArrive_32 : decode cX11_letArrive 32 = .ok (.if_icmp .ne 21, 3) := by decide +kernel
theorem dX11_letArrive_35 : decode cX11_letArrive 35 = .ok (.aload_n 1, 1) := by decide +kernel
theorem dX11_letArrive_36 : decode cX11_letArrive 36 = .ok (.getfield 184, 3) := by decide +kernel
theorem dX11_letArrive_39 : decode cX11_letArrive 39 = .ok (.aload_n 0, 1) := by decide +kernel
theorem dX11_letArrive_40 : decode cX11_letArrive 40 = .ok (.getfield 71, 3) := by decide +kernel
theorem dX11_letArrive_43 : decode cX11_letArrive 43 = .ok (.if_icmp .gt 10, 3) := by decide +kernel
theorem dX11_letArrive_46 : decode cX11_letArrive 46 = .ok (.aload_n 1, 1) := by decide +kernel
theorem dX11_letArrive_47 : decode cX11_letArrive 47 = .ok (.invokevirtual 209, 3) := by decide +kernel
theorem dX11_letArrive_50 : decode cX11_letArrive 50 = .ok (.goto 46, 3) := by decide +kernel
theorem dX11_letArrive_53 : decode cX11_letArrive 53 = .ok (.aload_n 1, 1) := by decide +kernel
theorem dX11_letArrive_54 : decode cX11_letArrive 54 = .ok (.getfield 181, 3) := by decide +kernel
theorem dX11_letArrive_57 : decode cX11_letArrive 57 = .ok (.iconst 2, 1) := by decide +kernel
theorem dX11_letArrive_58 : decode cX11_letArrive 58 = .ok (.if_icmp .ne 38, 3) := by decide +kernel
theorem dX11_letArrive_61 : decode cX11_letArrive 61 = .ok (.aload_n 1, 1) := by decide +kernel
theorem dX11_letArrive_62 : decode cX11_letArrive 62 = .ok (.getfield 184, 3) := by decide +kernel
theorem dX11_letArrive_65 : decode cX11_letArrive 65 = .ok (.iconst 1, 1) := by decide +kernel
theorem dX11_letArrive_66 : decode cX11_letArrive 66 = .ok (.iadd, 1) := by decide +kernel
theorem dX11_letArrive_67 : decode cX11_letArrive 67 = .ok (.sipush 1440, 3) := by decide +kernel
theorem dX11_letArrive_70 : decode cX11_letArrive 70 = .ok (.imul, 1) := by decide +kernel
theorem dX11_letArrive_71 : decode cX11_letArrive 71 = .ok (.aload_n 0, 1) := by decide +kernel
theorem dX11_letArrive_72 : decode cX11_letArrive 72 = .ok (.getfield 71, 3) := by decide +kernel
theorem dX11_letArrive_75 : decode cX11_letArrive 75 = .ok (.if_icmp .gt 21, 3) := by decide +kernel
theorem dX11_letArrive_78 : decode cX11_letArrive 78 = .ok (.aload_n 1, 1) := by decide +kernel
theorem dX11_letArrive_79 : decode cX11_letArrive 79 = .ok (.aload_n 1, 1) := by decide +kernel
theorem dX11_letArrive_80 : decode cX11_letArrive 80 = .ok (.getfield 184, 3) := by decide +kernel
theorem dX11_letArrive_83 : decode cX11_letArrive 83 = .ok (.iconst 1, 1) := by decide +kernel
theorem dX11_letArrive_84 : decode cX11_letArrive 84 = .ok (.iadd, 1) := by decide +kernel
theorem dX11_letArrive_85 : decode cX11_letArrive 85 = .ok (.sipush 1440, 3) := by decide +kernel
theorem dX11_letArrive_88 : decode cX11_letArrive 88 = .ok (.imul, 1) := by decide +kernel
theorem dX11_letArrive_89 : decode cX11_letArrive 89 = .ok (.invokevirtual 202, 3) := by decide +kernel
theorem dX11_letArrive_92 : decode cX11_letArrive 92 = .ok (.aload_n 1, 1) := by decide +kernel
theorem dX11_letArrive_93 : decode cX11_letArrive 93 = .ok (.invokevirtual 209, 3) := by decide +kernel
theorem dX11_letArrive_96 : decode cX11_letArrive 96 = .ok (.return_, 1) := by decide +kernel
theorem dX11_letSit_0 : decode cX11_letSit 0 = .ok (.aload_n 1, 1) := by decide +kernel
theorem dX11_letSit_1 : decode cX11_letSit 1 = .ok (.getfield 294, 3) := by decide +kernel
theorem dX11_letSit_4 : decode cX11_letSit 4 = .ok (.astore_n 2, 1) := by decide +kernel
theorem dX11_letSit_5 : decode cX11_letSit 5 = .ok (.aload_n 2, 1) := by decide +kernel
theorem dX11_letSit_6 : decode cX11_letSit 6 = .ok (.ifnonnull 4, 3) := by decide +kernel
theorem dX11_letSit_9 : decode cX11_letSit 9 = .ok (.return_, 1) := by decide +kernel
theorem dX11_letSit_10 : decode cX11_letSit 10 = .ok (.aload_n 1, 1) := by decide +kernel
theorem dX11_letSit_11 : decode cX11_letSit 11 = .ok (.getfield 291, 3) := by decide +kernel
theorem dX11_letSit_14 : decode cX11_letSit 14 = .ok (.istore_n 3, 1) := by decide +kernel
theorem dX11_letSit_15 : decode cX11_letSit 15 = .ok (.aload_n 2, 1) := by decide +kernel
theorem dX11_letSit_16 : decode cX11_letSit 16 = .ok (.iconst 2, 1) := by decide +kernel
theorem dX11_letSit_17 : decode cX11_letSit 17 = .ok (.iload_n 3, 1) := by decide +kernel
theorem dX11_letSit_18 : decode cX11_letSit 18 = .ok (.invokevirtual 266, 3) := by decide +kernel
theorem dX11_letSit_21 : decode cX11_letSit 21 = .ok (.aload_n 1, 1) := by decide +kernel
theorem dX11_letSit_22 : decode cX11_letSit 22 = .ok (.aconst_null, 1) := by decide +kernel
theorem dX11_letSit_23 : decode cX11_letSit 23 = .ok (.putfield 294, 3) := by decide +kernel
theorem dX11_letSit_26 : decode cX11_letSit 26 = .ok (.aload_n 1, 1) := by decide +kernel
theorem dX11_letSit_27 : decode cX11_letSit 27 = .ok (.iconst 1, 1) := by decide +kernel
theorem dX11_letSit_28 : decode cX11_letSit 28 = .ok (.aload_n 2, 1) := by decide +kernel
theorem dX11_letSit_29 : decode cX11_letSit 29 = .ok (.getfield 348, 3) := by decide +kernel
theorem dX11_letSit_32 : decode cX11_letSit 32 = .ok (.invokevirtual 199, 3) := by decide +kernel
theorem dX11_letSit_35 : decode cX11_letSit 35 = .ok (.aload_n 1, 1) := by decide +kernel
theorem dX11_letSit_36 : decode cX11_letSit 36 = .ok (.aload_n 2, 1) := by decide +kernel
theorem dX11_letSit_37 : decode cX11_letSit 37 = .ok (.getfield 348, 3) := by decide +kernel
theorem dX11_letSit_40 : decode cX11_letSit 40 = .ok (.putfield 178, 3) := by decide +kernel
theorem dX11_letSit_43 : decode cX11_letSit 43 = .ok (.aload_n 0, 1) := by decide +kernel
theorem dX11_letSit_44 : decode cX11_letSit 44 = .ok (.getfield 34, 3) := by decide +kernel
theorem dX11_letSit_47 : decode cX11_letSit 47 = .ok (.invokevirtual 139, 3) := by decide +kernel
theorem dX11_letSit_50 : decode cX11_letSit 50 = .ok (.bipush 60, 2) := by decide +kernel
theorem dX11_letSit_52 : decode cX11_letSit 52 = .ok (.if_icmp .ge 35, 3) := by decide +kernel
theorem dX11_letSit_55 : decode cX11_letSit 55 = .ok (.aload_n 1, 1) := by decide +kernel
theorem dX11_letSit_56 : decode cX11_letSit 56 = .ok (.new 482, 3) := by decide +kernel
theorem dX11_letSit_59 : decode cX11_letSit 59 = .ok (.dup, 1) := by decide +kernel
theorem dX11_letSit_60 : decode cX11_letSit 60 = .ok (.aload_n 1, 1) := by decide +kernel
theorem dX11_letSit_61 : decode cX11_letSit 61 = .ok (.getfield 335, 3) := by decide +kernel
theorem dX11_letSit_64 : decode cX11_letSit 64 = .ok (.aload_n 2, 1) := by decide +kernel
theorem dX11_letSit_65 : decode cX11_letSit 65 = .ok (.getfield 348, 3) := by decide +kernel
theorem dX11_letSit_68 : decode cX11_letSit 68 = .ok (.iload_n 3, 1) := by decide +kernel
theorem dX11_letSit_69 : decode cX11_letSit 69 = .ok (.invokespecial 484, 3) := by decide +kernel
theorem dX11_letSit_72 : decode cX11_letSit 72 = .ok (.putfield 486, 3) := by decide +kernel
theorem dX11_letSit_75 : decode cX11_letSit 75 = .ok (.aload_n 0, 1) := by decide +kernel
theorem dX11_letSit_76 : decode cX11_letSit 76 = .ok (.getfield 34, 3) := by decide +kernel
theorem dX11_letSit_79 : decode cX11_letSit 79 = .ok (.aload_n 1, 1) := by decide +kernel
theorem dX11_letSit_80 : decode cX11_letSit 80 = .ok (.getfield 486, 3) := by decide +kernel
theorem dX11_letSit_83 : decode cX11_letSit 83 = .ok (.invokevirtual 165, 3) := by decide +kernel
theorem dX11_letSit_86 : decode cX11_letSit 86 = .ok (.pop, 1) := by decide +kernel
theorem dX11_letSit_87 : decode cX11_letSit 87 = .ok (.return_, 1) := by decide +kernel
theorem dX11_bookMarked_0 : decode cX11_bookMarked 0 = .ok (.iconst 0, 1) := by decide +kernel
theorem dX11_bookMarked_1 : decode cX11_bookMarked 1 = .ok (.istore_n 2, 1) := by decide +kernel
theorem dX11_bookMarked_2 : decode cX11_bookMarked 2 = .ok (.iload_n 2, 1) := by decide +kernel
theorem dX11_bookMarked_3 : decode cX11_bookMarked 3 = .ok (.aload_n 0, 1) := by decide +kernel
theorem dX11_bookMarked_4 : decode cX11_bookMarked 4 = .ok (.getfield 21, 3) := by decide +kernel
theorem dX11_bookMarked_7 : decode cX11_bookMarked 7 = .ok (.invokevirtual 139, 3) := by decide +kernel
theorem dX11_bookMarked_10 : decode cX11_bookMarked 10 = .ok (.if_icmp .ge 39, 3) := by decide +kernel
theorem dX11_bookMarked_13 : decode cX11_bookMarked 13 = .ok (.aload_n 0, 1) := by decide +kernel
theorem dX11_bookMarked_14 : decode cX11_bookMarked 14 = .ok (.getfield 21, 3) := by decide +kernel
theorem dX11_bookMarked_17 : decode cX11_bookMarked 17 = .ok (.iload_n 2, 1) := by decide +kernel
theorem dX11_bookMarked_18 : decode cX11_bookMarked 18 = .ok (.invokevirtual 142, 3) := by decide +kernel
theorem dX11_bookMarked_21 : decode cX11_bookMarked 21 = .ok (.checkcast 146, 3) := by decide +kernel
theorem dX11_bookMarked_24 : decode cX11_bookMarked 24 = .ok (.getfield 490, 3) := by decide +kernel
theorem dX11_bookMarked_27 : decode cX11_bookMarked 27 = .ok (.iload_n 1, 1) := by decide +kernel
theorem dX11_bookMarked_28 : decode cX11_bookMarked 28 = .ok (.if_icmp .ne 15, 3) := by decide +kernel
theorem dX11_bookMarked_31 : decode cX11_bookMarked 31 = .ok (.aload_n 0, 1) := by decide +kernel
theorem dX11_bookMarked_32 : decode cX11_bookMarked 32 = .ok (.getfield 21, 3) := by decide +kernel
theorem dX11_bookMarked_35 : decode cX11_bookMarked 35 = .ok (.iload_n 2, 1) := by decide +kernel
theorem dX11_bookMarked_36 : decode cX11_bookMarked 36 = .ok (.invokevirtual 142, 3) := by decide +kernel
theorem dX11_bookMarked_39 : decode cX11_bookMarked 39 = .ok (.checkcast 146, 3) := by decide +kernel
theorem dX11_bookMarked_42 : decode cX11_bookMarked 42 = .ok (.areturn, 1) := by decide +kernel
theorem dX11_bookMarked_43 : decode cX11_bookMarked 43 = .ok (.iinc 2 1, 3) := by decide +kernel
theorem dX11_bookMarked_46 : decode cX11_bookMarked 46 = .ok (.goto (-44), 3) := by decide +kernel
theorem dX11_bookMarked_49 : decode cX11_bookMarked 49 = .ok (.aconst_null, 1) := by decide +kernel
theorem dX11_bookMarked_50 : decode cX11_bookMarked 50 = .ok (.areturn, 1) := by decide +kernel
theorem dX11_countHadBy_0 : decode cX11_countHadBy 0 = .ok (.iconst 0, 1) := by decide +kernel
theorem dX11_countHadBy_1 : decode cX11_countHadBy 1 = .ok (.istore_n 2, 1) := by decide +kernel
theorem dX11_countHadBy_2 : decode cX11_countHadBy 2 = .ok (.iconst 0, 1) := by decide +kernel
theorem dX11_countHadBy_3 : decode cX11_countHadBy 3 = .ok (.istore_n 3, 1) := by decide +kernel
theorem dX11_countHadBy_4 : decode cX11_countHadBy 4 = .ok (.iload_n 3, 1) := by decide +kernel
theorem dX11_countHadBy_5 : decode cX11_countHadBy 5 = .ok (.aload_n 0, 1) := by decide +kernel
theorem dX11_countHadBy_6 : decode cX11_countHadBy 6 = .ok (.getfield 21, 3) := by decide +kernel
theorem dX11_countHadBy_9 : decode cX11_countHadBy 9 = .ok (.invokevirtual 139, 3) := by decide +kernel
theorem dX11_countHadBy_12 : decode cX11_countHadBy 12 = .ok (.if_icmp .ge 47, 3) := by decide +kernel
theorem dX11_countHadBy_15 : decode cX11_countHadBy 15 = .ok (.aload_n 0, 1) := by decide +kernel
theorem dX11_countHadBy_16 : decode cX11_countHadBy 16 = .ok (.getfield 21, 3) := by decide +kernel
theorem dX11_countHadBy_19 : decode cX11_countHadBy 19 = .ok (.iload_n 3, 1) := by decide +kernel
theorem dX11_countHadBy_20 : decode cX11_countHadBy 20 = .ok (.invokevirtual 142, 3) := by decide +kernel
theorem dX11_countHadBy_23 : decode cX11_countHadBy 23 = .ok (.checkcast 146, 3) := by decide +kernel
theorem dX11_countHadBy_26 : decode cX11_countHadBy 26 = .ok (.invokevirtual 175, 3) := by decide +kernel
theorem dX11_countHadBy_29 : decode cX11_countHadBy 29 = .ok (.ifCond .eq 24, 3) := by decide +kernel
theorem dX11_countHadBy_32 : decode cX11_countHadBy 32 = .ok (.aload_n 0, 1) := by decide +kernel
theorem dX11_countHadBy_33 : decode cX11_countHadBy 33 = .ok (.getfield 21, 3) := by decide +kernel
theorem dX11_countHadBy_36 : decode cX11_countHadBy 36 = .ok (.iload_n 3, 1) := by decide +kernel
theorem dX11_countHadBy_37 : decode cX11_countHadBy 37 = .ok (.invokevirtual 142, 3) := by decide +kernel
theorem dX11_countHadBy_40 : decode cX11_countHadBy 40 = .ok (.checkcast 146, 3) := by decide +kernel
theorem dX11_countHadBy_43 : decode cX11_countHadBy 43 = .ok (.getfield 178, 3) := by decide +kernel
theorem dX11_countHadBy_46 : decode cX11_countHadBy 46 = .ok (.iload_n 1, 1) := by decide +kernel
theorem dX11_countHadBy_47 : decode cX11_countHadBy 47 = .ok (.if_icmp .ne 6, 3) := by decide +kernel
theorem dX11_countHadBy_50 : decode cX11_countHadBy 50 = .ok (.iinc 2 1, 3) := by decide +kernel
theorem dX11_countHadBy_53 : decode cX11_countHadBy 53 = .ok (.iinc 3 1, 3) := by decide +kernel
theorem dX11_countHadBy_56 : decode cX11_countHadBy 56 = .ok (.goto (-52), 3) := by decide +kernel
theorem dX11_countHadBy_59 : decode cX11_countHadBy 59 = .ok (.iload_n 2, 1) := by decide +kernel
theorem dX11_countHadBy_60 : decode cX11_countHadBy 60 = .ok (.ireturn, 1) := by decide +kernel
theorem dX11_hasFigure_0 : decode cX11_hasFigure 0 = .ok (.aload_n 0, 1) := by decide +kernel
theorem dX11_hasFigure_1 : decode cX11_hasFigure 1 = .ok (.iload_n 1, 1) := by decide +kernel
theorem dX11_hasFigure_2 : decode cX11_hasFigure 2 = .ok (.invokevirtual 111, 3) := by decide +kernel
theorem dX11_hasFigure_5 : decode cX11_hasFigure 5 = .ok (.ifCond .eq 29, 3) := by decide +kernel
theorem dX11_hasFigure_8 : decode cX11_hasFigure 8 = .ok (.aload_n 0, 1) := by decide +kernel
theorem dX11_hasFigure_9 : decode cX11_hasFigure 9 = .ok (.getfield 115, 3) := by decide +kernel
theorem dX11_hasFigure_12 : decode cX11_hasFigure 12 = .ok (.iload_n 1, 1) := by decide +kernel
theorem dX11_hasFigure_13 : decode cX11_hasFigure 13 = .ok (.iaload, 1) := by decide +kernel
theorem dX11_hasFigure_14 : decode cX11_hasFigure 14 = .ok (.bipush 48, 2) := by decide +kernel
theorem dX11_hasFigure_16 : decode cX11_hasFigure 16 = .ok (.if_icmp .lt 18, 3) := by decide +kernel
theorem dX11_hasFigure_19 : decode cX11_hasFigure 19 = .ok (.aload_n 0, 1) := by decide +kernel
theorem dX11_hasFigure_20 : decode cX11_hasFigure 20 = .ok (.getfield 115, 3) := by decide +kernel
theorem dX11_hasFigure_23 : decode cX11_hasFigure 23 = .ok (.iload_n 1, 1) := by decide +kernel
theorem dX11_hasFigure_24 : decode cX11_hasFigure 24 = .ok (.iaload, 1) := by decide +kernel
theorem dX11_hasFigure_25 : decode cX11_hasFigure 25 = .ok (.bipush 57, 2) := by decide +kernel
theorem dX11_hasFigure_27 : decode cX11_hasFigure 27 = .ok (.if_icmp .gt 7, 3) := by decide +kernel
theorem dX11_hasFigure_30 : decode cX11_hasFigure 30 = .ok (.iconst 1, 1) := by decide +kernel
theorem dX11_hasFigure_31 : decode cX11_hasFigure 31 = .ok (.goto 4, 3) := by decide +kernel
theorem dX11_hasFigure_34 : decode cX11_hasFigure 34 = .ok (.iconst 0, 1) := by decide +kernel
theorem dX11_hasFigure_35 : decode cX11_hasFigure 35 = .ok (.ireturn, 1) := by decide +kernel
theorem dX11_numberAt_0 : decode cX11_numberAt 0 = .ok (.iconst 0, 1) := by decide +kernel
theorem dX11_numberAt_1 : decode cX11_numberAt 1 = .ok (.istore_n 3, 1) := by decide +kernel
theorem dX11_numberAt_2 : decode cX11_numberAt 2 = .ok (.iload_n 1, 1) := by decide +kernel
theorem dX11_numberAt_3 : decode cX11_numberAt 3 = .ok (.istore 4, 2) := by decide +kernel
theorem dX11_numberAt_5 : decode cX11_numberAt 5 = .ok (.iload 4, 2) := by decide +kernel
theorem dX11_numberAt_7 : decode cX11_numberAt 7 = .ok (.iload_n 1, 1) := by decide +kernel
theorem dX11_numberAt_8 : decode cX11_numberAt 8 = .ok (.iload_n 2, 1) := by decide +kernel
theorem dX11_numberAt_9 : decode cX11_numberAt 9 = .ok (.iadd, 1) := by decide +kernel
theorem dX11_numberAt_10 : decode cX11_numberAt 10 = .ok (.if_icmp .ge 34, 3) := by decide +kernel
theorem dX11_numberAt_13 : decode cX11_numberAt 13 = .ok (.aload_n 0, 1) := by decide +kernel
theorem dX11_numberAt_14 : decode cX11_numberAt 14 = .ok (.iload 4, 2) := by decide +kernel
theorem dX11_numberAt_16 : decode cX11_numberAt 16 = .ok (.invokevirtual 111, 3) := by decide +kernel
theorem dX11_numberAt_19 : decode cX11_numberAt 19 = .ok (.ifCond .eq 25, 3) := by decide +kernel
theorem dX11_numberAt_22 : decode cX11_numberAt 22 = .ok (.bipush 10, 2) := by decide +kernel
theorem dX11_numberAt_24 : decode cX11_numberAt 24 = .ok (.iload_n 3, 1) := by decide +kernel
theorem dX11_numberAt_25 : decode cX11_numberAt 25 = .ok (.imul, 1) := by decide +kernel
theorem dX11_numberAt_26 : decode cX11_numberAt 26 = .ok (.aload_n 0, 1) := by decide +kernel
theorem dX11_numberAt_27 : decode cX11_numberAt 27 = .ok (.getfield 115, 3) := by decide +kernel
theorem dX11_numberAt_30 : decode cX11_numberAt 30 = .ok (.iload 4, 2) := by decide +kernel
theorem dX11_numberAt_32 : decode cX11_numberAt 32 = .ok (.iaload, 1) := by decide +kernel
theorem dX11_numberAt_33 : decode cX11_numberAt 33 = .ok (.iadd, 1) := by decide +kernel
theorem dX11_numberAt_34 : decode cX11_numberAt 34 = .ok (.bipush 48, 2) := by decide +kernel
theorem dX11_numberAt_36 : decode cX11_numberAt 36 = .ok (.isub, 1) := by decide +kernel
theorem dX11_numberAt_37 : decode cX11_numberAt 37 = .ok (.istore_n 3, 1) := by decide +kernel
theorem dX11_numberAt_38 : decode cX11_numberAt 38 = .ok (.iinc 4 1, 3) := by decide +kernel
theorem dX11_numberAt_41 : decode cX11_numberAt 41 = .ok (.goto (-36), 3) := by decide +kernel
theorem dX11_numberAt_44 : decode cX11_numberAt 44 = .ok (.iload_n 3, 1) := by decide +kernel
theorem dX11_numberAt_45 : decode cX11_numberAt 45 = .ok (.ireturn, 1) := by decide +kernel
theorem dX11_readMark_0 : decode cX11_readMark 0 = .ok (.iconst 0, 1) := by decide +kernel
theorem dX11_readMark_1 : decode cX11_readMark 1 = .ok (.istore_n 2, 1) := by decide +kernel
theorem dX11_readMark_2 : decode cX11_readMark 2 = .ok (.iload_n 2, 1) := by decide +kernel
theorem dX11_readMark_3 : decode cX11_readMark 3 = .ok (.iconst 4, 1) := by decide +kernel
theorem dX11_readMark_4 : decode cX11_readMark 4 = .ok (.if_icmp .ge 19, 3) := by decide +kernel
theorem dX11_readMark_7 : decode cX11_readMark 7 = .ok (.aload_n 0, 1) := by decide +kernel
theorem dX11_readMark_8 : decode cX11_readMark 8 = .ok (.iload_n 1, 1) := by decide +kernel
theorem dX11_readMark_9 : decode cX11_readMark 9 = .ok (.iload_n 2, 1) := by decide +kernel
theorem dX11_readMark_10 : decode cX11_readMark 10 = .ok (.iadd, 1) := by decide +kernel
theorem dX11_readMark_11 : decode cX11_readMark 11 = .ok (.invokestatic 493, 3) := by decide +kernel
theorem dX11_readMark_14 : decode cX11_readMark 14 = .ok (.ifCond .eq 9, 3) := by decide +kernel
theorem dX11_readMark_17 : decode cX11_readMark 17 = .ok (.iinc 2 1, 3) := by decide +kernel
theorem dX11_readMark_20 : decode cX11_readMark 20 = .ok (.goto (-18), 3) := by decide +kernel
theorem dX11_readMark_23 : decode cX11_readMark 23 = .ok (.iload_n 2, 1) := by decide +kernel
theorem dX11_readMark_24 : decode cX11_readMark 24 = .ok (.ifCond .ne 8, 3) := by decide +kernel
theorem dX11_readMark_27 : decode cX11_readMark 27 = .ok (.bipush (-9), 2) := by decide +kernel
theorem dX11_readMark_29 : decode cX11_readMark 29 = .ok (.goto 9, 3) := by decide +kernel
theorem dX11_readMark_32 : decode cX11_readMark 32 = .ok (.aload_n 0, 1) := by decide +kernel
theorem dX11_readMark_33 : decode cX11_readMark 33 = .ok (.iload_n 1, 1) := by decide +kernel
theorem dX11_readMark_34 : decode cX11_readMark 34 = .ok (.iload_n 2, 1) := by decide +kernel
theorem dX11_readMark_35 : decode cX11_readMark 35 = .ok (.invokestatic 497, 3) := by decide +kernel
theorem dX11_readMark_38 : decode cX11_readMark 38 = .ok (.ireturn, 1) := by decide +kernel
theorem dX11_readItems_0 : decode cX11_readItems 0 = .ok (.iconst 0, 1) := by decide +kernel
theorem dX11_readItems_1 : decode cX11_readItems 1 = .ok (.istore_n 2, 1) := by decide +kernel
theorem dX11_readItems_2 : decode cX11_readItems 2 = .ok (.iload_n 2, 1) := by decide +kernel
theorem dX11_readItems_3 : decode cX11_readItems 3 = .ok (.aload_n 0, 1) := by decide +kernel
theorem dX11_readItems_4 : decode cX11_readItems 4 = .ok (.getfield 118, 3) := by decide +kernel
theorem dX11_readItems_7 : decode cX11_readItems 7 = .ok (.if_icmp .ge 98, 3) := by decide +kernel
theorem dX11_readItems_10 : decode cX11_readItems 10 = .ok (.iload_n 2, 1) := by decide +kernel
theorem dX11_readItems_11 : decode cX11_readItems 11 = .ok (.bipush 40, 2) := by decide +kernel
theorem dX11_readItems_13 : decode cX11_readItems 13 = .ok (.if_icmp .ge 92, 3) := by decide +kernel
theorem dX11_readItems_16 : decode cX11_readItems 16 = .ok (.aload_n 0, 1) := by decide +kernel
theorem dX11_readItems_17 : decode cX11_readItems 17 = .ok (.getfield 115, 3) := by decide +kernel
theorem dX11_readItems_20 : decode cX11_readItems 20 = .ok (.iload_n 2, 1) := by decide +kernel
theorem dX11_readItems_21 : decode cX11_readItems 21 = .ok (.iaload, 1) := by decide +kernel
theorem dX11_readItems_22 : decode cX11_readItems 22 = .ok (.istore_n 3, 1) := by decide +kernel
theorem dX11_readItems_23 : decode cX11_readItems 23 = .ok (.iload_n 3, 1) := by decide +kernel
theorem dX11_readItems_24 : decode cX11_readItems 24 = .ok (.invokestatic 501, 3) := by decide +kernel
theorem dX11_readItems_27 : decode cX11_readItems 27 = .ok (.istore 4, 2) := by decide +kernel
theorem dX11_readItems_29 : decode cX11_readItems 29 = .ok (.iload 4, 2) := by decide +kernel
theorem dX11_readItems_31 : decode cX11_readItems 31 = .ok (.bipush (-9), 2) := by decide +kernel
theorem dX11_readItems_33 : decode cX11_readItems 33 = .ok (.if_icmp .ne 11, 3) := by decide +kernel
theorem dX11_readItems_36 : decode cX11_readItems 36 = .ok (.iload_n 3, 1) := by decide +kernel
theorem dX11_readItems_37 : decode cX11_readItems 37 = .ok (.bipush 32, 2) := by decide +kernel
theorem dX11_readItems_39 : decode cX11_readItems 39 = .ok (.if_icmp .eq 5, 3) := by decide +kernel
theorem dX11_readItems_42 : decode cX11_readItems 42 = .ok (.iload_n 2, 1) := by decide +kernel
theorem dX11_readItems_43 : decode cX11_readItems 43 = .ok (.ireturn, 1) := by decide +kernel
theorem dX11_readItems_44 : decode cX11_readItems 44 = .ok (.iinc 2 1, 3) := by decide +kernel
theorem dX11_readItems_47 : decode cX11_readItems 47 = .ok (.iload 4, 2) := by decide +kernel
theorem dX11_readItems_49 : decode cX11_readItems 49 = .ok (.ifCond .lt 53, 3) := by decide +kernel
theorem dX11_readItems_52 : decode cX11_readItems 52 = .ok (.iload 4, 2) := by decide +kernel
theorem dX11_readItems_54 : decode cX11_readItems 54 = .ok (.aload_n 1, 1) := by decide +kernel
theorem dX11_readItems_55 : decode cX11_readItems 55 = .ok (.arraylength, 1) := by decide +kernel
theorem dX11_readItems_56 : decode cX11_readItems 56 = .ok (.if_icmp .ge 46, 3) := by decide +kernel
theorem dX11_readItems_59 : decode cX11_readItems 59 = .ok (.aload_n 0, 1) := by decide +kernel
theorem dX11_readItems_60 : decode cX11_readItems 60 = .ok (.iload_n 2, 1) := by decide +kernel
theorem dX11_readItems_61 : decode cX11_readItems 61 = .ok (.invokestatic 493, 3) := by decide +kernel
theorem dX11_readItems_64 : decode cX11_readItems 64 = .ok (.ifCond .ne 5, 3) := by decide +kernel
theorem dX11_readItems_67 : decode cX11_readItems 67 = .ok (.iload_n 2, 1) := by decide +kernel
theorem dX11_readItems_68 : decode cX11_readItems 68 = .ok (.ireturn, 1) := by decide +kernel
theorem dX11_readItems_69 : decode cX11_readItems 69 = .ok (.aload_n 0, 1) := by decide +kernel
theorem dX11_readItems_70 : decode cX11_readItems 70 = .ok (.iload_n 2, 1) := by decide +kernel
theorem dX11_readItems_71 : decode cX11_readItems 71 = .ok (.iconst 1, 1) := by decide +kernel
theorem dX11_readItems_72 : decode cX11_readItems 72 = .ok (.iadd, 1) := by decide +kernel
theorem dX11_readItems_73 : decode cX11_readItems 73 = .ok (.invokestatic 493, 3) := by decide +kernel
theorem dX11_readItems_76 : decode cX11_readItems 76 = .ok (.ifCond .eq 7, 3) := by decide +kernel
theorem dX11_readItems_79 : decode cX11_readItems 79 = .ok (.iconst 2, 1) := by decide +kernel
theorem dX11_readItems_80 : decode cX11_readItems 80 = .ok (.goto 4, 3) := by decide +kernel
theorem dX11_readItems_83 : decode cX11_readItems 83 = .ok (.iconst 1, 1) := by decide +kernel
theorem dX11_readItems_84 : decode cX11_readItems 84 = .ok (.istore 5, 2) := by decide +kernel
theorem dX11_readItems_86 : decode cX11_readItems 86 = .ok (.aload_n 1, 1) := by decide +kernel
theorem dX11_readItems_87 : decode cX11_readItems 87 = .ok (.iload 4, 2) := by decide +kernel
theorem dX11_readItems_89 : decode cX11_readItems 89 = .ok (.aload_n 0, 1) := by decide +kernel
theorem dX11_readItems_90 : decode cX11_readItems 90 = .ok (.iload_n 2, 1) := by decide +kernel
theorem dX11_readItems_91 : decode cX11_readItems 91 = .ok (.iload 5, 2) := by decide +kernel
theorem dX11_readItems_93 : decode cX11_readItems 93 = .ok (.invokestatic 497, 3) := by decide +kernel
theorem dX11_readItems_96 : decode cX11_readItems 96 = .ok (.iastore, 1) := by decide +kernel
theorem dX11_readItems_97 : decode cX11_readItems 97 = .ok (.iload_n 2, 1) := by decide +kernel
theorem dX11_readItems_98 : decode cX11_readItems 98 = .ok (.iload 5, 2) := by decide +kernel
theorem dX11_readItems_100 : decode cX11_readItems 100 = .ok (.iadd, 1) := by decide +kernel
theorem dX11_readItems_101 : decode cX11_readItems 101 = .ok (.istore_n 2, 1) := by decide +kernel
theorem dX11_readItems_102 : decode cX11_readItems 102 = .ok (.goto (-100), 3) := by decide +kernel
theorem dX11_readItems_105 : decode cX11_readItems 105 = .ok (.bipush (-9), 2) := by decide +kernel
theorem dX11_readItems_107 : decode cX11_readItems 107 = .ok (.ireturn, 1) := by decide +kernel
theorem dX11_letterOf_0 : decode cX11_letterOf 0 = .ok (.iload_n 0, 1) := by decide +kernel
theorem dX11_letterOf_1 : decode cX11_letterOf 1 = .ok (.lookupswitch 51 #[(69, 49), (75, 45), (81, 43), (87, 47)], 43) := by decide +kernel
theorem dX11_letterOf_44 : decode cX11_letterOf 44 = .ok (.iconst 0, 1) := by decide +kernel
theorem dX11_letterOf_45 : decode cX11_letterOf 45 = .ok (.ireturn, 1) := by decide +kernel
theorem dX11_letterOf_46 : decode cX11_letterOf 46 = .ok (.iconst 1, 1) := by decide +kernel
theorem dX11_letterOf_47 : decode cX11_letterOf 47 = .ok (.ireturn, 1) := by decide +kernel
theorem dX11_letterOf_48 : decode cX11_letterOf 48 = .ok (.iconst 2, 1) := by decide +kernel
theorem dX11_letterOf_49 : decode cX11_letterOf 49 = .ok (.ireturn, 1) := by decide +kernel
theorem dX11_letterOf_50 : decode cX11_letterOf 50 = .ok (.iconst 3, 1) := by decide +kernel
theorem dX11_letterOf_51 : decode cX11_letterOf 51 = .ok (.ireturn, 1) := by decide +kernel
theorem dX11_letterOf_52 : decode cX11_letterOf 52 = .ok (.bipush (-9), 2) := by decide +kernel
theorem dX11_letterOf_54 : decode cX11_letterOf 54 = .ok (.ireturn, 1) := by decide +kernel
theorem dX11_inForceNow_0 : decode cX11_inForceNow 0 = .ok (.aload_n 0, 1) := by decide +kernel
theorem dX11_inForceNow_1 : decode cX11_inForceNow 1 = .ok (.iload_n 1, 1) := by decide +kernel
theorem dX11_inForceNow_2 : decode cX11_inForceNow 2 = .ok (.aload_n 0, 1) := by decide +kernel
theorem dX11_inForceNow_3 : decode cX11_inForceNow 3 = .ok (.getfield 71, 3) := by decide +kernel
theorem dX11_inForceNow_6 : decode cX11_inForceNow 6 = .ok (.invokestatic 193, 3) := by decide +kernel
theorem dX11_inForceNow_9 : decode cX11_inForceNow 9 = .ok (.aload_n 0, 1) := by decide +kernel
theorem dX11_inForceNow_10 : decode cX11_inForceNow 10 = .ok (.getfield 71, 3) := by decide +kernel
theorem dX11_inForceNow_13 : decode cX11_inForceNow 13 = .ok (.invokestatic 193, 3) := by decide +kernel
theorem dX11_inForceNow_16 : decode cX11_inForceNow 16 = .ok (.invokevirtual 229, 3) := by decide +kernel
theorem dX11_inForceNow_19 : decode cX11_inForceNow 19 = .ok (.ireturn, 1) := by decide +kernel
theorem dX11_inForce_0 : decode cX11_inForce 0 = .ok (.aload_n 0, 1) := by decide +kernel
theorem dX11_inForce_1 : decode cX11_inForce 1 = .ok (.iload_n 1, 1) := by decide +kernel
theorem dX11_inForce_2 : decode cX11_inForce 2 = .ok (.iload_n 2, 1) := by decide +kernel
theorem dX11_inForce_3 : decode cX11_inForce 3 = .ok (.iload_n 3, 1) := by decide +kernel
theorem dX11_inForce_4 : decode cX11_inForce 4 = .ok (.invokevirtual 233, 3) := by decide +kernel
theorem dX11_inForce_7 : decode cX11_inForce 7 = .ok (.istore 4, 2) := by decide +kernel
theorem dX11_inForce_9 : decode cX11_inForce 9 = .ok (.iload 4, 2) := by decide +kernel
theorem dX11_inForce_11 : decode cX11_inForce 11 = .ok (.ifCond .lt 33, 3) := by decide +kernel
theorem dX11_inForce_14 : decode cX11_inForce 14 = .ok (.iload 4, 2) := by decide +kernel
theorem dX11_inForce_16 : decode cX11_inForce 16 = .ok (.aload_n 0, 1) := by decide +kernel
theorem dX11_inForce_17 : decode cX11_inForce 17 = .ok (.getfield 28, 3) := by decide +kernel
theorem dX11_inForce_20 : decode cX11_inForce 20 = .ok (.invokevirtual 139, 3) := by decide +kernel
theorem dX11_inForce_23 : decode cX11_inForce 23 = .ok (.if_icmp .ge 21, 3) := by decide +kernel
theorem dX11_inForce_26 : decode cX11_inForce 26 = .ok (.aload_n 0, 1) := by decide +kernel
theorem dX11_inForce_27 : decode cX11_inForce 27 = .ok (.getfield 28, 3) := by decide +kernel
theorem dX11_inForce_30 : decode cX11_inForce 30 = .ok (.iload 4, 2) := by decide +kernel
theorem dX11_inForce_32 : decode cX11_inForce 32 = .ok (.invokevirtual 142, 3) := by decide +kernel
theorem dX11_inForce_35 : decode cX11_inForce 35 = .ok (.checkcast 219, 3) := by decide +kernel
theorem dX11_inForce_38 : decode cX11_inForce 38 = .ok (.getfield 223, 3) := by decide +kernel
theorem dX11_inForce_41 : decode cX11_inForce 41 = .ok (.iload_n 1, 1) := by decide +kernel
theorem dX11_inForce_42 : decode cX11_inForce 42 = .ok (.iaload, 1) := by decide +kernel
theorem dX11_inForce_43 : decode cX11_inForce 43 = .ok (.ireturn, 1) := by decide +kernel
theorem dX11_inForce_44 : decode cX11_inForce 44 = .ok (.iload_n 1, 1) := by decide +kernel
theorem dX11_inForce_45 : decode cX11_inForce 45 = .ok (.lookupswitch 32 #[(0, 27), (1, 30)], 27) := by decide +kernel
theorem dX11_inForce_72 : decode cX11_inForce 72 = .ok (.bipush 9, 2) := by decide +kernel
theorem dX11_inForce_74 : decode cX11_inForce 74 = .ok (.ireturn, 1) := by decide +kernel
theorem dX11_inForce_75 : decode cX11_inForce 75 = .ok (.iconst 3, 1) := by decide +kernel
theorem dX11_inForce_76 : decode cX11_inForce 76 = .ok (.ireturn, 1) := by decide +kernel
theorem dX11_inForce_77 : decode cX11_inForce 77 = .ok (.iconst 0, 1) := by decide +kernel
theorem dX11_inForce_78 : decode cX11_inForce 78 = .ok (.ireturn, 1) := by decide +kernel
theorem dX11_ruleInForce_0 : decode cX11_ruleInForce 0 = .ok (.iconst (-1), 1) := by decide +kernel
theorem dX11_ruleInForce_1 : decode cX11_ruleInForce 1 = .ok (.istore 4, 2) := by decide +kernel
theorem dX11_ruleInForce_3 : decode cX11_ruleInForce 3 = .ok (.bipush (-9), 2) := by decide +kernel
theorem dX11_ruleInForce_5 : decode cX11_ruleInForce 5 = .ok (.istore 5, 2) := by decide +kernel
theorem dX11_ruleInForce_7 : decode cX11_ruleInForce 7 = .ok (.iconst 0, 1) := by decide +kernel
theorem dX11_ruleInForce_8 : decode cX11_ruleInForce 8 = .ok (.istore 6, 2) := by decide +kernel
theorem dX11_ruleInForce_10 : decode cX11_ruleInForce 10 = .ok (.iload 6, 2) := by decide +kernel
theorem dX11_ruleInForce_12 : decode cX11_ruleInForce 12 = .ok (.aload_n 0, 1) := by decide +kernel
theorem dX11_ruleInForce_13 : decode cX11_ruleInForce 13 = .ok (.getfield 28, 3) := by decide +kernel
theorem dX11_ruleInForce_16 : decode cX11_ruleInForce 16 = .ok (.invokevirtual 139, 3) := by decide +kernel
theorem dX11_ruleInForce_19 : decode cX11_ruleInForce 19 = .ok (.if_icmp .ge 68, 3) := by decide +kernel
theorem dX11_ruleInForce_22 : decode cX11_ruleInForce 22 = .ok (.aload_n 0, 1) := by decide +kernel
theorem dX11_ruleInForce_23 : decode cX11_ruleInForce 23 = .ok (.getfield 28, 3) := by decide +kernel
theorem dX11_ruleInForce_26 : decode cX11_ruleInForce 26 = .ok (.iload 6, 2) := by decide +kernel
theorem dX11_ruleInForce_28 : decode cX11_ruleInForce 28 = .ok (.invokevirtual 142, 3) := by decide +kernel
theorem dX11_ruleInForce_31 : decode cX11_ruleInForce 31 = .ok (.checkcast 219, 3) := by decide +kernel
theorem dX11_ruleInForce_34 : decode cX11_ruleInForce 34 = .ok (.astore 7, 2) := by decide +kernel
theorem dX11_ruleInForce_36 : decode cX11_ruleInForce 36 = .ok (.aload 7, 2) := by decide +kernel
theorem dX11_ruleInForce_38 : decode cX11_ruleInForce 38 = .ok (.getfield 236, 3) := by decide +kernel
theorem dX11_ruleInForce_41 : decode cX11_ruleInForce 41 = .ok (.iload_n 2, 1) := by decide +kernel
theorem dX11_ruleInForce_42 : decode cX11_ruleInForce 42 = .ok (.if_icmp .gt 39, 3) := by decide +kernel
theorem dX11_ruleInForce_45 : decode cX11_ruleInForce 45 = .ok (.aload 7, 2) := by decide +kernel
theorem dX11_ruleInForce_47 : decode cX11_ruleInForce 47 = .ok (.getfield 236, 3) := by decide +kernel
theorem dX11_ruleInForce_50 : decode cX11_ruleInForce 50 = .ok (.iload 4, 2) := by decide +kernel
theorem dX11_ruleInForce_52 : decode cX11_ruleInForce 52 = .ok (.if_icmp .lt 29, 3) := by decide +kernel
theorem dX11_ruleInForce_55 : decode cX11_ruleInForce 55 = .ok (.aload 7, 2) := by decide +kernel
theorem dX11_ruleInForce_57 : decode cX11_ruleInForce 57 = .ok (.iload_n 1, 1) := by decide +kernel
theorem dX11_ruleInForce_58 : decode cX11_ruleInForce 58 = .ok (.aload 7, 2) := by decide +kernel
theorem dX11_ruleInForce_60 : decode cX11_ruleInForce 60 = .ok (.getfield 236, 3) := by decide +kernel
theorem dX11_ruleInForce_63 : decode cX11_ruleInForce 63 = .ok (.iload_n 3, 1) := by decide +kernel
theorem dX11_ruleInForce_64 : decode cX11_ruleInForce 64 = .ok (.invokevirtual 239, 3) := by decide +kernel
theorem dX11_ruleInForce_67 : decode cX11_ruleInForce 67 = .ok (.ifCond .eq 14, 3) := by decide +kernel
theorem dX11_ruleInForce_70 : decode cX11_ruleInForce 70 = .ok (.aload 7, 2) := by decide +kernel
theorem dX11_ruleInForce_72 : decode cX11_ruleInForce 72 = .ok (.getfield 236, 3) := by decide +kernel
theorem dX11_ruleInForce_75 : decode cX11_ruleInForce 75 = .ok (.istore 4, 2) := by decide +kernel
theorem dX11_ruleInForce_77 : decode cX11_ruleInForce 77 = .ok (.iload 6, 2) := by decide +kernel
theorem dX11_ruleInForce_79 : decode cX11_ruleInForce 79 = .ok (.istore 5, 2) := by decide +kernel
theorem dX11_ruleInForce_81 : decode cX11_ruleInForce 81 = .ok (.iinc 6 1, 3) := by decide +kernel
theorem dX11_ruleInForce_84 : decode cX11_ruleInForce 84 = .ok (.goto (-74), 3) := by decide +kernel
theorem dX11_ruleInForce_87 : decode cX11_ruleInForce 87 = .ok (.iload 5, 2) := by decide +kernel
theorem dX11_ruleInForce_89 : decode cX11_ruleInForce 89 = .ok (.ireturn, 1) := by decide +kernel
theorem dX11_unlikeBehind_0 : decode cX11_unlikeBehind 0 = .ok (.iload_n 1, 1) := by decide +kernel
theorem dX11_unlikeBehind_1 : decode cX11_unlikeBehind 1 = .ok (.iconst 1, 1) := by decide +kernel
theorem dX11_unlikeBehind_2 : decode cX11_unlikeBehind 2 = .ok (.iadd, 1) := by decide +kernel
theorem dX11_unlikeBehind_3 : decode cX11_unlikeBehind 3 = .ok (.istore 5, 2) := by decide +kernel
theorem dX11_unlikeBehind_5 : decode cX11_unlikeBehind 5 = .ok (.iload 5, 2) := by decide +kernel
theorem dX11_unlikeBehind_7 : decode cX11_unlikeBehind 7 = .ok (.aload_n 0, 1) := by decide +kernel
theorem dX11_unlikeBehind_8 : decode cX11_unlikeBehind 8 = .ok (.getfield 28, 3) := by decide +kernel
theorem dX11_unlikeBehind_11 : decode cX11_unlikeBehind 11 = .ok (.invokevirtual 139, 3) := by decide +kernel
theorem dX11_unlikeBehind_14 : decode cX11_unlikeBehind 14 = .ok (.if_icmp .ge 64, 3) := by decide +kernel
theorem dX11_unlikeBehind_17 : decode cX11_unlikeBehind 17 = .ok (.aload_n 0, 1) := by decide +kernel
theorem dX11_unlikeBehind_18 : decode cX11_unlikeBehind 18 = .ok (.getfield 28, 3) := by decide +kernel
theorem dX11_unlikeBehind_21 : decode cX11_unlikeBehind 21 = .ok (.iload 5, 2) := by decide +kernel
theorem dX11_unlikeBehind_23 : decode cX11_unlikeBehind 23 = .ok (.invokevirtual 142, 3) := by decide +kernel
theorem dX11_unlikeBehind_26 : decode cX11_unlikeBehind 26 = .ok (.checkcast 219, 3) := by decide +kernel
theorem dX11_unlikeBehind_29 : decode cX11_unlikeBehind 29 = .ok (.astore 6, 2) := by decide +kernel
theorem dX11_unlikeBehind_31 : decode cX11_unlikeBehind 31 = .ok (.aload 6, 2) := by decide +kernel
theorem dX11_unlikeBehind_33 : decode cX11_unlikeBehind 33 = .ok (.iload_n 2, 1) := by decide +kernel
theorem dX11_unlikeBehind_34 : decode cX11_unlikeBehind 34 = .ok (.iload_n 3, 1) := by decide +kernel
theorem dX11_unlikeBehind_35 : decode cX11_unlikeBehind 35 = .ok (.iload 4, 2) := by decide +kernel
theorem dX11_unlikeBehind_37 : decode cX11_unlikeBehind 37 = .ok (.invokevirtual 239, 3) := by decide +kernel
theorem dX11_unlikeBehind_40 : decode cX11_unlikeBehind 40 = .ok (.ifCond .eq 32, 3) := by decide +kernel
theorem dX11_unlikeBehind_43 : decode cX11_unlikeBehind 43 = .ok (.aload 6, 2) := by decide +kernel
theorem dX11_unlikeBehind_45 : decode cX11_unlikeBehind 45 = .ok (.getfield 223, 3) := by decide +kernel
theorem dX11_unlikeBehind_48 : decode cX11_unlikeBehind 48 = .ok (.iload_n 2, 1) := by decide +kernel
theorem dX11_unlikeBehind_49 : decode cX11_unlikeBehind 49 = .ok (.iaload, 1) := by decide +kernel
theorem dX11_unlikeBehind_50 : decode cX11_unlikeBehind 50 = .ok (.aload_n 0, 1) := by decide +kernel
theorem dX11_unlikeBehind_51 : decode cX11_unlikeBehind 51 = .ok (.getfield 28, 3) := by decide +kernel
theorem dX11_unlikeBehind_54 : decode cX11_unlikeBehind 54 = .ok (.iload_n 1, 1) := by decide +kernel
theorem dX11_unlikeBehind_55 : decode cX11_unlikeBehind 55 = .ok (.invokevirtual 142, 3) := by decide +kernel
theorem dX11_unlikeBehind_58 : decode cX11_unlikeBehind 58 = .ok (.checkcast 219, 3) := by decide +kernel
theorem dX11_unlikeBehind_61 : decode cX11_unlikeBehind 61 = .ok (.getfield 223, 3) := by decide +kernel
theorem dX11_unlikeBehind_64 : decode cX11_unlikeBehind 64 = .ok (.iload_n 2, 1) := by decide +kernel
theorem dX11_unlikeBehind_65 : decode cX11_unlikeBehind 65 = .ok (.iaload, 1) := by decide +kernel
theorem dX11_unlikeBehind_66 : decode cX11_unlikeBehind 66 = .ok (.if_icmp .eq 6, 3) := by decide +kernel
theorem dX11_unlikeBehind_69 : decode cX11_unlikeBehind 69 = .ok (.iload 5, 2) := by decide +kernel
theorem dX11_unlikeBehind_71 : decode cX11_unlikeBehind 71 = .ok (.ireturn, 1) := by decide +kernel
theorem dX11_unlikeBehind_72 : decode cX11_unlikeBehind 72 = .ok (.iinc 5 1, 3) := by decide +kernel
theorem dX11_unlikeBehind_75 : decode cX11_unlikeBehind 75 = .ok (.goto (-70), 3) := by decide +kernel
theorem dX11_unlikeBehind_78 : decode cX11_unlikeBehind 78 = .ok (.bipush (-9), 2) := by decide +kernel
theorem dX11_unlikeBehind_80 : decode cX11_unlikeBehind 80 = .ok (.ireturn, 1) := by decide +kernel
theorem dX11_loadOf_0 : decode cX11_loadOf 0 = .ok (.aload_n 0, 1) := by decide +kernel
theorem dX11_loadOf_1 : decode cX11_loadOf 1 = .ok (.iload_n 1, 1) := by decide +kernel
theorem dX11_loadOf_2 : decode cX11_loadOf 2 = .ok (.invokevirtual 190, 3) := by decide +kernel
theorem dX11_loadOf_5 : decode cX11_loadOf 5 = .ok (.istore_n 2, 1) := by decide +kernel
theorem dX11_loadOf_6 : decode cX11_loadOf 6 = .ok (.iconst 0, 1) := by decide +kernel
theorem dX11_loadOf_7 : decode cX11_loadOf 7 = .ok (.istore_n 3, 1) := by decide +kernel
theorem dX11_loadOf_8 : decode cX11_loadOf 8 = .ok (.iload_n 3, 1) := by decide +kernel
theorem dX11_loadOf_9 : decode cX11_loadOf 9 = .ok (.aload_n 0, 1) := by decide +kernel
theorem dX11_loadOf_10 : decode cX11_loadOf 10 = .ok (.getfield 25, 3) := by decide +kernel
theorem dX11_loadOf_13 : decode cX11_loadOf 13 = .ok (.invokevirtual 139, 3) := by decide +kernel
theorem dX11_loadOf_16 : decode cX11_loadOf 16 = .ok (.if_icmp .ge 51, 3) := by decide +kernel
theorem dX11_loadOf_19 : decode cX11_loadOf 19 = .ok (.aload_n 0, 1) := by decide +kernel
theorem dX11_loadOf_20 : decode cX11_loadOf 20 = .ok (.getfield 25, 3) := by decide +kernel
theorem dX11_loadOf_23 : decode cX11_loadOf 23 = .ok (.iload_n 3, 1) := by decide +kernel
theorem dX11_loadOf_24 : decode cX11_loadOf 24 = .ok (.invokevirtual 142, 3) := by decide +kernel
theorem dX11_loadOf_27 : decode cX11_loadOf 27 = .ok (.checkcast 258, 3) := by decide +kernel
theorem dX11_loadOf_30 : decode cX11_loadOf 30 = .ok (.astore 4, 2) := by decide +kernel
theorem dX11_loadOf_32 : decode cX11_loadOf 32 = .ok (.aload 4, 2) := by decide +kernel
theorem dX11_loadOf_34 : decode cX11_loadOf 34 = .ok (.getfield 348, 3) := by decide +kernel
theorem dX11_loadOf_37 : decode cX11_loadOf 37 = .ok (.iload_n 1, 1) := by decide +kernel
theorem dX11_loadOf_38 : decode cX11_loadOf 38 = .ok (.if_icmp .ne 23, 3) := by decide +kernel
theorem dX11_loadOf_41 : decode cX11_loadOf 41 = .ok (.aload 4, 2) := by decide +kernel
theorem dX11_loadOf_43 : decode cX11_loadOf 43 = .ok (.getfield 288, 3) := by decide +kernel
theorem dX11_loadOf_46 : decode cX11_loadOf 46 = .ok (.ifCond .eq 12, 3) := by decide +kernel
theorem dX11_loadOf_49 : decode cX11_loadOf 49 = .ok (.aload 4, 2) := by decide +kernel
theorem dX11_loadOf_51 : decode cX11_loadOf 51 = .ok (.getfield 288, 3) := by decide +kernel
theorem dX11_loadOf_54 : decode cX11_loadOf 54 = .ok (.iconst 1, 1) := by decide +kernel
theorem dX11_loadOf_55 : decode cX11_loadOf 55 = .ok (.if_icmp .ne 6, 3) := by decide +kernel
theorem dX11_loadOf_58 : decode cX11_loadOf 58 = .ok (.iinc 2 1, 3) := by decide +kernel
theorem dX11_loadOf_61 : decode cX11_loadOf 61 = .ok (.iinc 3 1, 3) := by decide +kernel
theorem dX11_loadOf_64 : decode cX11_loadOf 64 = .ok (.goto (-56), 3) := by decide +kernel
theorem dX11_loadOf_67 : decode cX11_loadOf 67 = .ok (.iload_n 2, 1) := by decide +kernel
theorem dX11_loadOf_68 : decode cX11_loadOf 68 = .ok (.ireturn, 1) := by decide +kernel
theorem dX11_isForbidden_0 : decode cX11_isForbidden 0 = .ok (.aload_n 1, 1) := by decide +kernel
theorem dX11_isForbidden_1 : decode cX11_isForbidden 1 = .ok (.getfield 504, 3) := by decide +kernel
theorem dX11_isForbidden_4 : decode cX11_isForbidden 4 = .ok (.ifCond .eq 26, 3) := by decide +kernel
theorem dX11_isForbidden_7 : decode cX11_isForbidden 7 = .ok (.aload_n 0, 1) := by decide +kernel
theorem dX11_isForbidden_8 : decode cX11_isForbidden 8 = .ok (.iconst 3, 1) := by decide +kernel
theorem dX11_isForbidden_9 : decode cX11_isForbidden 9 = .ok (.invokevirtual 196, 3) := by decide +kernel
theorem dX11_isForbidden_12 : decode cX11_isForbidden 12 = .ok (.ifCond .le 18, 3) := by decide +kernel
theorem dX11_isForbidden_15 : decode cX11_isForbidden 15 = .ok (.aload_n 0, 1) := by decide +kernel
theorem dX11_isForbidden_16 : decode cX11_isForbidden 16 = .ok (.aload_n 0, 1) := by decide +kernel
theorem dX11_isForbidden_17 : decode cX11_isForbidden 17 = .ok (.getfield 71, 3) := by decide +kernel
theorem dX11_isForbidden_20 : decode cX11_isForbidden 20 = .ok (.invokevirtual 425, 3) := by decide +kernel
theorem dX11_isForbidden_23 : decode cX11_isForbidden 23 = .ok (.ifCond .ne 7, 3) := by decide +kernel
theorem dX11_isForbidden_26 : decode cX11_isForbidden 26 = .ok (.iconst 1, 1) := by decide +kernel
theorem dX11_isForbidden_27 : decode cX11_isForbidden 27 = .ok (.goto 4, 3) := by decide +kernel
theorem dX11_isForbidden_30 : decode cX11_isForbidden 30 = .ok (.iconst 0, 1) := by decide +kernel
theorem dX11_isForbidden_31 : decode cX11_isForbidden 31 = .ok (.ireturn, 1) := by decide +kernel
theorem dX11_minutesToBring_0 : decode cX11_minutesToBring 0 = .ok (.iconst 2, 1) := by decide +kernel
theorem dX11_minutesToBring_1 : decode cX11_minutesToBring 1 = .ok (.iload_n 0, 1) := by decide +kernel
theorem dX11_minutesToBring_2 : decode cX11_minutesToBring 2 = .ok (.imul, 1) := by decide +kernel
theorem dX11_minutesToBring_3 : decode cX11_minutesToBring 3 = .ok (.iload_n 1, 1) := by decide +kernel
theorem dX11_minutesToBring_4 : decode cX11_minutesToBring 4 = .ok (.imul, 1) := by decide +kernel
theorem dX11_minutesToBring_5 : decode cX11_minutesToBring 5 = .ok (.iconst 4, 1) := by decide +kernel
theorem dX11_minutesToBring_6 : decode cX11_minutesToBring 6 = .ok (.iadd, 1) := by decide +kernel
theorem dX11_minutesToBring_7 : decode cX11_minutesToBring 7 = .ok (.ireturn, 1) := by decide +kernel
theorem dX11_rankOf_0 : decode cX11_rankOf 0 = .ok (.iload_n 2, 1) := by decide +kernel
theorem dX11_rankOf_1 : decode cX11_rankOf 1 = .ok (.lookupswitch 41 #[(1, 27), (2, 36)], 27) := by decide +kernel
theorem dX11_rankOf_28 : decode cX11_rankOf 28 = .ok (.aload_n 0, 1) := by decide +kernel
theorem dX11_rankOf_29 : decode cX11_rankOf 29 = .ok (.aload_n 1, 1) := by decide +kernel
theorem dX11_rankOf_30 : decode cX11_rankOf 30 = .ok (.getfield 348, 3) := by decide +kernel
theorem dX11_rankOf_33 : decode cX11_rankOf 33 = .ok (.invokevirtual 190, 3) := by decide +kernel
theorem dX11_rankOf_36 : decode cX11_rankOf 36 = .ok (.ireturn, 1) := by decide +kernel
theorem dX11_rankOf_37 : decode cX11_rankOf 37 = .ok (.aload_n 1, 1) := by decide +kernel
theorem dX11_rankOf_38 : decode cX11_rankOf 38 = .ok (.getfield 348, 3) := by decide +kernel
theorem dX11_rankOf_41 : decode cX11_rankOf 41 = .ok (.ireturn, 1) := by decide +kernel
theorem dX11_rankOf_42 : decode cX11_rankOf 42 = .ok (.iconst 0, 1) := by decide +kernel
theorem dX11_rankOf_43 : decode cX11_rankOf 43 = .ok (.ireturn, 1) := by decide +kernel
theorem dX11_waitingAheadOf_0 : decode cX11_waitingAheadOf 0 = .ok (.iconst 0, 1) := by decide +kernel
theorem dX11_waitingAheadOf_1 : decode cX11_waitingAheadOf 1 = .ok (.istore_n 2, 1) := by decide +kernel
theorem dX11_waitingAheadOf_2 : decode cX11_waitingAheadOf 2 = .ok (.iconst 0, 1) := by decide +kernel
theorem dX11_waitingAheadOf_3 : decode cX11_waitingAheadOf 3 = .ok (.istore_n 3, 1) := by decide +kernel
theorem dX11_waitingAheadOf_4 : decode cX11_waitingAheadOf 4 = .ok (.iload_n 3, 1) := by decide +kernel
theorem dX11_waitingAheadOf_5 : decode cX11_waitingAheadOf 5 = .ok (.iload_n 1, 1) := by decide +kernel
theorem dX11_waitingAheadOf_6 : decode cX11_waitingAheadOf 6 = .ok (.if_icmp .ge 29, 3) := by decide +kernel
theorem dX11_waitingAheadOf_9 : decode cX11_waitingAheadOf 9 = .ok (.aload_n 0, 1) := by decide +kernel
theorem dX11_waitingAheadOf_10 : decode cX11_waitingAheadOf 10 = .ok (.getfield 25, 3) := by decide +kernel
theorem dX11_waitingAheadOf_13 : decode cX11_waitingAheadOf 13 = .ok (.iload_n 3, 1) := by decide +kernel
theorem dX11_waitingAheadOf_14 : decode cX11_waitingAheadOf 14 = .ok (.invokevirtual 142, 3) := by decide +kernel
theorem dX11_waitingAheadOf_17 : decode cX11_waitingAheadOf 17 = .ok (.checkcast 258, 3) := by decide +kernel
theorem dX11_waitingAheadOf_20 : decode cX11_waitingAheadOf 20 = .ok (.getfield 288, 3) := by decide +kernel
theorem dX11_waitingAheadOf_23 : decode cX11_waitingAheadOf 23 = .ok (.ifCond .ne 6, 3) := by decide +kernel
theorem dX11_waitingAheadOf_26 : decode cX11_waitingAheadOf 26 = .ok (.iinc 2 1, 3) := by decide +kernel
theorem dX11_waitingAheadOf_29 : decode cX11_waitingAheadOf 29 = .ok (.iinc 3 1, 3) := by decide +kernel
theorem dX11_waitingAheadOf_32 : decode cX11_waitingAheadOf 32 = .ok (.goto (-28), 3) := by decide +kernel
theorem dX11_waitingAheadOf_35 : decode cX11_waitingAheadOf 35 = .ok (.iload_n 2, 1) := by decide +kernel
theorem dX11_waitingAheadOf_36 : decode cX11_waitingAheadOf 36 = .ok (.ireturn, 1) := by decide +kernel
theorem dX11_gatherRounds_0 : decode cX11_gatherRounds 0 = .ok (.aload_n 0, 1) := by decide +kernel
theorem dX11_gatherRounds_1 : decode cX11_gatherRounds 1 = .ok (.getfield 50, 3) := by decide +kernel
theorem dX11_gatherRounds_4 : decode cX11_gatherRounds 4 = .ok (.iconst 0, 1) := by decide +kernel
theorem dX11_gatherRounds_5 : decode cX11_gatherRounds 5 = .ok (.putfield 311, 3) := by decide +kernel
theorem dX11_gatherRounds_8 : decode cX11_gatherRounds 8 = .ok (.iconst 0, 1) := by decide +kernel
theorem dX11_gatherRounds_9 : decode cX11_gatherRounds 9 = .ok (.istore_n 1, 1) := by decide +kernel
theorem dX11_gatherRounds_10 : decode cX11_gatherRounds 10 = .ok (.iload_n 1, 1) := by decide +kernel
theorem dX11_gatherRounds_11 : decode cX11_gatherRounds 11 = .ok (.iconst 3, 1) := by decide +kernel
theorem dX11_gatherRounds_12 : decode cX11_gatherRounds 12 = .ok (.if_icmp .ge 48, 3) := by decide +kernel
theorem dX11_gatherRounds_15 : decode cX11_gatherRounds 15 = .ok (.aload_n 0, 1) := by decide +kernel
theorem dX11_gatherRounds_16 : decode cX11_gatherRounds 16 = .ok (.getfield 50, 3) := by decide +kernel
theorem dX11_gatherRounds_19 : decode cX11_gatherRounds 19 = .ok (.getfield 508, 3) := by decide +kernel
theorem dX11_gatherRounds_22 : decode cX11_gatherRounds 22 = .ok (.iload_n 1, 1) := by decide +kernel
theorem dX11_gatherRounds_23 : decode cX11_gatherRounds 23 = .ok (.aload_n 0, 1) := by decide +kernel
theorem dX11_gatherRounds_24 : decode cX11_gatherRounds 24 = .ok (.getfield 61, 3) := by decide +kernel
theorem dX11_gatherRounds_27 : decode cX11_gatherRounds 27 = .ok (.iload_n 1, 1) := by decide +kernel
theorem dX11_gatherRounds_28 : decode cX11_gatherRounds 28 = .ok (.iaload, 1) := by decide +kernel
theorem dX11_gatherRounds_29 : decode cX11_gatherRounds 29 = .ok (.iastore, 1) := by decide +kernel
theorem dX11_gatherRounds_30 : decode cX11_gatherRounds 30 = .ok (.aload_n 0, 1) := by decide +kernel
theorem dX11_gatherRounds_31 : decode cX11_gatherRounds 31 = .ok (.getfield 50, 3) := by decide +kernel
theorem dX11_gatherRounds_34 : decode cX11_gatherRounds 34 = .ok (.getfield 509, 3) := by decide +kernel
theorem dX11_gatherRounds_37 : decode cX11_gatherRounds 37 = .ok (.iload_n 1, 1) := by decide +kernel
theorem dX11_gatherRounds_38 : decode cX11_gatherRounds 38 = .ok (.aload_n 0, 1) := by decide +kernel
theorem dX11_gatherRounds_39 : decode cX11_gatherRounds 39 = .ok (.getfield 65, 3) := by decide +kernel
theorem dX11_gatherRounds_42 : decode cX11_gatherRounds 42 = .ok (.iload_n 1, 1) := by decide +kernel
theorem dX11_gatherRounds_43 : decode cX11_gatherRounds 43 = .ok (.iaload, 1) := by decide +kernel
theorem dX11_gatherRounds_44 : decode cX11_gatherRounds 44 = .ok (.aload_n 0, 1) := by decide +kernel
theorem dX11_gatherRounds_45 : decode cX11_gatherRounds 45 = .ok (.getfield 71, 3) := by decide +kernel
theorem dX11_gatherRounds_48 : decode cX11_gatherRounds 48 = .ok (.isub, 1) := by decide +kernel
theorem dX11_gatherRounds_49 : decode cX11_gatherRounds 49 = .ok (.iconst 0, 1) := by decide +kernel
theorem dX11_gatherRounds_50 : decode cX11_gatherRounds 50 = .ok (.invokestatic 512, 3) := by decide +kernel
theorem dX11_gatherRounds_53 : decode cX11_gatherRounds 53 = .ok (.iastore, 1) := by decide +kernel
theorem dX11_gatherRounds_54 : decode cX11_gatherRounds 54 = .ok (.iinc 1 1, 3) := by decide +kernel
theorem dX11_gatherRounds_57 : decode cX11_gatherRounds 57 = .ok (.goto (-47), 3) := by decide +kernel
theorem dX11_gatherRounds_60 : decode cX11_gatherRounds 60 = .ok (.iconst 0, 1) := by decide +kernel
theorem dX11_gatherRounds_61 : decode cX11_gatherRounds 61 = .ok (.istore_n 1, 1) := by decide +kernel
theorem dX11_gatherRounds_62 : decode cX11_gatherRounds 62 = .ok (.iload_n 1, 1) := by decide +kernel
theorem dX11_gatherRounds_63 : decode cX11_gatherRounds 63 = .ok (.aload_n 0, 1) := by decide +kernel
theorem dX11_gatherRounds_64 : decode cX11_gatherRounds 64 = .ok (.getfield 25, 3) := by decide +kernel
theorem dX11_gatherRounds_67 : decode cX11_gatherRounds 67 = .ok (.invokevirtual 139, 3) := by decide +kernel
theorem dX11_gatherRounds_70 : decode cX11_gatherRounds 70 = .ok (.if_icmp .ge 50, 3) := by decide +kernel
theorem dX11_gatherRounds_73 : decode cX11_gatherRounds 73 = .ok (.aload_n 0, 1) := by decide +kernel
theorem dX11_gatherRounds_74 : decode cX11_gatherRounds 74 = .ok (.getfield 25, 3) := by decide +kernel
theorem dX11_gatherRounds_77 : decode cX11_gatherRounds 77 = .ok (.iload_n 1, 1) := by decide +kernel
theorem dX11_gatherRounds_78 : decode cX11_gatherRounds 78 = .ok (.invokevirtual 142, 3) := by decide +kernel
theorem dX11_gatherRounds_81 : decode cX11_gatherRounds 81 = .ok (.checkcast 258, 3) := by decide +kernel
theorem dX11_gatherRounds_84 : decode cX11_gatherRounds 84 = .ok (.getfield 288, 3) := by decide +kernel
theorem dX11_gatherRounds_87 : decode cX11_gatherRounds 87 = .ok (.ifCond .ne 27, 3) := by decide +kernel
theorem dX11_gatherRounds_90 : decode cX11_gatherRounds 90 = .ok (.aload_n 0, 1) := by decide +kernel
theorem dX11_gatherRounds_91 : decode cX11_gatherRounds 91 = .ok (.getfield 50, 3) := by decide +kernel
theorem dX11_gatherRounds_94 : decode cX11_gatherRounds 94 = .ok (.aload_n 0, 1) := by decide +kernel
theorem dX11_gatherRounds_95 : decode cX11_gatherRounds 95 = .ok (.getfield 25, 3) := by decide +kernel
theorem dX11_gatherRounds_98 : decode cX11_gatherRounds 98 = .ok (.iload_n 1, 1) := by decide +kernel
theorem dX11_gatherRounds_99 : decode cX11_gatherRounds 99 = .ok (.invokevirtual 142, 3) := by decide +kernel
theorem dX11_gatherRounds_102 : decode cX11_gatherRounds 102 = .ok (.checkcast 258, 3) := by decide +kernel
theorem dX11_gatherRounds_105 : decode cX11_gatherRounds 105 = .ok (.getfield 277, 3) := by decide +kernel
theorem dX11_gatherRounds_108 : decode cX11_gatherRounds 108 = .ok (.invokevirtual 281, 3) := by decide +kernel
theorem dX11_gatherRounds_111 : decode cX11_gatherRounds 111 = .ok (.invokevirtual 515, 3) := by decide +kernel
theorem dX11_gatherRounds_114 : decode cX11_gatherRounds 114 = .ok (.iinc 1 1, 3) := by decide +kernel
theorem dX11_gatherRounds_117 : decode cX11_gatherRounds 117 = .ok (.goto (-55), 3) := by decide +kernel
theorem dX11_gatherRounds_120 : decode cX11_gatherRounds 120 = .ok (.return_, 1) := by decide +kernel
theorem dX11_likelihood_0 : decode cX11_likelihood 0 = .ok (.iload_n 2, 1) := by decide +kernel
theorem dX11_likelihood_1 : decode cX11_likelihood 1 = .ok (.aload_n 1, 1) := by decide +kernel
theorem dX11_likelihood_2 : decode cX11_likelihood 2 = .ok (.getfield 206, 3) := by decide +kernel
theorem dX11_likelihood_5 : decode cX11_likelihood 5 = .ok (.if_icmp .ne 5, 3) := by decide +kernel
theorem dX11_likelihood_8 : decode cX11_likelihood 8 = .ok (.iconst 0, 1) := by decide +kernel
theorem dX11_likelihood_9 : decode cX11_likelihood 9 = .ok (.ireturn, 1) := by decide +kernel
theorem dX11_likelihood_10 : decode cX11_likelihood 10 = .ok (.iload_n 2, 1) := by decide +kernel
theorem dX11_likelihood_11 : decode cX11_likelihood 11 = .ok (.iconst 2, 1) := by decide +kernel
theorem dX11_likelihood_12 : decode cX11_likelihood 12 = .ok (.idiv, 1) := by decide +kernel
theorem dX11_likelihood_13 : decode cX11_likelihood 13 = .ok (.aload_n 1, 1) := by decide +kernel
theorem dX11_likelihood_14 : decode cX11_likelihood 14 = .ok (.invokevirtual 281, 3) := by decide +kernel
theorem dX11_likelihood_17 : decode cX11_likelihood 17 = .ok (.if_icmp .ne 7, 3) := by decide +kernel
theorem dX11_likelihood_20 : decode cX11_likelihood 20 = .ok (.iconst 1, 1) := by decide +kernel
theorem dX11_likelihood_21 : decode cX11_likelihood 21 = .ok (.goto 4, 3) := by decide +kernel
theorem dX11_likelihood_24 : decode cX11_likelihood 24 = .ok (.iconst 0, 1) := by decide +kernel
theorem dX11_likelihood_25 : decode cX11_likelihood 25 = .ok (.istore_n 3, 1) := by decide +kernel
theorem dX11_likelihood_26 : decode cX11_likelihood 26 = .ok (.iload_n 3, 1) := by decide +kernel
theorem dX11_likelihood_27 : decode cX11_likelihood 27 = .ok (.aload_n 0, 1) := by decide +kernel
theorem dX11_likelihood_28 : decode cX11_likelihood 28 = .ok (.aload_n 1, 1) := by decide +kernel
theorem dX11_likelihood_29 : decode cX11_likelihood 29 = .ok (.invokevirtual 518, 3) := by decide +kernel
theorem dX11_likelihood_32 : decode cX11_likelihood 32 = .ok (.iload_n 2, 1) := by decide +kernel
theorem dX11_likelihood_33 : decode cX11_likelihood 33 = .ok (.invokestatic 522, 3) := by decide +kernel
theorem dX11_likelihood_36 : decode cX11_likelihood 36 = .ok (.ifCond .eq 7, 3) := by decide +kernel
theorem dX11_likelihood_39 : decode cX11_likelihood 39 = .ok (.iconst 4, 1) := by decide +kernel
theorem dX11_likelihood_40 : decode cX11_likelihood 40 = .ok (.goto 4, 3) := by decide +kernel
theorem dX11_likelihood_43 : decode cX11_likelihood 43 = .ok (.iconst 0, 1) := by decide +kernel
theorem dX11_likelihood_44 : decode cX11_likelihood 44 = .ok (.iadd, 1) := by decide +kernel
theorem dX11_likelihood_45 : decode cX11_likelihood 45 = .ok (.istore_n 3, 1) := by decide +kernel
theorem dX11_likelihood_46 : decode cX11_likelihood 46 = .ok (.iload_n 3, 1) := by decide +kernel
theorem dX11_likelihood_47 : decode cX11_likelihood 47 = .ok (.aload_n 0, 1) := by decide +kernel
theorem dX11_likelihood_48 : decode cX11_likelihood 48 = .ok (.aload_n 1, 1) := by decide +kernel
theorem dX11_likelihood_49 : decode cX11_likelihood 49 = .ok (.invokevirtual 526, 3) := by decide +kernel
theorem dX11_likelihood_52 : decode cX11_likelihood 52 = .ok (.iload_n 2, 1) := by decide +kernel
theorem dX11_likelihood_53 : decode cX11_likelihood 53 = .ok (.invokestatic 522, 3) := by decide +kernel
theorem dX11_likelihood_56 : decode cX11_likelihood 56 = .ok (.ifCond .eq 7, 3) := by decide +kernel
theorem dX11_likelihood_59 : decode cX11_likelihood 59 = .ok (.iconst 4, 1) := by decide +kernel
theorem dX11_likelihood_60 : decode cX11_likelihood 60 = .ok (.goto 4, 3) := by decide +kernel
theorem dX11_likelihood_63 : decode cX11_likelihood 63 = .ok (.iconst 0, 1) := by decide +kernel
theorem dX11_likelihood_64 : decode cX11_likelihood 64 = .ok (.iadd, 1) := by decide +kernel
theorem dX11_likelihood_65 : decode cX11_likelihood 65 = .ok (.istore_n 3, 1) := by decide +kernel
theorem dX11_likelihood_66 : decode cX11_likelihood 66 = .ok (.aload_n 0, 1) := by decide +kernel
theorem dX11_likelihood_67 : decode cX11_likelihood 67 = .ok (.aload_n 1, 1) := by decide +kernel
theorem dX11_likelihood_68 : decode cX11_likelihood 68 = .ok (.invokevirtual 529, 3) := by decide +kernel
theorem dX11_likelihood_71 : decode cX11_likelihood 71 = .ok (.istore 4, 2) := by decide +kernel
theorem dX11_likelihood_73 : decode cX11_likelihood 73 = .ok (.iconst 0, 1) := by decide +kernel
theorem dX11_likelihood_74 : decode cX11_likelihood 74 = .ok (.istore 5, 2) := by decide +kernel
theorem dX11_likelihood_76 : decode cX11_likelihood 76 = .ok (.iload 5, 2) := by decide +kernel
theorem dX11_likelihood_78 : decode cX11_likelihood 78 = .ok (.aload_n 0, 1) := by decide +kernel
theorem dX11_likelihood_79 : decode cX11_likelihood 79 = .ok (.getfield 21, 3) := by decide +kernel
theorem dX11_likelihood_82 : decode cX11_likelihood 82 = .ok (.invokevirtual 139, 3) := by decide +kernel
theorem dX11_likelihood_85 : decode cX11_likelihood 85 = .ok (.if_icmp .ge 74, 3) := by decide +kernel
theorem dX11_likelihood_88 : decode cX11_likelihood 88 = .ok (.aload_n 0, 1) := by decide +kernel
theorem dX11_likelihood_89 : decode cX11_likelihood 89 = .ok (.getfield 21, 3) := by decide +kernel
theorem dX11_likelihood_92 : decode cX11_likelihood 92 = .ok (.iload 5, 2) := by decide +kernel
theorem dX11_likelihood_94 : decode cX11_likelihood 94 = .ok (.invokevirtual 142, 3) := by decide +kernel
theorem dX11_likelihood_97 : decode cX11_likelihood 97 = .ok (.checkcast 146, 3) := by decide +kernel
theorem dX11_likelihood_100 : decode cX11_likelihood 100 = .ok (.astore 6, 2) := by decide +kernel
theorem dX11_likelihood_102 : decode cX11_likelihood 102 = .ok (.aload 6, 2) := by decide +kernel
theorem dX11_likelihood_104 : decode cX11_likelihood 104 = .ok (.getfield 206, 3) := by decide +kernel
theorem dX11_likelihood_107 : decode cX11_likelihood 107 = .ok (.iload_n 2, 1) := by decide +kernel
theorem dX11_likelihood_108 : decode cX11_likelihood 108 = .ok (.if_icmp .ne 45, 3) := by decide +kernel
theorem dX11_likelihood_111 : decode cX11_likelihood 111 = .ok (.iload_n 3, 1) := by decide +kernel
theorem dX11_likelihood_112 : decode cX11_likelihood 112 = .ok (.aload_n 1, 1) := by decide +kernel
theorem dX11_likelihood_113 : decode cX11_likelihood 113 = .ok (.getfield 490, 3) := by decide +kernel
theorem dX11_likelihood_116 : decode cX11_likelihood 116 = .ok (.aload 6, 2) := by decide +kernel
theorem dX11_likelihood_118 : decode cX11_likelihood 118 = .ok (.getfield 490, 3) := by decide +kernel
theorem dX11_likelihood_121 : decode cX11_likelihood 121 = .ok (.invokestatic 532, 3) := by decide +kernel
theorem dX11_likelihood_124 : decode cX11_likelihood 124 = .ok (.ifCond .eq 7, 3) := by decide +kernel
theorem dX11_likelihood_127 : decode cX11_likelihood 127 = .ok (.iconst 3, 1) := by decide +kernel
theorem dX11_likelihood_128 : decode cX11_likelihood 128 = .ok (.goto 4, 3) := by decide +kernel
theorem dX11_likelihood_131 : decode cX11_likelihood 131 = .ok (.iconst 0, 1) := by decide +kernel
theorem dX11_likelihood_132 : decode cX11_likelihood 132 = .ok (.iadd, 1) := by decide +kernel
theorem dX11_likelihood_133 : decode cX11_likelihood 133 = .ok (.istore_n 3, 1) := by decide +kernel
theorem dX11_likelihood_134 : decode cX11_likelihood 134 = .ok (.iload_n 3, 1) := by decide +kernel
theorem dX11_likelihood_135 : decode cX11_likelihood 135 = .ok (.aload_n 0, 1) := by decide +kernel
theorem dX11_likelihood_136 : decode cX11_likelihood 136 = .ok (.iload 4, 2) := by decide +kernel
theorem dX11_likelihood_138 : decode cX11_likelihood 138 = .ok (.aload 6, 2) := by decide +kernel
theorem dX11_likelihood_140 : decode cX11_likelihood 140 = .ok (.invokevirtual 535, 3) := by decide +kernel
theorem dX11_likelihood_143 : decode cX11_likelihood 143 = .ok (.ifCond .eq 7, 3) := by decide +kernel
theorem dX11_likelihood_146 : decode cX11_likelihood 146 = .ok (.iconst 2, 1) := by decide +kernel
theorem dX11_likelihood_147 : decode cX11_likelihood 147 = .ok (.goto 4, 3) := by decide +kernel
theorem dX11_likelihood_150 : decode cX11_likelihood 150 = .ok (.iconst 0, 1) := by decide +kernel
theorem dX11_likelihood_151 : decode cX11_likelihood 151 = .ok (.iadd, 1) := by decide +kernel
theorem dX11_likelihood_152 : decode cX11_likelihood 152 = .ok (.istore_n 3, 1) := by decide +kernel
theorem dX11_likelihood_153 : decode cX11_likelihood 153 = .ok (.iinc 5 1, 3) := by decide +kernel
theorem dX11_likelihood_156 : decode cX11_likelihood 156 = .ok (.goto (-80), 3) := by decide +kernel
theorem dX11_likelihood_159 : decode cX11_likelihood 159 = .ok (.iload_n 3, 1) := by decide +kernel
theorem dX11_likelihood_160 : decode cX11_likelihood 160 = .ok (.ireturn, 1) := by decide +kernel
theorem dX11_isOwnShelf_0 : decode cX11_isOwnShelf 0 = .ok (.aload_n 0, 1) := by decide +kernel
theorem dX11_isOwnShelf_1 : decode cX11_isOwnShelf 1 = .ok (.ifnull 15, 3) := by decide +kernel
theorem dX11_isOwnShelf_4 : decode cX11_isOwnShelf 4 = .ok (.aload_n 0, 1) := by decide +kernel
theorem dX11_isOwnShelf_5 : decode cX11_isOwnShelf 5 = .ok (.getfield 206, 3) := by decide +kernel
theorem dX11_isOwnShelf_8 : decode cX11_isOwnShelf 8 = .ok (.iload_n 1, 1) := by decide +kernel
theorem dX11_isOwnShelf_9 : decode cX11_isOwnShelf 9 = .ok (.if_icmp .ne 7, 3) := by decide +kernel
theorem dX11_isOwnShelf_12 : decode cX11_isOwnShelf 12 = .ok (.iconst 1, 1) := by decide +kernel
theorem dX11_isOwnShelf_13 : decode cX11_isOwnShelf 13 = .ok (.goto 4, 3) := by decide +kernel
theorem dX11_isOwnShelf_16 : decode cX11_isOwnShelf 16 = .ok (.iconst 0, 1) := by decide +kernel
theorem dX11_isOwnShelf_17 : decode cX11_isOwnShelf 17 = .ok (.ireturn, 1) := by decide +kernel
theorem dX11_nextGreater_0 : decode cX11_nextGreater 0 = .ok (.aconst_null, 1) := by decide +kernel
theorem dX11_nextGreater_1 : decode cX11_nextGreater 1 = .ok (.astore_n 2, 1) := by decide +kernel
theorem dX11_nextGreater_2 : decode cX11_nextGreater 2 = .ok (.iconst 0, 1) := by decide +kernel
theorem dX11_nextGreater_3 : decode cX11_nextGreater 3 = .ok (.istore_n 3, 1) := by decide +kernel
theorem dX11_nextGreater_4 : decode cX11_nextGreater 4 = .ok (.iload_n 3, 1) := by decide +kernel
theorem dX11_nextGreater_5 : decode cX11_nextGreater 5 = .ok (.aload_n 0, 1) := by decide +kernel
theorem dX11_nextGreater_6 : decode cX11_nextGreater 6 = .ok (.getfield 21, 3) := by decide +kernel
theorem dX11_nextGreater_9 : decode cX11_nextGreater 9 = .ok (.invokevirtual 139, 3) := by decide +kernel
theorem dX11_nextGreater_12 : decode cX11_nextGreater 12 = .ok (.if_icmp .ge 53, 3) := by decide +kernel
theorem dX11_nextGreater_15 : decode cX11_nextGreater 15 = .ok (.aload_n 0, 1) := by decide +kernel
theorem dX11_nextGreater_16 : decode cX11_nextGreater 16 = .ok (.getfield 21, 3) := by decide +kernel
theorem dX11_nextGreater_19 : decode cX11_nextGreater 19 = .ok (.iload_n 3, 1) := by decide +kernel
theorem dX11_nextGreater_20 : decode cX11_nextGreater 20 = .ok (.invokevirtual 142, 3) := by decide +kernel
theorem dX11_nextGreater_23 : decode cX11_nextGreater 23 = .ok (.checkcast 146, 3) := by decide +kernel
theorem dX11_nextGreater_26 : decode cX11_nextGreater 26 = .ok (.astore 4, 2) := by decide +kernel
theorem dX11_nextGreater_28 : decode cX11_nextGreater 28 = .ok (.aload 4, 2) := by decide +kernel
theorem dX11_nextGreater_30 : decode cX11_nextGreater 30 = .ok (.getfield 490, 3) := by decide +kernel
theorem dX11_nextGreater_33 : decode cX11_nextGreater 33 = .ok (.aload_n 1, 1) := by decide +kernel
theorem dX11_nextGreater_34 : decode cX11_nextGreater 34 = .ok (.getfield 490, 3) := by decide +kernel
theorem dX11_nextGreater_37 : decode cX11_nextGreater 37 = .ok (.if_icmp .le 22, 3) := by decide +kernel
theorem dX11_nextGreater_40 : decode cX11_nextGreater 40 = .ok (.aload_n 2, 1) := by decide +kernel
theorem dX11_nextGreater_41 : decode cX11_nextGreater 41 = .ok (.ifnull 15, 3) := by decide +kernel
theorem dX11_nextGreater_44 : decode cX11_nextGreater 44 = .ok (.aload 4, 2) := by decide +kernel
theorem dX11_nextGreater_46 : decode cX11_nextGreater 46 = .ok (.getfield 490, 3) := by decide +kernel
theorem dX11_nextGreater_49 : decode cX11_nextGreater 49 = .ok (.aload_n 2, 1) := by decide +kernel
theorem dX11_nextGreater_50 : decode cX11_nextGreater 50 = .ok (.getfield 490, 3) := by decide +kernel
theorem dX11_nextGreater_53 : decode cX11_nextGreater 53 = .ok (.if_icmp .ge 6, 3) := by decide +kernel
theorem dX11_nextGreater_56 : decode cX11_nextGreater 56 = .ok (.aload 4, 2) := by decide +kernel
theorem dX11_nextGreater_58 : decode cX11_nextGreater 58 = .ok (.astore_n 2, 1) := by decide +kernel
theorem dX11_nextGreater_59 : decode cX11_nextGreater 59 = .ok (.iinc 3 1, 3) := by decide +kernel
theorem dX11_nextGreater_62 : decode cX11_nextGreater 62 = .ok (.goto (-58), 3) := by decide +kernel
theorem dX11_nextGreater_65 : decode cX11_nextGreater 65 = .ok (.aload_n 2, 1) := by decide +kernel
theorem dX11_nextGreater_66 : decode cX11_nextGreater 66 = .ok (.areturn, 1) := by decide +kernel
theorem dX11_nextLesser_0 : decode cX11_nextLesser 0 = .ok (.aconst_null, 1) := by decide +kernel
theorem dX11_nextLesser_1 : decode cX11_nextLesser 1 = .ok (.astore_n 2, 1) := by decide +kernel
theorem dX11_nextLesser_2 : decode cX11_nextLesser 2 = .ok (.iconst 0, 1) := by decide +kernel
theorem dX11_nextLesser_3 : decode cX11_nextLesser 3 = .ok (.istore_n 3, 1) := by decide +kernel
theorem dX11_nextLesser_4 : decode cX11_nextLesser 4 = .ok (.iload_n 3, 1) := by decide +kernel
theorem dX11_nextLesser_5 : decode cX11_nextLesser 5 = .ok (.aload_n 0, 1) := by decide +kernel
theorem dX11_nextLesser_6 : decode cX11_nextLesser 6 = .ok (.getfield 21, 3) := by decide +kernel
theorem dX11_nextLesser_9 : decode cX11_nextLesser 9 = .ok (.invokevirtual 139, 3) := by decide +kernel
theorem dX11_nextLesser_12 : decode cX11_nextLesser 12 = .ok (.if_icmp .ge 53, 3) := by decide +kernel
theorem dX11_nextLesser_15 : decode cX11_nextLesser 15 = .ok (.aload_n 0, 1) := by decide +kernel
theorem dX11_nextLesser_16 : decode cX11_nextLesser 16 = .ok (.getfield 21, 3) := by decide +kernel
theorem dX11_nextLesser_19 : decode cX11_nextLesser 19 = .ok (.iload_n 3, 1) := by decide +kernel
theorem dX11_nextLesser_20 : decode cX11_nextLesser 20 = .ok (.invokevirtual 142, 3) := by decide +kernel
theorem dX11_nextLesser_23 : decode cX11_nextLesser 23 = .ok (.checkcast 146, 3) := by decide +kernel
theorem dX11_nextLesser_26 : decode cX11_nextLesser 26 = .ok (.astore 4, 2) := by decide +kernel
theorem dX11_nextLesser_28 : decode cX11_nextLesser 28 = .ok (.aload 4, 2) := by decide +kernel
theorem dX11_nextLesser_30 : decode cX11_nextLesser 30 = .ok (.getfield 490, 3) := by decide +kernel
theorem dX11_nextLesser_33 : decode cX11_nextLesser 33 = .ok (.aload_n 1, 1) := by decide +kernel
theorem dX11_nextLesser_34 : decode cX11_nextLesser 34 = .ok (.getfield 490, 3) := by decide +kernel
theorem dX11_nextLesser_37 : decode cX11_nextLesser 37 = .ok (.if_icmp .ge 22, 3) := by decide +kernel
theorem dX11_nextLesser_40 : decode cX11_nextLesser 40 = .ok (.aload_n 2, 1) := by decide +kernel
theorem dX11_nextLesser_41 : decode cX11_nextLesser 41 = .ok (.ifnull 15, 3) := by decide +kernel
theorem dX11_nextLesser_44 : decode cX11_nextLesser 44 = .ok (.aload 4, 2) := by decide +kernel
theorem dX11_nextLesser_46 : decode cX11_nextLesser 46 = .ok (.getfield 490, 3) := by decide +kernel
theorem dX11_nextLesser_49 : decode cX11_nextLesser 49 = .ok (.aload_n 2, 1) := by decide +kernel
theorem dX11_nextLesser_50 : decode cX11_nextLesser 50 = .ok (.getfield 490, 3) := by decide +kernel
theorem dX11_nextLesser_53 : decode cX11_nextLesser 53 = .ok (.if_icmp .le 6, 3) := by decide +kernel
theorem dX11_nextLesser_56 : decode cX11_nextLesser 56 = .ok (.aload 4, 2) := by decide +kernel
theorem dX11_nextLesser_58 : decode cX11_nextLesser 58 = .ok (.astore_n 2, 1) := by decide +kernel
theorem dX11_nextLesser_59 : decode cX11_nextLesser 59 = .ok (.iinc 3 1, 3) := by decide +kernel
theorem dX11_nextLesser_62 : decode cX11_nextLesser 62 = .ok (.goto (-58), 3) := by decide +kernel
theorem dX11_nextLesser_65 : decode cX11_nextLesser 65 = .ok (.aload_n 2, 1) := by decide +kernel
theorem dX11_nextLesser_66 : decode cX11_nextLesser 66 = .ok (.areturn, 1) := by decide +kernel
theorem dX11_isSwapped_0 : decode cX11_isSwapped 0 = .ok (.iconst 1, 1) := by decide +kernel
theorem dX11_isSwapped_1 : decode cX11_isSwapped 1 = .ok (.istore_n 2, 1) := by decide +kernel
theorem dX11_isSwapped_2 : decode cX11_isSwapped 2 = .ok (.iload_n 2, 1) := by decide +kernel
theorem dX11_isSwapped_3 : decode cX11_isSwapped 3 = .ok (.bipush 100, 2) := by decide +kernel
theorem dX11_isSwapped_5 : decode cX11_isSwapped 5 = .ok (.if_icmp .gt 52, 3) := by decide +kernel
theorem dX11_isSwapped_8 : decode cX11_isSwapped 8 = .ok (.iload_n 0, 1) := by decide +kernel
theorem dX11_isSwapped_9 : decode cX11_isSwapped 9 = .ok (.iload_n 2, 1) := by decide +kernel
theorem dX11_isSwapped_10 : decode cX11_isSwapped 10 = .ok (.idiv, 1) := by decide +kernel
theorem dX11_isSwapped_11 : decode cX11_isSwapped 11 = .ok (.bipush 10, 2) := by decide +kernel
theorem dX11_isSwapped_13 : decode cX11_isSwapped 13 = .ok (.irem, 1) := by decide +kernel
theorem dX11_isSwapped_14 : decode cX11_isSwapped 14 = .ok (.istore_n 3, 1) := by decide +kernel
theorem dX11_isSwapped_15 : decode cX11_isSwapped 15 = .ok (.iload_n 0, 1) := by decide +kernel
theorem dX11_isSwapped_16 : decode cX11_isSwapped 16 = .ok (.bipush 10, 2) := by decide +kernel
theorem dX11_isSwapped_18 : decode cX11_isSwapped 18 = .ok (.iload_n 2, 1) := by decide +kernel
theorem dX11_isSwapped_19 : decode cX11_isSwapped 19 = .ok (.imul, 1) := by decide +kernel
theorem dX11_isSwapped_20 : decode cX11_isSwapped 20 = .ok (.idiv, 1) := by decide +kernel
theorem dX11_isSwapped_21 : decode cX11_isSwapped 21 = .ok (.bipush 10, 2) := by decide +kernel
theorem dX11_isSwapped_23 : decode cX11_isSwapped 23 = .ok (.irem, 1) := by decide +kernel
theorem dX11_isSwapped_24 : decode cX11_isSwapped 24 = .ok (.istore 4, 2) := by decide +kernel
theorem dX11_isSwapped_26 : decode cX11_isSwapped 26 = .ok (.iload_n 3, 1) := by decide +kernel
theorem dX11_isSwapped_27 : decode cX11_isSwapped 27 = .ok (.iload 4, 2) := by decide +kernel
theorem dX11_isSwapped_29 : decode cX11_isSwapped 29 = .ok (.if_icmp .eq 20, 3) := by decide +kernel
theorem dX11_isSwapped_32 : decode cX11_isSwapped 32 = .ok (.iload_n 1, 1) := by decide +kernel
theorem dX11_isSwapped_33 : decode cX11_isSwapped 33 = .ok (.iload_n 0, 1) := by decide +kernel
theorem dX11_isSwapped_34 : decode cX11_isSwapped 34 = .ok (.bipush 9, 2) := by decide +kernel
theorem dX11_isSwapped_36 : decode cX11_isSwapped 36 = .ok (.iload_n 2, 1) := by decide +kernel
theorem dX11_isSwapped_37 : decode cX11_isSwapped 37 = .ok (.imul, 1) := by decide +kernel
theorem dX11_isSwapped_38 : decode cX11_isSwapped 38 = .ok (.iload_n 3, 1) := by decide +kernel
theorem dX11_isSwapped_39 : decode cX11_isSwapped 39 = .ok (.iload 4, 2) := by decide +kernel
theorem dX11_isSwapped_41 : decode cX11_isSwapped 41 = .ok (.isub, 1) := by decide +kernel
theorem dX11_isSwapped_42 : decode cX11_isSwapped 42 = .ok (.imul, 1) := by decide +kernel
theorem dX11_isSwapped_43 : decode cX11_isSwapped 43 = .ok (.iadd, 1) := by decide +kernel
theorem dX11_isSwapped_44 : decode cX11_isSwapped 44 = .ok (.if_icmp .ne 5, 3) := by decide +kernel
theorem dX11_isSwapped_47 : decode cX11_isSwapped 47 = .ok (.iconst 1, 1) := by decide +kernel
theorem dX11_isSwapped_48 : decode cX11_isSwapped 48 = .ok (.ireturn, 1) := by decide +kernel
theorem dX11_isSwapped_49 : decode cX11_isSwapped 49 = .ok (.iload_n 2, 1) := by decide +kernel
theorem dX11_isSwapped_50 : decode cX11_isSwapped 50 = .ok (.bipush 10, 2) := by decide +kernel
theorem dX11_isSwapped_52 : decode cX11_isSwapped 52 = .ok (.imul, 1) := by decide +kernel
theorem dX11_isSwapped_53 : decode cX11_isSwapped 53 = .ok (.istore_n 2, 1) := by decide +kernel
theorem dX11_isSwapped_54 : decode cX11_isSwapped 54 = .ok (.goto (-52), 3) := by decide +kernel
theorem dX11_isSwapped_57 : decode cX11_isSwapped 57 = .ok (.iconst 0, 1) := by decide +kernel
theorem dX11_isSwapped_58 : decode cX11_isSwapped 58 = .ok (.ireturn, 1) := by decide +kernel
theorem dX11_lastReaderOf_0 : decode cX11_lastReaderOf 0 = .ok (.bipush (-9), 2) := by decide +kernel
theorem dX11_lastReaderOf_2 : decode cX11_lastReaderOf 2 = .ok (.istore_n 2, 1) := by decide +kernel
theorem dX11_lastReaderOf_3 : decode cX11_lastReaderOf 3 = .ok (.iconst 0, 1) := by decide +kernel
theorem dX11_lastReaderOf_4 : decode cX11_lastReaderOf 4 = .ok (.istore_n 3, 1) := by decide +kernel
theorem dX11_lastReaderOf_5 : decode cX11_lastReaderOf 5 = .ok (.iload_n 3, 1) := by decide +kernel
theorem dX11_lastReaderOf_6 : decode cX11_lastReaderOf 6 = .ok (.aload_n 0, 1) := by decide +kernel
theorem dX11_lastReaderOf_7 : decode cX11_lastReaderOf 7 = .ok (.getfield 34, 3) := by decide +kernel
theorem dX11_lastReaderOf_10 : decode cX11_lastReaderOf 10 = .ok (.invokevirtual 139, 3) := by decide +kernel
theorem dX11_lastReaderOf_13 : decode cX11_lastReaderOf 13 = .ok (.if_icmp .ge 45, 3) := by decide +kernel
theorem dX11_lastReaderOf_16 : decode cX11_lastReaderOf 16 = .ok (.aload_n 0, 1) := by decide +kernel
theorem dX11_lastReaderOf_17 : decode cX11_lastReaderOf 17 = .ok (.getfield 34, 3) := by decide +kernel
theorem dX11_lastReaderOf_20 : decode cX11_lastReaderOf 20 = .ok (.iload_n 3, 1) := by decide +kernel
theorem dX11_lastReaderOf_21 : decode cX11_lastReaderOf 21 = .ok (.invokevirtual 142, 3) := by decide +kernel
theorem dX11_lastReaderOf_24 : decode cX11_lastReaderOf 24 = .ok (.checkcast 482, 3) := by decide +kernel
theorem dX11_lastReaderOf_27 : decode cX11_lastReaderOf 27 = .ok (.getfield 539, 3) := by decide +kernel
theorem dX11_lastReaderOf_30 : decode cX11_lastReaderOf 30 = .ok (.aload_n 1, 1) := by decide +kernel
theorem dX11_lastReaderOf_31 : decode cX11_lastReaderOf 31 = .ok (.getfield 335, 3) := by decide +kernel
theorem dX11_lastReaderOf_34 : decode cX11_lastReaderOf 34 = .ok (.if_icmp .ne 18, 3) := by decide +kernel
theorem dX11_lastReaderOf_37 : decode cX11_lastReaderOf 37 = .ok (.aload_n 0, 1) := by decide +kernel
theorem dX11_lastReaderOf_38 : decode cX11_lastReaderOf 38 = .ok (.getfield 34, 3) := by decide +kernel
theorem dX11_lastReaderOf_41 : decode cX11_lastReaderOf 41 = .ok (.iload_n 3, 1) := by decide +kernel
theorem dX11_lastReaderOf_42 : decode cX11_lastReaderOf 42 = .ok (.invokevirtual 142, 3) := by decide +kernel
theorem dX11_lastReaderOf_45 : decode cX11_lastReaderOf 45 = .ok (.checkcast 482, 3) := by decide +kernel
theorem dX11_lastReaderOf_48 : decode cX11_lastReaderOf 48 = .ok (.getfield 540, 3) := by decide +kernel
theorem dX11_lastReaderOf_51 : decode cX11_lastReaderOf 51 = .ok (.istore_n 2, 1) := by decide +kernel
theorem dX11_lastReaderOf_52 : decode cX11_lastReaderOf 52 = .ok (.iinc 3 1, 3) := by decide +kernel
theorem dX11_lastReaderOf_55 : decode cX11_lastReaderOf 55 = .ok (.goto (-50), 3) := by decide +kernel
theorem dX11_lastReaderOf_58 : decode cX11_lastReaderOf 58 = .ok (.iload_n 2, 1) := by decide +kernel
theorem dX11_lastReaderOf_59 : decode cX11_lastReaderOf 59 = .ok (.ireturn, 1) := by decide +kernel
theorem dX11_readersOf_0 : decode cX11_readersOf 0 = .ok (.iconst 0, 1) := by decide +kernel
theorem dX11_readersOf_1 : decode cX11_readersOf 1 = .ok (.istore 4, 2) := by decide +kernel
theorem dX11_readersOf_3 : decode cX11_readersOf 3 = .ok (.iconst 0, 1) := by decide +kernel
theorem dX11_readersOf_4 : decode cX11_readersOf 4 = .ok (.istore 5, 2) := by decide +kernel
theorem dX11_readersOf_6 : decode cX11_readersOf 6 = .ok (.iload 5, 2) := by decide +kernel
theorem dX11_readersOf_8 : decode cX11_readersOf 8 = .ok (.aload_n 0, 1) := by decide +kernel
theorem dX11_readersOf_9 : decode cX11_readersOf 9 = .ok (.getfield 34, 3) := by decide +kernel
theorem dX11_readersOf_12 : decode cX11_readersOf 12 = .ok (.invokevirtual 139, 3) := by decide +kernel
theorem dX11_readersOf_15 : decode cX11_readersOf 15 = .ok (.if_icmp .ge 57, 3) := by decide +kernel
theorem dX11_readersOf_18 : decode cX11_readersOf 18 = .ok (.aload_n 0, 1) := by decide +kernel
theorem dX11_readersOf_19 : decode cX11_readersOf 19 = .ok (.getfield 34, 3) := by decide +kernel
theorem dX11_readersOf_22 : decode cX11_readersOf 22 = .ok (.iload 5, 2) := by decide +kernel
theorem dX11_readersOf_24 : decode cX11_readersOf 24 = .ok (.invokevirtual 142, 3) := by decide +kernel
theorem dX11_readersOf_27 : decode cX11_readersOf 27 = .ok (.checkcast 482, 3) := by decide +kernel
theorem dX11_readersOf_30 : decode cX11_readersOf 30 = .ok (.astore 6, 2) := by decide +kernel
theorem dX11_readersOf_32 : decode cX11_readersOf 32 = .ok (.aload 6, 2) := by decide +kernel
theorem dX11_readersOf_34 : decode cX11_readersOf 34 = .ok (.getfield 539, 3) := by decide +kernel
theorem dX11_readersOf_37 : decode cX11_readersOf 37 = .ok (.aload_n 1, 1) := by decide +kernel
theorem dX11_readersOf_38 : decode cX11_readersOf 38 = .ok (.getfield 335, 3) := by decide +kernel
theorem dX11_readersOf_41 : decode cX11_readersOf 41 = .ok (.if_icmp .ne 25, 3) := by decide +kernel
theorem dX11_readersOf_44 : decode cX11_readersOf 44 = .ok (.aload 6, 2) := by decide +kernel
theorem dX11_readersOf_46 : decode cX11_readersOf 46 = .ok (.iload_n 2, 1) := by decide +kernel
theorem dX11_readersOf_47 : decode cX11_readersOf 47 = .ok (.iload_n 3, 1) := by decide +kernel
theorem dX11_readersOf_48 : decode cX11_readersOf 48 = .ok (.invokevirtual 541, 3) := by decide +kernel
theorem dX11_readersOf_51 : decode cX11_readersOf 51 = .ok (.ifCond .eq 15, 3) := by decide +kernel
theorem dX11_readersOf_54 : decode cX11_readersOf 54 = .ok (.iload 4, 2) := by decide +kernel
theorem dX11_readersOf_56 : decode cX11_readersOf 56 = .ok (.iconst 1, 1) := by decide +kernel
theorem dX11_readersOf_57 : decode cX11_readersOf 57 = .ok (.aload 6, 2) := by decide +kernel
theorem dX11_readersOf_59 : decode cX11_readersOf 59 = .ok (.getfield 540, 3) := by decide +kernel
theorem dX11_readersOf_62 : decode cX11_readersOf 62 = .ok (.ishl, 1) := by decide +kernel
theorem dX11_readersOf_63 : decode cX11_readersOf 63 = .ok (.ior, 1) := by decide +kernel
theorem dX11_readersOf_64 : decode cX11_readersOf 64 = .ok (.istore 4, 2) := by decide +kernel
theorem dX11_readersOf_66 : decode cX11_readersOf 66 = .ok (.iinc 5 1, 3) := by decide +kernel
theorem dX11_readersOf_69 : decode cX11_readersOf 69 = .ok (.goto (-63), 3) := by decide +kernel
theorem dX11_readersOf_72 : decode cX11_readersOf 72 = .ok (.iload 4, 2) := by decide +kernel
theorem dX11_readersOf_74 : decode cX11_readersOf 74 = .ok (.ireturn, 1) := by decide +kernel
theorem dX11_everHad_0 : decode cX11_everHad 0 = .ok (.iconst 0, 1) := by decide +kernel
theorem dX11_everHad_1 : decode cX11_everHad 1 = .ok (.istore_n 3, 1) := by decide +kernel
theorem dX11_everHad_2 : decode cX11_everHad 2 = .ok (.iload_n 3, 1) := by decide +kernel
theorem dX11_everHad_3 : decode cX11_everHad 3 = .ok (.aload_n 0, 1) := by decide +kernel
theorem dX11_everHad_4 : decode cX11_everHad 4 = .ok (.getfield 34, 3) := by decide +kernel
theorem dX11_everHad_7 : decode cX11_everHad 7 = .ok (.invokevirtual 139, 3) := by decide +kernel
theorem dX11_everHad_10 : decode cX11_everHad 10 = .ok (.if_icmp .ge 50, 3) := by decide +kernel
theorem dX11_everHad_13 : decode cX11_everHad 13 = .ok (.aload_n 0, 1) := by decide +kernel
theorem dX11_everHad_14 : decode cX11_everHad 14 = .ok (.getfield 34, 3) := by decide +kernel
theorem dX11_everHad_17 : decode cX11_everHad 17 = .ok (.iload_n 3, 1) := by decide +kernel
theorem dX11_everHad_18 : decode cX11_everHad 18 = .ok (.invokevirtual 142, 3) := by decide +kernel
theorem dX11_everHad_21 : decode cX11_everHad 21 = .ok (.checkcast 482, 3) := by decide +kernel
theorem dX11_everHad_24 : decode cX11_everHad 24 = .ok (.getfield 540, 3) := by decide +kernel
theorem dX11_everHad_27 : decode cX11_everHad 27 = .ok (.iload_n 1, 1) := by decide +kernel
theorem dX11_everHad_28 : decode cX11_everHad 28 = .ok (.if_icmp .ne 26, 3) := by decide +kernel
theorem dX11_everHad_31 : decode cX11_everHad 31 = .ok (.aload_n 0, 1) := by decide +kernel
theorem dX11_everHad_32 : decode cX11_everHad 32 = .ok (.getfield 34, 3) := by decide +kernel
theorem dX11_everHad_35 : decode cX11_everHad 35 = .ok (.iload_n 3, 1) := by decide +kernel
theorem dX11_everHad_36 : decode cX11_everHad 36 = .ok (.invokevirtual 142, 3) := by decide +kernel
theorem dX11_everHad_39 : decode cX11_everHad 39 = .ok (.checkcast 482, 3) := by decide +kernel
theorem dX11_everHad_42 : decode cX11_everHad 42 = .ok (.getfield 539, 3) := by decide +kernel
theorem dX11_everHad_45 : decode cX11_everHad 45 = .ok (.aload_n 2, 1) := by decide +kernel
theorem dX11_everHad_46 : decode cX11_everHad 46 = .ok (.getfield 335, 3) := by decide +kernel
theorem dX11_everHad_49 : decode cX11_everHad 49 = .ok (.if_icmp .ne 5, 3) := by decide +kernel
theorem dX11_everHad_52 : decode cX11_everHad 52 = .ok (.iconst 1, 1) := by decide +kernel
theorem dX11_everHad_53 : decode cX11_everHad 53 = .ok (.ireturn, 1) := by decide +kernel
theorem dX11_everHad_54 : decode cX11_everHad 54 = .ok (.iinc 3 1, 3) := by decide +kernel
theorem dX11_everHad_57 : decode cX11_everHad 57 = .ok (.goto (-55), 3) := by decide +kernel
theorem dX11_everHad_60 : decode cX11_everHad 60 = .ok (.iconst 0, 1) := by decide +kernel
theorem dX11_everHad_61 : decode cX11_everHad 61 = .ok (.ireturn, 1) := by decide +kernel
theorem dX11_bestShelves_0 : decode cX11_bestShelves 0 = .ok (.iconst 0, 1) := by decide +kernel
theorem dX11_bestShelves_1 : decode cX11_bestShelves 1 = .ok (.istore_n 3, 1) := by decide +kernel
theorem dX11_bestShelves_2 : decode cX11_bestShelves 2 = .ok (.iconst 0, 1) := by decide +kernel
theorem dX11_bestShelves_3 : decode cX11_bestShelves 3 = .ok (.istore 4, 2) := by decide +kernel
theorem dX11_bestShelves_5 : decode cX11_bestShelves 5 = .ok (.iconst 0, 1) := by decide +kernel
theorem dX11_bestShelves_6 : decode cX11_bestShelves 6 = .ok (.istore 5, 2) := by decide +kernel
theorem dX11_bestShelves_8 : decode cX11_bestShelves 8 = .ok (.aload_n 0, 1) := by decide +kernel
theorem dX11_bestShelves_9 : decode cX11_bestShelves 9 = .ok (.invokestatic 544, 3) := by decide +kernel
theorem dX11_bestShelves_12 : decode cX11_bestShelves 12 = .ok (.istore 6, 2) := by decide +kernel
theorem dX11_bestShelves_14 : decode cX11_bestShelves 14 = .ok (.iconst 1, 1) := by decide +kernel
theorem dX11_bestShelves_15 : decode cX11_bestShelves 15 = .ok (.istore 7, 2) := by decide +kernel
theorem dX11_bestShelves_17 : decode cX11_bestShelves 17 = .ok (.iload 7, 2) := by decide +kernel
theorem dX11_bestShelves_19 : decode cX11_bestShelves 19 = .ok (.sipush 256, 3) := by decide +kernel
theorem dX11_bestShelves_22 : decode cX11_bestShelves 22 = .ok (.if_icmp .ge 74, 3) := by decide +kernel
theorem dX11_bestShelves_25 : decode cX11_bestShelves 25 = .ok (.iload 7, 2) := by decide +kernel
theorem dX11_bestShelves_27 : decode cX11_bestShelves 27 = .ok (.iload 6, 2) := by decide +kernel
theorem dX11_bestShelves_29 : decode cX11_bestShelves 29 = .ok (.iand, 1) := by decide +kernel
theorem dX11_bestShelves_30 : decode cX11_bestShelves 30 = .ok (.ifCond .eq 6, 3) := by decide +kernel
theorem dX11_bestShelves_33 : decode cX11_bestShelves 33 = .ok (.goto 57, 3) := by decide +kernel
theorem dX11_bestShelves_36 : decode cX11_bestShelves 36 = .ok (.aload_n 1, 1) := by decide +kernel
theorem dX11_bestShelves_37 : decode cX11_bestShelves 37 = .ok (.iload 7, 2) := by decide +kernel
theorem dX11_bestShelves_39 : decode cX11_bestShelves 39 = .ok (.invokestatic 391, 3) := by decide +kernel
theorem dX11_bestShelves_42 : decode cX11_bestShelves 42 = .ok (.istore 8, 2) := by decide +kernel
theorem dX11_bestShelves_44 : decode cX11_bestShelves 44 = .ok (.aload_n 0, 1) := by decide +kernel
theorem dX11_bestShelves_45 : decode cX11_bestShelves 45 = .ok (.iload 7, 2) := by decide +kernel
theorem dX11_bestShelves_47 : decode cX11_bestShelves 47 = .ok (.invokestatic 391, 3) := by decide +kernel
theorem dX11_bestShelves_50 : decode cX11_bestShelves 50 = .ok (.istore 9, 2) := by decide +kernel
theorem dX11_bestShelves_52 : decode cX11_bestShelves 52 = .ok (.iload 8, 2) := by decide +kernel
theorem dX11_bestShelves_54 : decode cX11_bestShelves 54 = .ok (.iload_n 2, 1) := by decide +kernel
theorem dX11_bestShelves_55 : decode cX11_bestShelves 55 = .ok (.if_icmp .gt 35, 3) := by decide +kernel
theorem dX11_bestShelves_58 : decode cX11_bestShelves 58 = .ok (.iload 9, 2) := by decide +kernel
theorem dX11_bestShelves_60 : decode cX11_bestShelves 60 = .ok (.iload 4, 2) := by decide +kernel
theorem dX11_bestShelves_62 : decode cX11_bestShelves 62 = .ok (.if_icmp .gt 17, 3) := by decide +kernel
theorem dX11_bestShelves_65 : decode cX11_bestShelves 65 = .ok (.iload 9, 2) := by decide +kernel
theorem dX11_bestShelves_67 : decode cX11_bestShelves 67 = .ok (.iload 4, 2) := by decide +kernel
theorem dX11_bestShelves_69 : decode cX11_bestShelves 69 = .ok (.if_icmp .ne 21, 3) := by decide +kernel
theorem dX11_bestShelves_72 : decode cX11_bestShelves 72 = .ok (.iload 8, 2) := by decide +kernel
theorem dX11_bestShelves_74 : decode cX11_bestShelves 74 = .ok (.iload 5, 2) := by decide +kernel
theorem dX11_bestShelves_76 : decode cX11_bestShelves 76 = .ok (.if_icmp .ge 14, 3) := by decide +kernel
theorem dX11_bestShelves_79 : decode cX11_bestShelves 79 = .ok (.iload 7, 2) := by decide +kernel
theorem dX11_bestShelves_81 : decode cX11_bestShelves 81 = .ok (.istore_n 3, 1) := by decide +kernel
theorem dX11_bestShelves_82 : decode cX11_bestShelves 82 = .ok (.iload 9, 2) := by decide +kernel
theorem dX11_bestShelves_84 : decode cX11_bestShelves 84 = .ok (.istore 4, 2) := by decide +kernel
theorem dX11_bestShelves_86 : decode cX11_bestShelves 86 = .ok (.iload 8, 2) := by decide +kernel
theorem dX11_bestShelves_88 : decode cX11_bestShelves 88 = .ok (.istore 5, 2) := by decide +kernel
theorem dX11_bestShelves_90 : decode cX11_bestShelves 90 = .ok (.iinc 7 1, 3) := by decide +kernel
theorem dX11_bestShelves_93 : decode cX11_bestShelves 93 = .ok (.goto (-76), 3) := by decide +kernel
theorem dX11_bestShelves_96 : decode cX11_bestShelves 96 = .ok (.iload_n 3, 1) := by decide +kernel
theorem dX11_bestShelves_97 : decode cX11_bestShelves 97 = .ok (.ireturn, 1) := by decide +kernel
theorem dX11_unlikelyShelves_0 : decode cX11_unlikelyShelves 0 = .ok (.iconst 0, 1) := by decide +kernel
theorem dX11_unlikelyShelves_1 : decode cX11_unlikelyShelves 1 = .ok (.istore_n 1, 1) := by decide +kernel
theorem dX11_unlikelyShelves_2 : decode cX11_unlikelyShelves 2 = .ok (.iconst 0, 1) := by decide +kernel
theorem dX11_unlikelyShelves_3 : decode cX11_unlikelyShelves 3 = .ok (.istore_n 2, 1) := by decide +kernel
theorem dX11_unlikelyShelves_4 : decode cX11_unlikelyShelves 4 = .ok (.iload_n 2, 1) := by decide +kernel
theorem dX11_unlikelyShelves_5 : decode cX11_unlikelyShelves 5 = .ok (.bipush 8, 2) := by decide +kernel
theorem dX11_unlikelyShelves_7 : decode cX11_unlikelyShelves 7 = .ok (.if_icmp .ge 31, 3) := by decide +kernel
theorem dX11_unlikelyShelves_10 : decode cX11_unlikelyShelves 10 = .ok (.iload_n 2, 1) := by decide +kernel
theorem dX11_unlikelyShelves_11 : decode cX11_unlikelyShelves 11 = .ok (.aload_n 0, 1) := by decide +kernel
theorem dX11_unlikelyShelves_12 : decode cX11_unlikelyShelves 12 = .ok (.arraylength, 1) := by decide +kernel
theorem dX11_unlikelyShelves_13 : decode cX11_unlikelyShelves 13 = .ok (.if_icmp .ge 25, 3) := by decide +kernel
theorem dX11_unlikelyShelves_16 : decode cX11_unlikelyShelves 16 = .ok (.iload_n 1, 1) := by decide +kernel
theorem dX11_unlikelyShelves_17 : decode cX11_unlikelyShelves 17 = .ok (.aload_n 0, 1) := by decide +kernel
theorem dX11_unlikelyShelves_18 : decode cX11_unlikelyShelves 18 = .ok (.iload_n 2, 1) := by decide +kernel
theorem dX11_unlikelyShelves_19 : decode cX11_unlikelyShelves 19 = .ok (.iaload, 1) := by decide +kernel
theorem dX11_unlikelyShelves_20 : decode cX11_unlikelyShelves 20 = .ok (.ifCond .ne 9, 3) := by decide +kernel
theorem dX11_unlikelyShelves_23 : decode cX11_unlikelyShelves 23 = .ok (.iconst 1, 1) := by decide +kernel
theorem dX11_unlikelyShelves_24 : decode cX11_unlikelyShelves 24 = .ok (.iload_n 2, 1) := by decide +kernel
theorem dX11_unlikelyShelves_25 : decode cX11_unlikelyShelves 25 = .ok (.ishl, 1) := by decide +kernel
theorem dX11_unlikelyShelves_26 : decode cX11_unlikelyShelves 26 = .ok (.goto 4, 3) := by decide +kernel
theorem dX11_unlikelyShelves_29 : decode cX11_unlikelyShelves 29 = .ok (.iconst 0, 1) := by decide +kernel
theorem dX11_unlikelyShelves_30 : decode cX11_unlikelyShelves 30 = .ok (.ior, 1) := by decide +kernel
theorem dX11_unlikelyShelves_31 : decode cX11_unlikelyShelves 31 = .ok (.istore_n 1, 1) := by decide +kernel
theorem dX11_unlikelyShelves_32 : decode cX11_unlikelyShelves 32 = .ok (.iinc 2 1, 3) := by decide +kernel
theorem dX11_unlikelyShelves_35 : decode cX11_unlikelyShelves 35 = .ok (.goto (-31), 3) := by decide +kernel
theorem dX11_unlikelyShelves_38 : decode cX11_unlikelyShelves 38 = .ok (.iload_n 1, 1) := by decide +kernel
theorem dX11_unlikelyShelves_39 : decode cX11_unlikelyShelves 39 = .ok (.ireturn, 1) := by decide +kernel
theorem dX11_sumOfBits_0 : decode cX11_sumOfBits 0 = .ok (.iconst 0, 1) := by decide +kernel
theorem dX11_sumOfBits_1 : decode cX11_sumOfBits 1 = .ok (.istore_n 2, 1) := by decide +kernel
theorem dX11_sumOfBits_2 : decode cX11_sumOfBits 2 = .ok (.iconst 0, 1) := by decide +kernel
theorem dX11_sumOfBits_3 : decode cX11_sumOfBits 3 = .ok (.istore_n 3, 1) := by decide +kernel
theorem dX11_sumOfBits_4 : decode cX11_sumOfBits 4 = .ok (.iload_n 3, 1) := by decide +kernel
theorem dX11_sumOfBits_5 : decode cX11_sumOfBits 5 = .ok (.bipush 8, 2) := by decide +kernel
theorem dX11_sumOfBits_7 : decode cX11_sumOfBits 7 = .ok (.if_icmp .ge 27, 3) := by decide +kernel
theorem dX11_sumOfBits_10 : decode cX11_sumOfBits 10 = .ok (.iload_n 3, 1) := by decide +kernel
theorem dX11_sumOfBits_11 : decode cX11_sumOfBits 11 = .ok (.aload_n 0, 1) := by decide +kernel
theorem dX11_sumOfBits_12 : decode cX11_sumOfBits 12 = .ok (.arraylength, 1) := by decide +kernel
theorem dX11_sumOfBits_13 : decode cX11_sumOfBits 13 = .ok (.if_icmp .ge 21, 3) := by decide +kernel
theorem dX11_sumOfBits_16 : decode cX11_sumOfBits 16 = .ok (.iload_n 2, 1) := by decide +kernel
theorem dX11_sumOfBits_17 : decode cX11_sumOfBits 17 = .ok (.iload_n 1, 1) := by decide +kernel
theorem dX11_sumOfBits_18 : decode cX11_sumOfBits 18 = .ok (.iload_n 3, 1) := by decide +kernel
theorem dX11_sumOfBits_19 : decode cX11_sumOfBits 19 = .ok (.ishr, 1) := by decide +kernel
theorem dX11_sumOfBits_20 : decode cX11_sumOfBits 20 = .ok (.iconst 1, 1) := by decide +kernel
theorem dX11_sumOfBits_21 : decode cX11_sumOfBits 21 = .ok (.iand, 1) := by decide +kernel
theorem dX11_sumOfBits_22 : decode cX11_sumOfBits 22 = .ok (.aload_n 0, 1) := by decide +kernel
theorem dX11_sumOfBits_23 : decode cX11_sumOfBits 23 = .ok (.iload_n 3, 1) := by decide +kernel
theorem dX11_sumOfBits_24 : decode cX11_sumOfBits 24 = .ok (.iaload, 1) := by decide +kernel
theorem dX11_sumOfBits_25 : decode cX11_sumOfBits 25 = .ok (.imul, 1) := by decide +kernel
theorem dX11_sumOfBits_26 : decode cX11_sumOfBits 26 = .ok (.iadd, 1) := by decide +kernel
theorem dX11_sumOfBits_27 : decode cX11_sumOfBits 27 = .ok (.istore_n 2, 1) := by decide +kernel
theorem dX11_sumOfBits_28 : decode cX11_sumOfBits 28 = .ok (.iinc 3 1, 3) := by decide +kernel
theorem dX11_sumOfBits_31 : decode cX11_sumOfBits 31 = .ok (.goto (-27), 3) := by decide +kernel
theorem dX11_sumOfBits_34 : decode cX11_sumOfBits 34 = .ok (.iload_n 2, 1) := by decide +kernel
theorem dX11_sumOfBits_35 : decode cX11_sumOfBits 35 = .ok (.ireturn, 1) := by decide +kernel
theorem dX11_tellLook_0 : decode cX11_tellLook 0 = .ok (.aload_n 0, 1) := by decide +kernel
theorem dX11_tellLook_1 : decode cX11_tellLook 1 = .ok (.getfield 31, 3) := by decide +kernel
theorem dX11_tellLook_4 : decode cX11_tellLook 4 = .ok (.invokevirtual 139, 3) := by decide +kernel
theorem dX11_tellLook_7 : decode cX11_tellLook 7 = .ok (.bipush 40, 2) := by decide +kernel
theorem dX11_tellLook_9 : decode cX11_tellLook 9 = .ok (.if_icmp .ge 27, 3) := by decide +kernel
theorem dX11_tellLook_12 : decode cX11_tellLook 12 = .ok (.aload_n 0, 1) := by decide +kernel
theorem dX11_tellLook_13 : decode cX11_tellLook 13 = .ok (.getfield 31, 3) := by decide +kernel
theorem dX11_tellLook_16 : decode cX11_tellLook 16 = .ok (.new 399, 3) := by decide +kernel
theorem dX11_tellLook_19 : decode cX11_tellLook 19 = .ok (.dup, 1) := by decide +kernel
theorem dX11_tellLook_20 : decode cX11_tellLook 20 = .ok (.aload_n 1, 1) := by decide +kernel
theorem dX11_tellLook_21 : decode cX11_tellLook 21 = .ok (.getfield 335, 3) := by decide +kernel
theorem dX11_tellLook_24 : decode cX11_tellLook 24 = .ok (.aload_n 0, 1) := by decide +kernel
theorem dX11_tellLook_25 : decode cX11_tellLook 25 = .ok (.getfield 71, 3) := by decide +kernel
theorem dX11_tellLook_28 : decode cX11_tellLook 28 = .ok (.iload_n 2, 1) := by decide +kernel
theorem dX11_tellLook_29 : decode cX11_tellLook 29 = .ok (.invokespecial 547, 3) := by decide +kernel
theorem dX11_tellLook_32 : decode cX11_tellLook 32 = .ok (.invokevirtual 165, 3) := by decide +kernel
theorem dX11_tellLook_35 : decode cX11_tellLook 35 = .ok (.pop, 1) := by decide +kernel
theorem dX11_tellLook_36 : decode cX11_tellLook 36 = .ok (.return_, 1) := by decide +kernel
theorem dX11_isLook_0 : decode cX11_isLook 0 = .ok (.aload_n 0, 1) := by decide +kernel
theorem dX11_isLook_1 : decode cX11_isLook 1 = .ok (.getfield 31, 3) := by decide +kernel
theorem dX11_isLook_4 : decode cX11_isLook 4 = .ok (.iload_n 1, 1) := by decide +kernel
theorem dX11_isLook_5 : decode cX11_isLook 5 = .ok (.invokevirtual 142, 3) := by decide +kernel
theorem dX11_isLook_8 : decode cX11_isLook 8 = .ok (.checkcast 399, 3) := by decide +kernel
theorem dX11_isLook_11 : decode cX11_isLook 11 = .ok (.getfield 401, 3) := by decide +kernel
theorem dX11_isLook_14 : decode cX11_isLook 14 = .ok (.aload_n 2, 1) := by decide +kernel
theorem dX11_isLook_15 : decode cX11_isLook 15 = .ok (.getfield 335, 3) := by decide +kernel
theorem dX11_isLook_18 : decode cX11_isLook 18 = .ok (.if_icmp .ne 25, 3) := by decide +kernel
theorem dX11_isLook_21 : decode cX11_isLook 21 = .ok (.aload_n 0, 1) := by decide +kernel
theorem dX11_isLook_22 : decode cX11_isLook 22 = .ok (.getfield 31, 3) := by decide +kernel
theorem dX11_isLook_25 : decode cX11_isLook 25 = .ok (.iload_n 1, 1) := by decide +kernel
theorem dX11_isLook_26 : decode cX11_isLook 26 = .ok (.invokevirtual 142, 3) := by decide +kernel
theorem dX11_isLook_29 : decode cX11_isLook 29 = .ok (.checkcast 399, 3) := by decide +kernel
theorem dX11_isLook_32 : decode cX11_isLook 32 = .ok (.getfield 406, 3) := by decide +kernel
theorem dX11_isLook_35 : decode cX11_isLook 35 = .ok (.iload_n 3, 1) := by decide +kernel
theorem dX11_isLook_36 : decode cX11_isLook 36 = .ok (.if_icmp .ne 7, 3) := by decide +kernel
theorem dX11_isLook_39 : decode cX11_isLook 39 = .ok (.iconst 1, 1) := by decide +kernel
theorem dX11_isLook_40 : decode cX11_isLook 40 = .ok (.goto 4, 3) := by decide +kernel
theorem dX11_isLook_43 : decode cX11_isLook 43 = .ok (.iconst 0, 1) := by decide +kernel
theorem dX11_isLook_44 : decode cX11_isLook 44 = .ok (.ireturn, 1) := by decide +kernel
theorem dX11_lastPresent_0 : decode cX11_lastPresent 0 = .ok (.aload_n 0, 1) := by decide +kernel
theorem dX11_lastPresent_1 : decode cX11_lastPresent 1 = .ok (.getfield 31, 3) := by decide +kernel
theorem dX11_lastPresent_4 : decode cX11_lastPresent 4 = .ok (.invokevirtual 139, 3) := by decide +kernel
theorem dX11_lastPresent_7 : decode cX11_lastPresent 7 = .ok (.iconst 1, 1) := by decide +kernel
theorem dX11_lastPresent_8 : decode cX11_lastPresent 8 = .ok (.isub, 1) := by decide +kernel
theorem dX11_lastPresent_9 : decode cX11_lastPresent 9 = .ok (.istore_n 2, 1) := by decide +kernel
theorem dX11_lastPresent_10 : decode cX11_lastPresent 10 = .ok (.iload_n 2, 1) := by decide +kernel
theorem dX11_lastPresent_11 : decode cX11_lastPresent 11 = .ok (.ifCond .lt 21, 3) := by decide +kernel
theorem dX11_lastPresent_14 : decode cX11_lastPresent 14 = .ok (.aload_n 0, 1) := by decide +kernel
theorem dX11_lastPresent_15 : decode cX11_lastPresent 15 = .ok (.iload_n 2, 1) := by decide +kernel
theorem dX11_lastPresent_16 : decode cX11_lastPresent 16 = .ok (.aload_n 1, 1) := by decide +kernel
theorem dX11_lastPresent_17 : decode cX11_lastPresent 17 = .ok (.iconst 1, 1) := by decide +kernel
theorem dX11_lastPresent_18 : decode cX11_lastPresent 18 = .ok (.invokevirtual 548, 3) := by decide +kernel
theorem dX11_lastPresent_21 : decode cX11_lastPresent 21 = .ok (.ifCond .eq 5, 3) := by decide +kernel
theorem dX11_lastPresent_24 : decode cX11_lastPresent 24 = .ok (.iload_n 2, 1) := by decide +kernel
theorem dX11_lastPresent_25 : decode cX11_lastPresent 25 = .ok (.ireturn, 1) := by decide +kernel
theorem dX11_lastPresent_26 : decode cX11_lastPresent 26 = .ok (.iinc 2 (-1), 3) := by decide +kernel
theorem dX11_lastPresent_29 : decode cX11_lastPresent 29 = .ok (.goto (-19), 3) := by decide +kernel
theorem dX11_lastPresent_32 : decode cX11_lastPresent 32 = .ok (.bipush (-9), 2) := by decide +kernel
theorem dX11_lastPresent_34 : decode cX11_lastPresent 34 = .ok (.ireturn, 1) := by decide +kernel
theorem dX11_firstAbsentBehind_0 : decode cX11_firstAbsentBehind 0 = .ok (.iload_n 2, 1) := by decide +kernel
theorem dX11_firstAbsentBehind_1 : decode cX11_firstAbsentBehind 1 = .ok (.iconst 1, 1) := by decide +kernel
theorem dX11_firstAbsentBehind_2 : decode cX11_firstAbsentBehind 2 = .ok (.iadd, 1) := by decide +kernel
theorem dX11_firstAbsentBehind_3 : decode cX11_firstAbsentBehind 3 = .ok (.istore_n 3, 1) := by decide +kernel
theorem dX11_firstAbsentBehind_4 : decode cX11_firstAbsentBehind 4 = .ok (.iload_n 2, 1) := by decide +kernel
theorem dX11_firstAbsentBehind_5 : decode cX11_firstAbsentBehind 5 = .ok (.ifCond .lt 32, 3) := by decide +kernel
theorem dX11_firstAbsentBehind_8 : decode cX11_firstAbsentBehind 8 = .ok (.iload_n 3, 1) := by decide +kernel
theorem dX11_firstAbsentBehind_9 : decode cX11_firstAbsentBehind 9 = .ok (.aload_n 0, 1) := by decide +kernel
theorem dX11_firstAbsentBehind_10 : decode cX11_firstAbsentBehind 10 = .ok (.getfield 31, 3) := by decide +kernel
theorem dX11_firstAbsentBehind_13 : decode cX11_firstAbsentBehind 13 = .ok (.invokevirtual 139, 3) := by decide +kernel
theorem dX11_firstAbsentBehind_16 : decode cX11_firstAbsentBehind 16 = .ok (.if_icmp .ge 21, 3) := by decide +kernel
theorem dX11_firstAbsentBehind_19 : decode cX11_firstAbsentBehind 19 = .ok (.aload_n 0, 1) := by decide +kernel
theorem dX11_firstAbsentBehind_20 : decode cX11_firstAbsentBehind 20 = .ok (.iload_n 3, 1) := by decide +kernel
theorem dX11_firstAbsentBehind_21 : decode cX11_firstAbsentBehind 21 = .ok (.aload_n 1, 1) := by decide +kernel
theorem dX11_firstAbsentBehind_22 : decode cX11_firstAbsentBehind 22 = .ok (.iconst 0, 1) := by decide +kernel
theorem dX11_firstAbsentBehind_23 : decode cX11_firstAbsentBehind 23 = .ok (.invokevirtual 548, 3) := by decide +kernel
theorem dX11_firstAbsentBehind_26 : decode cX11_firstAbsentBehind 26 = .ok (.ifCond .eq 5, 3) := by decide +kernel
theorem dX11_firstAbsentBehind_29 : decode cX11_firstAbsentBehind 29 = .ok (.iload_n 3, 1) := by decide +kernel
theorem dX11_firstAbsentBehind_30 : decode cX11_firstAbsentBehind 30 = .ok (.ireturn, 1) := by decide +kernel
theorem dX11_firstAbsentBehind_31 : decode cX11_firstAbsentBehind 31 = .ok (.iinc 3 1, 3) := by decide +kernel
theorem dX11_firstAbsentBehind_34 : decode cX11_firstAbsentBehind 34 = .ok (.goto (-30), 3) := by decide +kernel
theorem dX11_firstAbsentBehind_37 : decode cX11_firstAbsentBehind 37 = .ok (.bipush (-9), 2) := by decide +kernel
theorem dX11_firstAbsentBehind_39 : decode cX11_firstAbsentBehind 39 = .ok (.ireturn, 1) := by decide +kernel
theorem dX11_eyesAt_0 : decode cX11_eyesAt 0 = .ok (.iconst 0, 1) := by decide +kernel
theorem dX11_eyesAt_1 : decode cX11_eyesAt 1 = .ok (.istore_n 2, 1) := by decide +kernel
theorem dX11_eyesAt_2 : decode cX11_eyesAt 2 = .ok (.iconst 0, 1) := by decide +kernel
theorem dX11_eyesAt_3 : decode cX11_eyesAt 3 = .ok (.istore_n 3, 1) := by decide +kernel
theorem dX11_eyesAt_4 : decode cX11_eyesAt 4 = .ok (.iload_n 3, 1) := by decide +kernel
theorem dX11_eyesAt_5 : decode cX11_eyesAt 5 = .ok (.aload_n 0, 1) := by decide +kernel
theorem dX11_eyesAt_6 : decode cX11_eyesAt 6 = .ok (.getfield 37, 3) := by decide +kernel
theorem dX11_eyesAt_9 : decode cX11_eyesAt 9 = .ok (.invokevirtual 139, 3) := by decide +kernel
theorem dX11_eyesAt_12 : decode cX11_eyesAt 12 = .ok (.if_icmp .ge 48, 3) := by decide +kernel
theorem dX11_eyesAt_15 : decode cX11_eyesAt 15 = .ok (.aload_n 0, 1) := by decide +kernel
theorem dX11_eyesAt_16 : decode cX11_eyesAt 16 = .ok (.getfield 37, 3) := by decide +kernel
theorem dX11_eyesAt_19 : decode cX11_eyesAt 19 = .ok (.iload_n 3, 1) := by decide +kernel
theorem dX11_eyesAt_20 : decode cX11_eyesAt 20 = .ok (.invokevirtual 142, 3) := by decide +kernel
theorem dX11_eyesAt_23 : decode cX11_eyesAt 23 = .ok (.checkcast 422, 3) := by decide +kernel
theorem dX11_eyesAt_26 : decode cX11_eyesAt 26 = .ok (.getfield 471, 3) := by decide +kernel
theorem dX11_eyesAt_29 : decode cX11_eyesAt 29 = .ok (.iload_n 1, 1) := by decide +kernel
theorem dX11_eyesAt_30 : decode cX11_eyesAt 30 = .ok (.if_icmp .gt 24, 3) := by decide +kernel
theorem dX11_eyesAt_33 : decode cX11_eyesAt 33 = .ok (.iload_n 1, 1) := by decide +kernel
theorem dX11_eyesAt_34 : decode cX11_eyesAt 34 = .ok (.aload_n 0, 1) := by decide +kernel
theorem dX11_eyesAt_35 : decode cX11_eyesAt 35 = .ok (.getfield 37, 3) := by decide +kernel
theorem dX11_eyesAt_38 : decode cX11_eyesAt 38 = .ok (.iload_n 3, 1) := by decide +kernel
theorem dX11_eyesAt_39 : decode cX11_eyesAt 39 = .ok (.invokevirtual 142, 3) := by decide +kernel
theorem dX11_eyesAt_42 : decode cX11_eyesAt 42 = .ok (.checkcast 422, 3) := by decide +kernel
theorem dX11_eyesAt_45 : decode cX11_eyesAt 45 = .ok (.getfield 472, 3) := by decide +kernel
theorem dX11_eyesAt_48 : decode cX11_eyesAt 48 = .ok (.if_icmp .gt 6, 3) := by decide +kernel
theorem dX11_eyesAt_51 : decode cX11_eyesAt 51 = .ok (.iinc 2 1, 3) := by decide +kernel
theorem dX11_eyesAt_54 : decode cX11_eyesAt 54 = .ok (.iinc 3 1, 3) := by decide +kernel
theorem dX11_eyesAt_57 : decode cX11_eyesAt 57 = .ok (.goto (-53), 3) := by decide +kernel
theorem dX11_eyesAt_60 : decode cX11_eyesAt 60 = .ok (.iload_n 2, 1) := by decide +kernel
theorem dX11_eyesAt_61 : decode cX11_eyesAt 61 = .ok (.ireturn, 1) := by decide +kernel
theorem dX11_tellFraction_0 : decode cX11_tellFraction 0 = .ok (.lload_n 1, 1) := by decide +kernel
theorem dX11_tellFraction_1 : decode cX11_tellFraction 1 = .ok (.lload_n 3, 1) := by decide +kernel
theorem dX11_tellFraction_2 : decode cX11_tellFraction 2 = .ok (.invokestatic 552, 3) := by decide +kernel
theorem dX11_tellFraction_5 : decode cX11_tellFraction 5 = .ok (.lstore 5, 2) := by decide +kernel
theorem dX11_tellFraction_7 : decode cX11_tellFraction 7 = .ok (.lload 5, 2) := by decide +kernel
theorem dX11_tellFraction_9 : decode cX11_tellFraction 9 = .ok (.lconst 0, 1) := by decide +kernel
theorem dX11_tellFraction_10 : decode cX11_tellFraction 10 = .ok (.lcmp, 1) := by decide +kernel
theorem dX11_tellFraction_11 : decode cX11_tellFraction 11 = .ok (.ifCond .le 19, 3) := by decide +kernel
theorem dX11_tellFraction_14 : decode cX11_tellFraction 14 = .ok (.aload_n 0, 1) := by decide +kernel
theorem dX11_tellFraction_15 : decode cX11_tellFraction 15 = .ok (.lload_n 1, 1) := by decide +kernel
theorem dX11_tellFraction_16 : decode cX11_tellFraction 16 = .ok (.lload 5, 2) := by decide +kernel
theorem dX11_tellFraction_18 : decode cX11_tellFraction 18 = .ok (.ldiv, 1) := by decide +kernel
theorem dX11_tellFraction_19 : decode cX11_tellFraction 19 = .ok (.putfield 81, 3) := by decide +kernel
theorem dX11_tellFraction_22 : decode cX11_tellFraction 22 = .ok (.aload_n 0, 1) := by decide +kernel
theorem dX11_tellFraction_23 : decode cX11_tellFraction 23 = .ok (.lload_n 3, 1) := by decide +kernel
theorem dX11_tellFraction_24 : decode cX11_tellFraction 24 = .ok (.lload 5, 2) := by decide +kernel
theorem dX11_tellFraction_26 : decode cX11_tellFraction 26 = .ok (.ldiv, 1) := by decide +kernel
theorem dX11_tellFraction_27 : decode cX11_tellFraction 27 = .ok (.putfield 85, 3) := by decide +kernel
theorem dX11_tellFraction_30 : decode cX11_tellFraction 30 = .ok (.return_, 1) := by decide +kernel
theorem dX11_greatestShared_0 : decode cX11_greatestShared 0 = .ok (.iconst 0, 1) := by decide +kernel
theorem dX11_greatestShared_1 : decode cX11_greatestShared 1 = .ok (.istore 4, 2) := by decide +kernel
theorem dX11_greatestShared_3 : decode cX11_greatestShared 3 = .ok (.iload 4, 2) := by decide +kernel
theorem dX11_greatestShared_5 : decode cX11_greatestShared 5 = .ok (.sipush 1000, 3) := by decide +kernel
theorem dX11_greatestShared_8 : decode cX11_greatestShared 8 = .ok (.if_icmp .ge 25, 3) := by decide +kernel
theorem dX11_greatestShared_11 : decode cX11_greatestShared 11 = .ok (.lload_n 2, 1) := by decide +kernel
theorem dX11_greatestShared_12 : decode cX11_greatestShared 12 = .ok (.lconst 0, 1) := by decide +kernel
theorem dX11_greatestShared_13 : decode cX11_greatestShared 13 = .ok (.lcmp, 1) := by decide +kernel
theorem dX11_greatestShared_14 : decode cX11_greatestShared 14 = .ok (.ifCond .le 19, 3) := by decide +kernel
theorem dX11_greatestShared_17 : decode cX11_greatestShared 17 = .ok (.lload_n 0, 1) := by decide +kernel
theorem dX11_greatestShared_18 : decode cX11_greatestShared 18 = .ok (.lload_n 2, 1) := by decide +kernel
theorem dX11_greatestShared_19 : decode cX11_greatestShared 19 = .ok (.lrem, 1) := by decide +kernel
theorem dX11_greatestShared_20 : decode cX11_greatestShared 20 = .ok (.lstore 5, 2) := by decide +kernel
theorem dX11_greatestShared_22 : decode cX11_greatestShared 22 = .ok (.lload_n 2, 1) := by decide +kernel
theorem dX11_greatestShared_23 : decode cX11_greatestShared 23 = .ok (.lstore_n 0, 1) := by decide +kernel
theorem dX11_greatestShared_24 : decode cX11_greatestShared 24 = .ok (.lload 5, 2) := by decide +kernel
theorem dX11_greatestShared_26 : decode cX11_greatestShared 26 = .ok (.lstore_n 2, 1) := by decide +kernel
theorem dX11_greatestShared_27 : decode cX11_greatestShared 27 = .ok (.iinc 4 1, 3) := by decide +kernel
theorem dX11_greatestShared_30 : decode cX11_greatestShared 30 = .ok (.goto (-27), 3) := by decide +kernel
theorem dX11_greatestShared_33 : decode cX11_greatestShared 33 = .ok (.lload_n 0, 1) := by decide +kernel
theorem dX11_greatestShared_34 : decode cX11_greatestShared 34 = .ok (.lreturn, 1) := by decide +kernel
theorem dX11_countThere_0 : decode cX11_countThere 0 = .ok (.iconst 0, 1) := by decide +kernel
theorem dX11_countThere_1 : decode cX11_countThere 1 = .ok (.istore_n 1, 1) := by decide +kernel
theorem dX11_countThere_2 : decode cX11_countThere 2 = .ok (.iconst 0, 1) := by decide +kernel
theorem dX11_countThere_3 : decode cX11_countThere 3 = .ok (.istore_n 2, 1) := by decide +kernel
theorem dX11_countThere_4 : decode cX11_countThere 4 = .ok (.iload_n 2, 1) := by decide +kernel
theorem dX11_countThere_5 : decode cX11_countThere 5 = .ok (.aload_n 0, 1) := by decide +kernel
theorem dX11_countThere_6 : decode cX11_countThere 6 = .ok (.arraylength, 1) := by decide +kernel
theorem dX11_countThere_7 : decode cX11_countThere 7 = .ok (.if_icmp .ge 26, 3) := by decide +kernel
theorem dX11_countThere_10 : decode cX11_countThere 10 = .ok (.iload_n 1, 1) := by decide +kernel
theorem dX11_countThere_11 : decode cX11_countThere 11 = .ok (.aload_n 0, 1) := by decide +kernel
theorem dX11_countThere_12 : decode cX11_countThere 12 = .ok (.iload_n 2, 1) := by decide +kernel
theorem dX11_countThere_13 : decode cX11_countThere 13 = .ok (.aaload, 1) := by decide +kernel
theorem dX11_countThere_14 : decode cX11_countThere 14 = .ok (.invokevirtual 107, 3) := by decide +kernel
theorem dX11_countThere_17 : decode cX11_countThere 17 = .ok (.ifCond .eq 7, 3) := by decide +kernel
theorem dX11_countThere_20 : decode cX11_countThere 20 = .ok (.iconst 0, 1) := by decide +kernel
theorem dX11_countThere_21 : decode cX11_countThere 21 = .ok (.goto 4, 3) := by decide +kernel
theorem dX11_countThere_24 : decode cX11_countThere 24 = .ok (.iconst 1, 1) := by decide +kernel
theorem dX11_countThere_25 : decode cX11_countThere 25 = .ok (.iadd, 1) := by decide +kernel
theorem dX11_countThere_26 : decode cX11_countThere 26 = .ok (.istore_n 1, 1) := by decide +kernel
theorem dX11_countThere_27 : decode cX11_countThere 27 = .ok (.iinc 2 1, 3) := by decide +kernel
theorem dX11_countThere_30 : decode cX11_countThere 30 = .ok (.goto (-26), 3) := by decide +kernel
theorem dX11_countThere_33 : decode cX11_countThere 33 = .ok (.iload_n 1, 1) := by decide +kernel
theorem dX11_countThere_34 : decode cX11_countThere 34 = .ok (.ireturn, 1) := by decide +kernel
theorem dX11_mix_0 : decode cX11_mix 0 = .ok (.ldc2_w 556, 3) := by decide +kernel
theorem dX11_mix_3 : decode cX11_mix 3 = .ok (.lload_n 0, 1) := by decide +kernel
theorem dX11_mix_4 : decode cX11_mix 4 = .ok (.lmul, 1) := by decide +kernel
theorem dX11_mix_5 : decode cX11_mix 5 = .ok (.iload_n 2, 1) := by decide +kernel
theorem dX11_mix_6 : decode cX11_mix 6 = .ok (.i2l, 1) := by decide +kernel
theorem dX11_mix_7 : decode cX11_mix 7 = .ok (.ladd, 1) := by decide +kernel
theorem dX11_mix_8 : decode cX11_mix 8 = .ok (.lreturn, 1) := by decide +kernel
theorem dX11_mixBooks_0 : decode cX11_mixBooks 0 = .ok (.iconst 0, 1) := by decide +kernel
theorem dX11_mixBooks_1 : decode cX11_mixBooks 1 = .ok (.istore_n 3, 1) := by decide +kernel
theorem dX11_mixBooks_2 : decode cX11_mixBooks 2 = .ok (.iload_n 3, 1) := by decide +kernel
theorem dX11_mixBooks_3 : decode cX11_mixBooks 3 = .ok (.aload_n 0, 1) := by decide +kernel
theorem dX11_mixBooks_4 : decode cX11_mixBooks 4 = .ok (.getfield 21, 3) := by decide +kernel
theorem dX11_mixBooks_7 : decode cX11_mixBooks 7 = .ok (.invokevirtual 139, 3) := by decide +kernel
theorem dX11_mixBooks_10 : decode cX11_mixBooks 10 = .ok (.if_icmp .ge 59, 3) := by decide +kernel
theorem dX11_mixBooks_13 : decode cX11_mixBooks 13 = .ok (.aload_n 0, 1) := by decide +kernel
theorem dX11_mixBooks_14 : decode cX11_mixBooks 14 = .ok (.getfield 21, 3) := by decide +kernel
theorem dX11_mixBooks_17 : decode cX11_mixBooks 17 = .ok (.iload_n 3, 1) := by decide +kernel
theorem dX11_mixBooks_18 : decode cX11_mixBooks 18 = .ok (.invokevirtual 142, 3) := by decide +kernel
theorem dX11_mixBooks_21 : decode cX11_mixBooks 21 = .ok (.checkcast 146, 3) := by decide +kernel
theorem dX11_mixBooks_24 : decode cX11_mixBooks 24 = .ok (.astore 4, 2) := by decide +kernel
theorem dX11_mixBooks_26 : decode cX11_mixBooks 26 = .ok (.iconst 0, 1) := by decide +kernel
theorem dX11_mixBooks_27 : decode cX11_mixBooks 27 = .ok (.istore 5, 2) := by decide +kernel
theorem dX11_mixBooks_29 : decode cX11_mixBooks 29 = .ok (.iload 5, 2) := by decide +kernel
theorem dX11_mixBooks_31 : decode cX11_mixBooks 31 = .ok (.iconst 4, 1) := by decide +kernel
theorem dX11_mixBooks_32 : decode cX11_mixBooks 32 = .ok (.if_icmp .gt 21, 3) := by decide +kernel
theorem dX11_mixBooks_35 : decode cX11_mixBooks 35 = .ok (.lload_n 1, 1) := by decide +kernel
theorem dX11_mixBooks_36 : decode cX11_mixBooks 36 = .ok (.aload 4, 2) := by decide +kernel
theorem dX11_mixBooks_38 : decode cX11_mixBooks 38 = .ok (.iload 5, 2) := by decide +kernel
theorem dX11_mixBooks_40 : decode cX11_mixBooks 40 = .ok (.invokevirtual 172, 3) := by decide +kernel
theorem dX11_mixBooks_43 : decode cX11_mixBooks 43 = .ok (.invokestatic 448, 3) := by decide +kernel
theorem dX11_mixBooks_46 : decode cX11_mixBooks 46 = .ok (.lstore_n 1, 1) := by decide +kernel
theorem dX11_mixBooks_47 : decode cX11_mixBooks 47 = .ok (.iinc 5 1, 3) := by decide +kernel
theorem dX11_mixBooks_50 : decode cX11_mixBooks 50 = .ok (.goto (-21), 3) := by decide +kernel
theorem dX11_mixBooks_53 : decode cX11_mixBooks 53 = .ok (.lload_n 1, 1) := by decide +kernel
theorem dX11_mixBooks_54 : decode cX11_mixBooks 54 = .ok (.aload 4, 2) := by decide +kernel
theorem dX11_mixBooks_56 : decode cX11_mixBooks 56 = .ok (.getfield 184, 3) := by decide +kernel
theorem dX11_mixBooks_59 : decode cX11_mixBooks 59 = .ok (.invokestatic 448, 3) := by decide +kernel
theorem dX11_mixBooks_62 : decode cX11_mixBooks 62 = .ok (.lstore_n 1, 1) := by decide +kernel
theorem dX11_mixBooks_63 : decode cX11_mixBooks 63 = .ok (.iinc 3 1, 3) := by decide +kernel
theorem dX11_mixBooks_66 : decode cX11_mixBooks 66 = .ok (.goto (-64), 3) := by decide +kernel
theorem dX11_mixBooks_69 : decode cX11_mixBooks 69 = .ok (.lload_n 1, 1) := by decide +kernel
theorem dX11_mixBooks_70 : decode cX11_mixBooks 70 = .ok (.lreturn, 1) := by decide +kernel
theorem dX11_mixSlips_0 : decode cX11_mixSlips 0 = .ok (.iconst 0, 1) := by decide +kernel
theorem dX11_mixSlips_1 : decode cX11_mixSlips 1 = .ok (.istore_n 3, 1) := by decide +kernel
theorem dX11_mixSlips_2 : decode cX11_mixSlips 2 = .ok (.iload_n 3, 1) := by decide +kernel
theorem dX11_mixSlips_3 : decode cX11_mixSlips 3 = .ok (.aload_n 0, 1) := by decide +kernel
theorem dX11_mixSlips_4 : decode cX11_mixSlips 4 = .ok (.getfield 25, 3) := by decide +kernel
theorem dX11_mixSlips_7 : decode cX11_mixSlips 7 = .ok (.invokevirtual 139, 3) := by decide +kernel
theorem dX11_mixSlips_10 : decode cX11_mixSlips 10 = .ok (.if_icmp .ge 45, 3) := by decide +kernel
theorem dX11_mixSlips_13 : decode cX11_mixSlips 13 = .ok (.iconst 0, 1) := by decide +kernel
theorem dX11_mixSlips_14 : decode cX11_mixSlips 14 = .ok (.istore 4, 2) := by decide +kernel
theorem dX11_mixSlips_16 : decode cX11_mixSlips 16 = .ok (.iload 4, 2) := by decide +kernel
theorem dX11_mixSlips_18 : decode cX11_mixSlips 18 = .ok (.iconst 4, 1) := by decide +kernel
theorem dX11_mixSlips_19 : decode cX11_mixSlips 19 = .ok (.if_icmp .gt 30, 3) := by decide +kernel
theorem dX11_mixSlips_22 : decode cX11_mixSlips 22 = .ok (.lload_n 1, 1) := by decide +kernel
theorem dX11_mixSlips_23 : decode cX11_mixSlips 23 = .ok (.aload_n 0, 1) := by decide +kernel
theorem dX11_mixSlips_24 : decode cX11_mixSlips 24 = .ok (.getfield 25, 3) := by decide +kernel
theorem dX11_mixSlips_27 : decode cX11_mixSlips 27 = .ok (.iload_n 3, 1) := by decide +kernel
theorem dX11_mixSlips_28 : decode cX11_mixSlips 28 = .ok (.invokevirtual 142, 3) := by decide +kernel
theorem dX11_mixSlips_31 : decode cX11_mixSlips 31 = .ok (.checkcast 258, 3) := by decide +kernel
theorem dX11_mixSlips_34 : decode cX11_mixSlips 34 = .ok (.iload 4, 2) := by decide +kernel
theorem dX11_mixSlips_36 : decode cX11_mixSlips 36 = .ok (.invokevirtual 273, 3) := by decide +kernel
theorem dX11_mixSlips_39 : decode cX11_mixSlips 39 = .ok (.invokestatic 448, 3) := by decide +kernel
theorem dX11_mixSlips_42 : decode cX11_mixSlips 42 = .ok (.lstore_n 1, 1) := by decide +kernel
theorem dX11_mixSlips_43 : decode cX11_mixSlips 43 = .ok (.iinc 4 1, 3) := by decide +kernel
theorem dX11_mixSlips_46 : decode cX11_mixSlips 46 = .ok (.goto (-30), 3) := by decide +kernel
theorem dX11_mixSlips_49 : decode cX11_mixSlips 49 = .ok (.iinc 3 1, 3) := by decide +kernel
theorem dX11_mixSlips_52 : decode cX11_mixSlips 52 = .ok (.goto (-50), 3) := by decide +kernel
theorem dX11_mixSlips_55 : decode cX11_mixSlips 55 = .ok (.lload_n 1, 1) := by decide +kernel
theorem dX11_mixSlips_56 : decode cX11_mixSlips 56 = .ok (.lreturn, 1) := by decide +kernel
theorem dX11_mixLines_0 : decode cX11_mixLines 0 = .ok (.iconst 0, 1) := by decide +kernel
theorem dX11_mixLines_1 : decode cX11_mixLines 1 = .ok (.istore_n 3, 1) := by decide +kernel
theorem dX11_mixLines_2 : decode cX11_mixLines 2 = .ok (.iload_n 3, 1) := by decide +kernel
theorem dX11_mixLines_3 : decode cX11_mixLines 3 = .ok (.aload_n 0, 1) := by decide +kernel
theorem dX11_mixLines_4 : decode cX11_mixLines 4 = .ok (.getfield 43, 3) := by decide +kernel
theorem dX11_mixLines_7 : decode cX11_mixLines 7 = .ok (.getfield 357, 3) := by decide +kernel
theorem dX11_mixLines_10 : decode cX11_mixLines 10 = .ok (.invokevirtual 139, 3) := by decide +kernel
theorem dX11_mixLines_13 : decode cX11_mixLines 13 = .ok (.if_icmp .ge 69, 3) := by decide +kernel
theorem dX11_mixLines_16 : decode cX11_mixLines 16 = .ok (.aload_n 0, 1) := by decide +kernel
theorem dX11_mixLines_17 : decode cX11_mixLines 17 = .ok (.getfield 43, 3) := by decide +kernel
theorem dX11_mixLines_20 : decode cX11_mixLines 20 = .ok (.getfield 357, 3) := by decide +kernel
theorem dX11_mixLines_23 : decode cX11_mixLines 23 = .ok (.iload_n 3, 1) := by decide +kernel
theorem dX11_mixLines_24 : decode cX11_mixLines 24 = .ok (.invokevirtual 142, 3) := by decide +kernel
theorem dX11_mixLines_27 : decode cX11_mixLines 27 = .ok (.checkcast 363, 3) := by decide +kernel
theorem dX11_mixLines_30 : decode cX11_mixLines 30 = .ok (.astore 4, 2) := by decide +kernel
theorem dX11_mixLines_32 : decode cX11_mixLines 32 = .ok (.lload_n 1, 1) := by decide +kernel
theorem dX11_mixLines_33 : decode cX11_mixLines 33 = .ok (.aload 4, 2) := by decide +kernel
theorem dX11_mixLines_35 : decode cX11_mixLines 35 = .ok (.getfield 558, 3) := by decide +kernel
theorem dX11_mixLines_38 : decode cX11_mixLines 38 = .ok (.invokestatic 448, 3) := by decide +kernel
theorem dX11_mixLines_41 : decode cX11_mixLines 41 = .ok (.aload 4, 2) := by decide +kernel
theorem dX11_mixLines_43 : decode cX11_mixLines 43 = .ok (.getfield 561, 3) := by decide +kernel
theorem dX11_mixLines_46 : decode cX11_mixLines 46 = .ok (.invokestatic 448, 3) := by decide +kernel
theorem dX11_mixLines_49 : decode cX11_mixLines 49 = .ok (.aload 4, 2) := by decide +kernel
theorem dX11_mixLines_51 : decode cX11_mixLines 51 = .ok (.getfield 562, 3) := by decide +kernel
theorem dX11_mixLines_54 : decode cX11_mixLines 54 = .ok (.invokestatic 448, 3) := by decide +kernel
theorem dX11_mixLines_57 : decode cX11_mixLines 57 = .ok (.lstore_n 1, 1) := by decide +kernel
theorem dX11_mixLines_58 : decode cX11_mixLines 58 = .ok (.lload_n 1, 1) := by decide +kernel
theorem dX11_mixLines_59 : decode cX11_mixLines 59 = .ok (.aload 4, 2) := by decide +kernel
theorem dX11_mixLines_61 : decode cX11_mixLines 61 = .ok (.getfield 563, 3) := by decide +kernel
theorem dX11_mixLines_64 : decode cX11_mixLines 64 = .ok (.invokestatic 448, 3) := by decide +kernel
theorem dX11_mixLines_67 : decode cX11_mixLines 67 = .ok (.aload 4, 2) := by decide +kernel
theorem dX11_mixLines_69 : decode cX11_mixLines 69 = .ok (.getfield 566, 3) := by decide +kernel
theorem dX11_mixLines_72 : decode cX11_mixLines 72 = .ok (.invokestatic 448, 3) := by decide +kernel
theorem dX11_mixLines_75 : decode cX11_mixLines 75 = .ok (.lstore_n 1, 1) := by decide +kernel
theorem dX11_mixLines_76 : decode cX11_mixLines 76 = .ok (.iinc 3 1, 3) := by decide +kernel
theorem dX11_mixLines_79 : decode cX11_mixLines 79 = .ok (.goto (-77), 3) := by decide +kernel
theorem dX11_mixLines_82 : decode cX11_mixLines 82 = .ok (.lload_n 1, 1) := by decide +kernel
theorem dX11_mixLines_83 : decode cX11_mixLines 83 = .ok (.lreturn, 1) := by decide +kernel
theorem dX11_mixLooks_0 : decode cX11_mixLooks 0 = .ok (.iconst 0, 1) := by decide +kernel
theorem dX11_mixLooks_1 : decode cX11_mixLooks 1 = .ok (.istore_n 3, 1) := by decide +kernel
theorem dX11_mixLooks_2 : decode cX11_mixLooks 2 = .ok (.iload_n 3, 1) := by decide +kernel
theorem dX11_mixLooks_3 : decode cX11_mixLooks 3 = .ok (.aload_n 0, 1) := by decide +kernel
theorem dX11_mixLooks_4 : decode cX11_mixLooks 4 = .ok (.getfield 31, 3) := by decide +kernel
theorem dX11_mixLooks_7 : decode cX11_mixLooks 7 = .ok (.invokevirtual 139, 3) := by decide +kernel
theorem dX11_mixLooks_10 : decode cX11_mixLooks 10 = .ok (.if_icmp .ge 48, 3) := by decide +kernel
theorem dX11_mixLooks_13 : decode cX11_mixLooks 13 = .ok (.aload_n 0, 1) := by decide +kernel
theorem dX11_mixLooks_14 : decode cX11_mixLooks 14 = .ok (.getfield 31, 3) := by decide +kernel
theorem dX11_mixLooks_17 : decode cX11_mixLooks 17 = .ok (.iload_n 3, 1) := by decide +kernel
theorem dX11_mixLooks_18 : decode cX11_mixLooks 18 = .ok (.invokevirtual 142, 3) := by decide +kernel
theorem dX11_mixLooks_21 : decode cX11_mixLooks 21 = .ok (.checkcast 399, 3) := by decide +kernel
theorem dX11_mixLooks_24 : decode cX11_mixLooks 24 = .ok (.astore 4, 2) := by decide +kernel
theorem dX11_mixLooks_26 : decode cX11_mixLooks 26 = .ok (.lload_n 1, 1) := by decide +kernel
theorem dX11_mixLooks_27 : decode cX11_mixLooks 27 = .ok (.aload 4, 2) := by decide +kernel
theorem dX11_mixLooks_29 : decode cX11_mixLooks 29 = .ok (.getfield 401, 3) := by decide +kernel
theorem dX11_mixLooks_32 : decode cX11_mixLooks 32 = .ok (.invokestatic 448, 3) := by decide +kernel
theorem dX11_mixLooks_35 : decode cX11_mixLooks 35 = .ok (.aload 4, 2) := by decide +kernel
theorem dX11_mixLooks_37 : decode cX11_mixLooks 37 = .ok (.getfield 403, 3) := by decide +kernel
theorem dX11_mixLooks_40 : decode cX11_mixLooks 40 = .ok (.invokestatic 448, 3) := by decide +kernel
theorem dX11_mixLooks_43 : decode cX11_mixLooks 43 = .ok (.aload 4, 2) := by decide +kernel
theorem dX11_mixLooks_45 : decode cX11_mixLooks 45 = .ok (.getfield 406, 3) := by decide +kernel
theorem dX11_mixLooks_48 : decode cX11_mixLooks 48 = .ok (.invokestatic 448, 3) := by decide +kernel
theorem dX11_mixLooks_51 : decode cX11_mixLooks 51 = .ok (.lstore_n 1, 1) := by decide +kernel
theorem dX11_mixLooks_52 : decode cX11_mixLooks 52 = .ok (.iinc 3 1, 3) := by decide +kernel
theorem dX11_mixLooks_55 : decode cX11_mixLooks 55 = .ok (.goto (-53), 3) := by decide +kernel
theorem dX11_mixLooks_58 : decode cX11_mixLooks 58 = .ok (.lload_n 1, 1) := by decide +kernel
theorem dX11_mixLooks_59 : decode cX11_mixLooks 59 = .ok (.lreturn, 1) := by decide +kernel
theorem dX11_mixHads_0 : decode cX11_mixHads 0 = .ok (.iconst 0, 1) := by decide +kernel
theorem dX11_mixHads_1 : decode cX11_mixHads 1 = .ok (.istore_n 3, 1) := by decide +kernel
theorem dX11_mixHads_2 : decode cX11_mixHads 2 = .ok (.iload_n 3, 1) := by decide +kernel
theorem dX11_mixHads_3 : decode cX11_mixHads 3 = .ok (.aload_n 0, 1) := by decide +kernel
theorem dX11_mixHads_4 : decode cX11_mixHads 4 = .ok (.getfield 34, 3) := by decide +kernel
theorem dX11_mixHads_7 : decode cX11_mixHads 7 = .ok (.invokevirtual 139, 3) := by decide +kernel
theorem dX11_mixHads_10 : decode cX11_mixHads 10 = .ok (.if_icmp .ge 58, 3) := by decide +kernel
theorem dX11_mixHads_13 : decode cX11_mixHads 13 = .ok (.aload_n 0, 1) := by decide +kernel
theorem dX11_mixHads_14 : decode cX11_mixHads 14 = .ok (.getfield 34, 3) := by decide +kernel
theorem dX11_mixHads_17 : decode cX11_mixHads 17 = .ok (.iload_n 3, 1) := by decide +kernel
theorem dX11_mixHads_18 : decode cX11_mixHads 18 = .ok (.invokevirtual 142, 3) := by decide +kernel
theorem dX11_mixHads_21 : decode cX11_mixHads 21 = .ok (.checkcast 482, 3) := by decide +kernel
theorem dX11_mixHads_24 : decode cX11_mixHads 24 = .ok (.astore 4, 2) := by decide +kernel
theorem dX11_mixHads_26 : decode cX11_mixHads 26 = .ok (.lload_n 1, 1) := by decide +kernel
theorem dX11_mixHads_27 : decode cX11_mixHads 27 = .ok (.aload 4, 2) := by decide +kernel
theorem dX11_mixHads_29 : decode cX11_mixHads 29 = .ok (.getfield 539, 3) := by decide +kernel
theorem dX11_mixHads_32 : decode cX11_mixHads 32 = .ok (.invokestatic 448, 3) := by decide +kernel
theorem dX11_mixHads_35 : decode cX11_mixHads 35 = .ok (.aload 4, 2) := by decide +kernel
theorem dX11_mixHads_37 : decode cX11_mixHads 37 = .ok (.getfield 540, 3) := by decide +kernel
theorem dX11_mixHads_40 : decode cX11_mixHads 40 = .ok (.invokestatic 448, 3) := by decide +kernel
theorem dX11_mixHads_43 : decode cX11_mixHads 43 = .ok (.lstore_n 1, 1) := by decide +kernel
theorem dX11_mixHads_44 : decode cX11_mixHads 44 = .ok (.lload_n 1, 1) := by decide +kernel
theorem dX11_mixHads_45 : decode cX11_mixHads 45 = .ok (.aload 4, 2) := by decide +kernel
theorem dX11_mixHads_47 : decode cX11_mixHads 47 = .ok (.getfield 569, 3) := by decide +kernel
theorem dX11_mixHads_50 : decode cX11_mixHads 50 = .ok (.invokestatic 448, 3) := by decide +kernel
theorem dX11_mixHads_53 : decode cX11_mixHads 53 = .ok (.aload 4, 2) := by decide +kernel
theorem dX11_mixHads_55 : decode cX11_mixHads 55 = .ok (.getfield 570, 3) := by decide +kernel
theorem dX11_mixHads_58 : decode cX11_mixHads 58 = .ok (.invokestatic 448, 3) := by decide +kernel
theorem dX11_mixHads_61 : decode cX11_mixHads 61 = .ok (.lstore_n 1, 1) := by decide +kernel
theorem dX11_mixHads_62 : decode cX11_mixHads 62 = .ok (.iinc 3 1, 3) := by decide +kernel
theorem dX11_mixHads_65 : decode cX11_mixHads 65 = .ok (.goto (-63), 3) := by decide +kernel
theorem dX11_mixHads_68 : decode cX11_mixHads 68 = .ok (.lload_n 1, 1) := by decide +kernel
theorem dX11_mixHads_69 : decode cX11_mixHads 69 = .ok (.lreturn, 1) := by decide +kernel
theorem dX11_mixRows_0 : decode cX11_mixRows 0 = .ok (.iconst 0, 1) := by decide +kernel
theorem dX11_mixRows_1 : decode cX11_mixRows 1 = .ok (.istore_n 3, 1) := by decide +kernel
theorem dX11_mixRows_2 : decode cX11_mixRows 2 = .ok (.iload_n 3, 1) := by decide +kernel
theorem dX11_mixRows_3 : decode cX11_mixRows 3 = .ok (.aload_n 2, 1) := by decide +kernel
theorem dX11_mixRows_4 : decode cX11_mixRows 4 = .ok (.arraylength, 1) := by decide +kernel
theorem dX11_mixRows_5 : decode cX11_mixRows 5 = .ok (.if_icmp .ge 63, 3) := by decide +kernel
theorem dX11_mixRows_8 : decode cX11_mixRows 8 = .ok (.aload_n 2, 1) := by decide +kernel
theorem dX11_mixRows_9 : decode cX11_mixRows 9 = .ok (.iload_n 3, 1) := by decide +kernel
theorem dX11_mixRows_10 : decode cX11_mixRows 10 = .ok (.aaload, 1) := by decide +kernel
theorem dX11_mixRows_11 : decode cX11_mixRows 11 = .ok (.astore 4, 2) := by decide +kernel
theorem dX11_mixRows_13 : decode cX11_mixRows 13 = .ok (.lload_n 0, 1) := by decide +kernel
theorem dX11_mixRows_14 : decode cX11_mixRows 14 = .ok (.aload 4, 2) := by decide +kernel
theorem dX11_mixRows_16 : decode cX11_mixRows 16 = .ok (.getfield 118, 3) := by decide +kernel
theorem dX11_mixRows_19 : decode cX11_mixRows 19 = .ok (.invokestatic 448, 3) := by decide +kernel
theorem dX11_mixRows_22 : decode cX11_mixRows 22 = .ok (.lstore_n 0, 1) := by decide +kernel
theorem dX11_mixRows_23 : decode cX11_mixRows 23 = .ok (.iconst 0, 1) := by decide +kernel
theorem dX11_mixRows_24 : decode cX11_mixRows 24 = .ok (.istore 5, 2) := by decide +kernel
theorem dX11_mixRows_26 : decode cX11_mixRows 26 = .ok (.iload 5, 2) := by decide +kernel
theorem dX11_mixRows_28 : decode cX11_mixRows 28 = .ok (.aload 4, 2) := by decide +kernel
theorem dX11_mixRows_30 : decode cX11_mixRows 30 = .ok (.getfield 118, 3) := by decide +kernel
theorem dX11_mixRows_33 : decode cX11_mixRows 33 = .ok (.if_icmp .ge 29, 3) := by decide +kernel
theorem dX11_mixRows_36 : decode cX11_mixRows 36 = .ok (.iload 5, 2) := by decide +kernel
theorem dX11_mixRows_38 : decode cX11_mixRows 38 = .ok (.bipush 40, 2) := by decide +kernel
theorem dX11_mixRows_40 : decode cX11_mixRows 40 = .ok (.if_icmp .ge 22, 3) := by decide +kernel
theorem dX11_mixRows_43 : decode cX11_mixRows 43 = .ok (.lload_n 0, 1) := by decide +kernel
theorem dX11_mixRows_44 : decode cX11_mixRows 44 = .ok (.aload 4, 2) := by decide +kernel
theorem dX11_mixRows_46 : decode cX11_mixRows 46 = .ok (.getfield 115, 3) := by decide +kernel
theorem dX11_mixRows_49 : decode cX11_mixRows 49 = .ok (.iload 5, 2) := by decide +kernel
theorem dX11_mixRows_51 : decode cX11_mixRows 51 = .ok (.iaload, 1) := by decide +kernel
theorem dX11_mixRows_52 : decode cX11_mixRows 52 = .ok (.invokestatic 448, 3) := by decide +kernel
theorem dX11_mixRows_55 : decode cX11_mixRows 55 = .ok (.lstore_n 0, 1) := by decide +kernel
theorem dX11_mixRows_56 : decode cX11_mixRows 56 = .ok (.iinc 5 1, 3) := by decide +kernel
theorem dX11_mixRows_59 : decode cX11_mixRows 59 = .ok (.goto (-33), 3) := by decide +kernel
theorem dX11_mixRows_62 : decode cX11_mixRows 62 = .ok (.iinc 3 1, 3) := by decide +kernel
theorem dX11_mixRows_65 : decode cX11_mixRows 65 = .ok (.goto (-63), 3) := by decide +kernel
theorem dX11_mixRows_68 : decode cX11_mixRows 68 = .ok (.lload_n 0, 1) := by decide +kernel
theorem dX11_mixRows_69 : decode cX11_mixRows 69 = .ok (.lreturn, 1) := by decide +kernel
theorem dX12_init_0 : decode cX12_init 0 = .ok (.aload_n 0, 1) := by decide +kernel
theorem dX12_init_1 : decode cX12_init 1 = .ok (.invokespecial 1, 3) := by decide +kernel
theorem dX12_init_4 : decode cX12_init 4 = .ok (.aload_n 0, 1) := by decide +kernel
theorem dX12_init_5 : decode cX12_init 5 = .ok (.bipush 6, 2) := by decide +kernel
theorem dX12_init_7 : decode cX12_init 7 = .ok (.newarray .int, 2) := by decide +kernel
theorem dX12_init_9 : decode cX12_init 9 = .ok (.putfield 7, 3) := by decide +kernel
theorem dX12_init_12 : decode cX12_init 12 = .ok (.aload_n 0, 1) := by decide +kernel
theorem dX12_init_13 : decode cX12_init 13 = .ok (.bipush 6, 2) := by decide +kernel
theorem dX12_init_15 : decode cX12_init 15 = .ok (.newarray .int, 2) := by decide +kernel
theorem dX12_init_17 : decode cX12_init 17 = .ok (.putfield 13, 3) := by decide +kernel
theorem dX12_init_20 : decode cX12_init 20 = .ok (.aload_n 0, 1) := by decide +kernel
theorem dX12_init_21 : decode cX12_init 21 = .ok (.sipush 240, 3) := by decide +kernel
theorem dX12_init_24 : decode cX12_init 24 = .ok (.newarray .int, 2) := by decide +kernel
theorem dX12_init_26 : decode cX12_init 26 = .ok (.putfield 16, 3) := by decide +kernel
theorem dX12_init_29 : decode cX12_init 29 = .ok (.aload_n 0, 1) := by decide +kernel
theorem dX12_init_30 : decode cX12_init 30 = .ok (.bipush 40, 2) := by decide +kernel
theorem dX12_init_32 : decode cX12_init 32 = .ok (.newarray .int, 2) := by decide +kernel
theorem dX12_init_34 : decode cX12_init 34 = .ok (.putfield 19, 3) := by decide +kernel
theorem dX12_init_37 : decode cX12_init 37 = .ok (.aload_n 0, 1) := by decide +kernel
theorem dX12_init_38 : decode cX12_init 38 = .ok (.iconst 4, 1) := by decide +kernel
theorem dX12_init_39 : decode cX12_init 39 = .ok (.newarray .int, 2) := by decide +kernel
theorem dX12_init_41 : decode cX12_init 41 = .ok (.putfield 22, 3) := by decide +kernel
theorem dX12_init_44 : decode cX12_init 44 = .ok (.aload_n 0, 1) := by decide +kernel
theorem dX12_init_45 : decode cX12_init 45 = .ok (.sipush 160, 3) := by decide +kernel
theorem dX12_init_48 : decode cX12_init 48 = .ok (.newarray .byte, 2) := by decide +kernel
theorem dX12_init_50 : decode cX12_init 50 = .ok (.putfield 25, 3) := by decide +kernel
theorem dX12_init_53 : decode cX12_init 53 = .ok (.aload_n 0, 1) := by decide +kernel
theorem dX12_init_54 : decode cX12_init 54 = .ok (.bipush 24, 2) := by decide +kernel
theorem dX12_init_56 : decode cX12_init 56 = .ok (.newarray .int, 2) := by decide +kernel
theorem dX12_init_58 : decode cX12_init 58 = .ok (.putfield 29, 3) := by decide +kernel
theorem dX12_init_61 : decode cX12_init 61 = .ok (.aload_n 0, 1) := by decide +kernel
theorem dX12_init_62 : decode cX12_init 62 = .ok (.bipush 24, 2) := by decide +kernel
theorem dX12_init_64 : decode cX12_init 64 = .ok (.newarray .int, 2) := by decide +kernel
theorem dX12_init_66 : decode cX12_init 66 = .ok (.putfield 32, 3) := by decide +kernel
theorem dX12_init_69 : decode cX12_init 69 = .ok (.aload_n 0, 1) := by decide +kernel
theorem dX12_init_70 : decode cX12_init 70 = .ok (.bipush 24, 2) := by decide +kernel
theorem dX12_init_72 : decode cX12_init 72 = .ok (.newarray .boolean, 2) := by decide +kernel
theorem dX12_init_74 : decode cX12_init 74 = .ok (.putfield 35, 3) := by decide +kernel
theorem dX12_init_77 : decode cX12_init 77 = .ok (.aload_n 0, 1) := by decide +kernel
theorem dX12_init_78 : decode cX12_init 78 = .ok (.bipush 24, 2) := by decide +kernel
theorem dX12_init_80 : decode cX12_init 80 = .ok (.newarray .int, 2) := by decide +kernel
theorem dX12_init_82 : decode cX12_init 82 = .ok (.putfield 39, 3) := by decide +kernel
theorem dX12_init_85 : decode cX12_init 85 = .ok (.aload_n 0, 1) := by decide +kernel
theorem dX12_init_86 : decode cX12_init 86 = .ok (.bipush 24, 2) := by decide +kernel
theorem dX12_init_88 : decode cX12_init 88 = .ok (.newarray .int, 2) := by decide +kernel
theorem dX12_init_90 : decode cX12_init 90 = .ok (.putfield 42, 3) := by decide +kernel
theorem dX12_init_93 : decode cX12_init 93 = .ok (.aload_n 0, 1) := by decide +kernel
theorem dX12_init_94 : decode cX12_init 94 = .ok (.bipush 24, 2) := by decide +kernel
theorem dX12_init_96 : decode cX12_init 96 = .ok (.newarray .int, 2) := by decide +kernel
theorem dX12_init_98 : decode cX12_init 98 = .ok (.putfield 45, 3) := by decide +kernel
theorem dX12_init_101 : decode cX12_init 101 = .ok (.aload_n 0, 1) := by decide +kernel
theorem dX12_init_102 : decode cX12_init 102 = .ok (.bipush 24, 2) := by decide +kernel
theorem dX12_init_104 : decode cX12_init 104 = .ok (.newarray .int, 2) := by decide +kernel
theorem dX12_init_106 : decode cX12_init 106 = .ok (.putfield 48, 3) := by decide +kernel
theorem dX12_init_109 : decode cX12_init 109 = .ok (.aload_n 0, 1) := by decide +kernel
theorem dX12_init_110 : decode cX12_init 110 = .ok (.bipush 24, 2) := by decide +kernel
theorem dX12_init_112 : decode cX12_init 112 = .ok (.newarray .int, 2) := by decide +kernel
theorem dX12_init_114 : decode cX12_init 114 = .ok (.putfield 51, 3) := by decide +kernel
theorem dX12_init_117 : decode cX12_init 117 = .ok (.aload_n 0, 1) := by decide +kernel
theorem dX12_init_118 : decode cX12_init 118 = .ok (.bipush 60, 2) := by decide +kernel
theorem dX12_init_120 : decode cX12_init 120 = .ok (.newarray .int, 2) := by decide +kernel
theorem dX12_init_122 : decode cX12_init 122 = .ok (.putfield 54, 3) := by decide +kernel
theorem dX12_init_125 : decode cX12_init 125 = .ok (.aload_n 0, 1) := by decide +kernel
theorem dX12_init_126 : decode cX12_init 126 = .ok (.bipush 60, 2) := by decide +kernel
theorem dX12_init_128 : decode cX12_init 128 = .ok (.newarray .int, 2) := by decide +kernel
theorem dX12_init_130 : decode cX12_init 130 = .ok (.putfield 57, 3) := by decide +kernel
theorem dX12_init_133 : decode cX12_init 133 = .ok (.aload_n 0, 1) := by decide +kernel
theorem dX12_init_134 : decode cX12_init 134 = .ok (.bipush 60, 2) := by decide +kernel
theorem dX12_init_136 : decode cX12_init 136 = .ok (.newarray .int, 2) := by decide +kernel
theorem dX12_init_138 : decode cX12_init 138 = .ok (.putfield 60, 3) := by decide +kernel
theorem dX12_init_141 : decode cX12_init 141 = .ok (.aload_n 0, 1) := by decide +kernel
theorem dX12_init_142 : decode cX12_init 142 = .ok (.bipush 60, 2) := by decide +kernel
theorem dX12_init_144 : decode cX12_init 144 = .ok (.newarray .int, 2) := by decide +kernel
theorem dX12_init_146 : decode cX12_init 146 = .ok (.putfield 63, 3) := by decide +kernel
theorem dX12_init_149 : decode cX12_init 149 = .ok (.aload_n 0, 1) := by decide +kernel
theorem dX12_init_150 : decode cX12_init 150 = .ok (.bipush 16, 2) := by decide +kernel
theorem dX12_init_152 : decode cX12_init 152 = .ok (.newarray .int, 2) := by decide +kernel
theorem dX12_init_154 : decode cX12_init 154 = .ok (.putfield 66, 3) := by decide +kernel
theorem dX12_init_157 : decode cX12_init 157 = .ok (.aload_n 0, 1) := by decide +kernel
theorem dX12_init_158 : decode cX12_init 158 = .ok (.bipush 16, 2) := by decide +kernel
theorem dX12_init_160 : decode cX12_init 160 = .ok (.newarray .int, 2) := by decide +kernel
theorem dX12_init_162 : decode cX12_init 162 = .ok (.putfield 69, 3) := by decide +kernel
theorem dX12_init_165 : decode cX12_init 165 = .ok (.aload_n 0, 1) := by decide +kernel
theorem dX12_init_166 : decode cX12_init 166 = .ok (.bipush 64, 2) := by decide +kernel
theorem dX12_init_168 : decode cX12_init 168 = .ok (.newarray .int, 2) := by decide +kernel
theorem dX12_init_170 : decode cX12_init 170 = .ok (.putfield 72, 3) := by decide +kernel
theorem dX12_init_173 : decode cX12_init 173 = .ok (.aload_n 0, 1) := by decide +kernel
theorem dX12_init_174 : decode cX12_init 174 = .ok (.iconst 4, 1) := by decide +kernel
theorem dX12_init_175 : decode cX12_init 175 = .ok (.newarray .int, 2) := by decide +kernel
theorem dX12_init_177 : decode cX12_init 177 = .ok (.putfield 75, 3) := by decide +kernel
theorem dX12_init_180 : decode cX12_init 180 = .ok (.aload_n 0, 1) := by decide +kernel
theorem dX12_init_181 : decode cX12_init 181 = .ok (.bipush 24, 2) := by decide +kernel
theorem dX12_init_183 : decode cX12_init 183 = .ok (.newarray .int, 2) := by decide +kernel
theorem dX12_init_185 : decode cX12_init 185 = .ok (.putfield 78, 3) := by decide +kernel
theorem dX12_init_188 : decode cX12_init 188 = .ok (.aload_n 0, 1) := by decide +kernel
theorem dX12_init_189 : decode cX12_init 189 = .ok (.bipush 24, 2) := by decide +kernel
theorem dX12_init_191 : decode cX12_init 191 = .ok (.newarray .int, 2) := by decide +kernel
theorem dX12_init_193 : decode cX12_init 193 = .ok (.putfield 81, 3) := by decide +kernel
theorem dX12_init_196 : decode cX12_init 196 = .ok (.aload_n 0, 1) := by decide +kernel
theorem dX12_init_197 : decode cX12_init 197 = .ok (.bipush 24, 2) := by decide +kernel
theorem dX12_init_199 : decode cX12_init 199 = .ok (.newarray .int, 2) := by decide +kernel
theorem dX12_init_201 : decode cX12_init 201 = .ok (.putfield 84, 3) := by decide +kernel
theorem dX12_init_204 : decode cX12_init 204 = .ok (.aload_n 0, 1) := by decide +kernel
theorem dX12_init_205 : decode cX12_init 205 = .ok (.bipush 24, 2) := by decide +kernel
theorem dX12_init_207 : decode cX12_init 207 = .ok (.newarray .int, 2) := by decide +kernel
theorem dX12_init_209 : decode cX12_init 209 = .ok (.putfield 87, 3) := by decide +kernel
theorem dX12_init_212 : decode cX12_init 212 = .ok (.aload_n 0, 1) := by decide +kernel
theorem dX12_init_213 : decode cX12_init 213 = .ok (.bipush 24, 2) := by decide +kernel
theorem dX12_init_215 : decode cX12_init 215 = .ok (.newarray .int, 2) := by decide +kernel
theorem dX12_init_217 : decode cX12_init 217 = .ok (.putfield 90, 3) := by decide +kernel
theorem dX12_init_220 : decode cX12_init 220 = .ok (.aload_n 0, 1) := by decide +kernel
theorem dX12_init_221 : decode cX12_init 221 = .ok (.bipush 24, 2) := by decide +kernel
theorem dX12_init_223 : decode cX12_init 223 = .ok (.newarray .int, 2) := by decide +kernel
theorem dX12_init_225 : decode cX12_init 225 = .ok (.putfield 93, 3) := by decide +kernel
theorem dX12_init_228 : decode cX12_init 228 = .ok (.aload_n 0, 1) := by decide +kernel
theorem dX12_init_229 : decode cX12_init 229 = .ok (.iconst 3, 1) := by decide +kernel
theorem dX12_init_230 : decode cX12_init 230 = .ok (.newarray .int, 2) := by decide +kernel
theorem dX12_init_232 : decode cX12_init 232 = .ok (.putfield 96, 3) := by decide +kernel
theorem dX12_init_235 : decode cX12_init 235 = .ok (.aload_n 0, 1) := by decide +kernel
theorem dX12_init_236 : decode cX12_init 236 = .ok (.iconst 3, 1) := by decide +kernel
theorem dX12_init_237 : decode cX12_init 237 = .ok (.newarray .int, 2) := by decide +kernel
theorem dX12_init_239 : decode cX12_init 239 = .ok (.putfield 99, 3) := by decide +kernel
theorem dX12_init_242 : decode cX12_init 242 = .ok (.aload_n 0, 1) := by decide +kernel
theorem dX12_init_243 : decode cX12_init 243 = .ok (.bipush 40, 2) := by decide +kernel
theorem dX12_init_245 : decode cX12_init 245 = .ok (.newarray .int, 2) := by decide +kernel
theorem dX12_init_247 : decode cX12_init 247 = .ok (.putfield 102, 3) := by decide +kernel
theorem dX12_init_250 : decode cX12_init 250 = .ok (.aload_n 0, 1) := by decide +kernel
theorem dX12_init_251 : decode cX12_init 251 = .ok (.bipush 40, 2) := by decide +kernel
theorem dX12_init_253 : decode cX12_init 253 = .ok (.newarray .int, 2) := by decide +kernel
theorem dX12_init_255 : decode cX12_init 255 = .ok (.putfield 105, 3) := by decide +kernel
theorem dX12_init_258 : decode cX12_init 258 = .ok (.aload_n 0, 1) := by decide +kernel
theorem dX12_init_259 : decode cX12_init 259 = .ok (.bipush 40, 2) := by decide +kernel
theorem dX12_init_261 : decode cX12_init 261 = .ok (.newarray .int, 2) := by decide +kernel
theorem dX12_init_263 : decode cX12_init 263 = .ok (.putfield 108, 3) := by decide +kernel
theorem dX12_init_266 : decode cX12_init 266 = .ok (.aload_n 0, 1) := by decide +kernel
theorem dX12_init_267 : decode cX12_init 267 = .ok (.iconst 3, 1) := by decide +kernel
theorem dX12_init_268 : decode cX12_init 268 = .ok (.newarray .int, 2) := by decide +kernel
theorem dX12_init_270 : decode cX12_init 270 = .ok (.putfield 111, 3) := by decide +kernel
theorem dX12_init_273 : decode cX12_init 273 = .ok (.aload_n 0, 1) := by decide +kernel
theorem dX12_init_274 : decode cX12_init 274 = .ok (.bipush 24, 2) := by decide +kernel
theorem dX12_init_276 : decode cX12_init 276 = .ok (.newarray .int, 2) := by decide +kernel
theorem dX12_init_278 : decode cX12_init 278 = .ok (.putfield 114, 3) := by decide +kernel
theorem dX12_init_281 : decode cX12_init 281 = .ok (.aload_n 0, 1) := by decide +kernel
theorem dX12_init_282 : decode cX12_init 282 = .ok (.bipush 24, 2) := by decide +kernel
theorem dX12_init_284 : decode cX12_init 284 = .ok (.newarray .int, 2) := by decide +kernel
theorem dX12_init_286 : decode cX12_init 286 = .ok (.putfield 117, 3) := by decide +kernel
theorem dX12_init_289 : decode cX12_init 289 = .ok (.aload_n 0, 1) := by decide +kernel
theorem dX12_init_290 : decode cX12_init 290 = .ok (.bipush 20, 2) := by decide +kernel
theorem dX12_init_292 : decode cX12_init 292 = .ok (.newarray .int, 2) := by decide +kernel
theorem dX12_init_294 : decode cX12_init 294 = .ok (.putfield 120, 3) := by decide +kernel
theorem dX12_init_297 : decode cX12_init 297 = .ok (.aload_n 0, 1) := by decide +kernel
theorem dX12_init_298 : decode cX12_init 298 = .ok (.bipush 20, 2) := by decide +kernel
theorem dX12_init_300 : decode cX12_init 300 = .ok (.newarray .int, 2) := by decide +kernel
theorem dX12_init_302 : decode cX12_init 302 = .ok (.putfield 123, 3) := by decide +kernel
theorem dX12_init_305 : decode cX12_init 305 = .ok (.aload_n 0, 1) := by decide +kernel
theorem dX12_init_306 : decode cX12_init 306 = .ok (.bipush 20, 2) := by decide +kernel
theorem dX12_init_308 : decode cX12_init 308 = .ok (.newarray .int, 2) := by decide +kernel
theorem dX12_init_310 : decode cX12_init 310 = .ok (.putfield 126, 3) := by decide +kernel
theorem dX12_init_313 : decode cX12_init 313 = .ok (.aload_n 0, 1) := by decide +kernel
theorem dX12_init_314 : decode cX12_init 314 = .ok (.bipush 20, 2) := by decide +kernel
theorem dX12_init_316 : decode cX12_init 316 = .ok (.newarray .int, 2) := by decide +kernel
theorem dX12_init_318 : decode cX12_init 318 = .ok (.putfield 129, 3) := by decide +kernel
theorem dX12_init_321 : decode cX12_init 321 = .ok (.aload_n 0, 1) := by decide +kernel
theorem dX12_init_322 : decode cX12_init 322 = .ok (.bipush 20, 2) := by decide +kernel
theorem dX12_init_324 : decode cX12_init 324 = .ok (.newarray .int, 2) := by decide +kernel
theorem dX12_init_326 : decode cX12_init 326 = .ok (.putfield 132, 3) := by decide +kernel
theorem dX12_init_329 : decode cX12_init 329 = .ok (.aload_n 0, 1) := by decide +kernel
theorem dX12_init_330 : decode cX12_init 330 = .ok (.bipush 20, 2) := by decide +kernel
theorem dX12_init_332 : decode cX12_init 332 = .ok (.newarray .int, 2) := by decide +kernel
theorem dX12_init_334 : decode cX12_init 334 = .ok (.putfield 135, 3) := by decide +kernel
theorem dX12_init_337 : decode cX12_init 337 = .ok (.aload_n 0, 1) := by decide +kernel
theorem dX12_init_338 : decode cX12_init 338 = .ok (.bipush 20, 2) := by decide +kernel
theorem dX12_init_340 : decode cX12_init 340 = .ok (.newarray .int, 2) := by decide +kernel
theorem dX12_init_342 : decode cX12_init 342 = .ok (.putfield 138, 3) := by decide +kernel
theorem dX12_init_345 : decode cX12_init 345 = .ok (.aload_n 0, 1) := by decide +kernel
theorem dX12_init_346 : decode cX12_init 346 = .ok (.sipush 10000, 3) := by decide +kernel
theorem dX12_init_349 : decode cX12_init 349 = .ok (.newarray .boolean, 2) := by decide +kernel
theorem dX12_init_351 : decode cX12_init 351 = .ok (.putfield 141, 3) := by decide +kernel
theorem dX12_init_354 : decode cX12_init 354 = .ok (.aload_n 0, 1) := by decide +kernel
theorem dX12_init_355 : decode cX12_init 355 = .ok (.sipush 10000, 3) := by decide +kernel
theorem dX12_init_358 : decode cX12_init 358 = .ok (.newarray .boolean, 2) := by decide +kernel
theorem dX12_init_360 : decode cX12_init 360 = .ok (.putfield 144, 3) := by decide +kernel
theorem dX12_init_363 : decode cX12_init 363 = .ok (.aload_n 0, 1) := by decide +kernel
theorem dX12_init_364 : decode cX12_init 364 = .ok (.bipush 117, 2) := by decide +kernel
theorem dX12_init_366 : decode cX12_init 366 = .ok (.newarray .long, 2) := by decide +kernel
theorem dX12_init_368 : decode cX12_init 368 = .ok (.putfield 147, 3) := by decide +kernel
theorem dX12_init_371 : decode cX12_init 371 = .ok (.aload_n 0, 1) := by decide +kernel
theorem dX12_init_372 : decode cX12_init 372 = .ok (.bipush 12, 2) := by decide +kernel
theorem dX12_init_374 : decode cX12_init 374 = .ok (.newarray .int, 2) := by decide +kernel
theorem dX12_init_376 : decode cX12_init 376 = .ok (.putfield 151, 3) := by decide +kernel
theorem dX12_init_379 : decode cX12_init 379 = .ok (.aload_n 0, 1) := by decide +kernel
theorem dX12_init_380 : decode cX12_init 380 = .ok (.bipush 12, 2) := by decide +kernel
theorem dX12_init_382 : decode cX12_init 382 = .ok (.newarray .int, 2) := by decide +kernel
theorem dX12_init_384 : decode cX12_init 384 = .ok (.putfield 154, 3) := by decide +kernel
theorem dX12_init_387 : decode cX12_init 387 = .ok (.aload_n 0, 1) := by decide +kernel
theorem dX12_init_388 : decode cX12_init 388 = .ok (.bipush 12, 2) := by decide +kernel
theorem dX12_init_390 : decode cX12_init 390 = .ok (.newarray .int, 2) := by decide +kernel
theorem dX12_init_392 : decode cX12_init 392 = .ok (.putfield 157, 3) := by decide +kernel
theorem dX12_init_395 : decode cX12_init 395 = .ok (.aload_n 0, 1) := by decide +kernel
theorem dX12_init_396 : decode cX12_init 396 = .ok (.lconst 1, 1) := by decide +kernel
theorem dX12_init_397 : decode cX12_init 397 = .ok (.putfield 160, 3) := by decide +kernel
theorem dX12_init_400 : decode cX12_init 400 = .ok (.iconst 0, 1) := by decide +kernel
theorem dX12_init_401 : decode cX12_init 401 = .ok (.istore_n 1, 1) := by decide +kernel
theorem dX12_init_402 : decode cX12_init 402 = .ok (.iload_n 1, 1) := by decide +kernel
theorem dX12_init_403 : decode cX12_init 403 = .ok (.bipush 6, 2) := by decide +kernel
theorem dX12_init_405 : decode cX12_init 405 = .ok (.if_icmp .ge 16, 3) := by decide +kernel
theorem dX12_init_408 : decode cX12_init 408 = .ok (.aload_n 0, 1) := by decide +kernel
theorem dX12_init_409 : decode cX12_init 409 = .ok (.getfield 13, 3) := by decide +kernel
theorem dX12_init_412 : decode cX12_init 412 = .ok (.iload_n 1, 1) := by decide +kernel
theorem dX12_init_413 : decode cX12_init 413 = .ok (.iconst (-1), 1) := by decide +kernel
theorem dX12_init_414 : decode cX12_init 414 = .ok (.iastore, 1) := by decide +kernel
theorem dX12_init_415 : decode cX12_init 415 = .ok (.iinc 1 1, 3) := by decide +kernel
theorem dX12_init_418 : decode cX12_init 418 = .ok (.goto (-16), 3) := by decide +kernel
theorem dX12_init_421 : decode cX12_init 421 = .ok (.iconst 0, 1) := by decide +kernel
theorem dX12_init_422 : decode cX12_init 422 = .ok (.istore_n 1, 1) := by decide +kernel
theorem dX12_init_423 : decode cX12_init 423 = .ok (.iload_n 1, 1) := by decide +kernel
theorem dX12_init_424 : decode cX12_init 424 = .ok (.iconst 4, 1) := by decide +kernel
theorem dX12_init_425 : decode cX12_init 425 = .ok (.if_icmp .ge 16, 3) := by decide +kernel
theorem dX12_init_428 : decode cX12_init 428 = .ok (.aload_n 0, 1) := by decide +kernel
theorem dX12_init_429 : decode cX12_init 429 = .ok (.getfield 22, 3) := by decide +kernel
theorem dX12_init_432 : decode cX12_init 432 = .ok (.iload_n 1, 1) := by decide +kernel
theorem dX12_init_433 : decode cX12_init 433 = .ok (.iconst (-1), 1) := by decide +kernel
theorem dX12_init_434 : decode cX12_init 434 = .ok (.iastore, 1) := by decide +kernel
theorem dX12_init_435 : decode cX12_init 435 = .ok (.iinc 1 1, 3) := by decide +kernel
theorem dX12_init_438 : decode cX12_init 438 = .ok (.goto (-15), 3) := by decide +kernel
theorem dX12_init_441 : decode cX12_init 441 = .ok (.iconst 0, 1) := by decide +kernel
theorem dX12_init_442 : decode cX12_init 442 = .ok (.istore_n 1, 1) := by decide +kernel
theorem dX12_init_443 : decode cX12_init 443 = .ok (.iload_n 1, 1) := by decide +kernel
theorem dX12_init_444 : decode cX12_init 444 = .ok (.iconst 3, 1) := by decide +kernel
theorem dX12_init_445 : decode cX12_init 445 = .ok (.if_icmp .ge 16, 3) := by decide +kernel
theorem dX12_init_448 : decode cX12_init 448 = .ok (.aload_n 0, 1) := by decide +kernel
theorem dX12_init_449 : decode cX12_init 449 = .ok (.getfield 96, 3) := by decide +kernel
theorem dX12_init_452 : decode cX12_init 452 = .ok (.iload_n 1, 1) := by decide +kernel
theorem dX12_init_453 : decode cX12_init 453 = .ok (.iconst 1, 1) := by decide +kernel
theorem dX12_init_454 : decode cX12_init 454 = .ok (.iastore, 1) := by decide +kernel
theorem dX12_init_455 : decode cX12_init 455 = .ok (.iinc 1 1, 3) := by decide +kernel
theorem dX12_init_458 : decode cX12_init 458 = .ok (.goto (-15), 3) := by decide +kernel
theorem dX12_init_461 : decode cX12_init 461 = .ok (.return_, 1) := by decide +kernel
theorem dX12_in_0 : decode cX12_in 0 = .ok (.iload_n 0, 1) := by decide +kernel
theorem dX12_in_1 : decode cX12_in 1 = .ok (.iload_n 1, 1) := by decide +kernel
theorem dX12_in_2 : decode cX12_in 2 = .ok (.if_icmp .lt 12, 3) := by decide +kernel
theorem dX12_in_5 : decode cX12_in 5 = .ok (.iload_n 0, 1) := by decide +kernel
theorem dX12_in_6 : decode cX12_in 6 = .ok (.iload_n 2, 1) := by decide +kernel
theorem dX12_in_7 : decode cX12_in 7 = .ok (.if_icmp .gt 7, 3) := by decide +kernel
theorem dX12_in_10 : decode cX12_in 10 = .ok (.iconst 1, 1) := by decide +kernel
theorem dX12_in_11 : decode cX12_in 11 = .ok (.goto 4, 3) := by decide +kernel
theorem dX12_in_14 : decode cX12_in 14 = .ok (.iconst 0, 1) := by decide +kernel
theorem dX12_in_15 : decode cX12_in 15 = .ok (.ireturn, 1) := by decide +kernel
theorem dX12_meets_0 : decode cX12_meets 0 = .ok (.aload_n 0, 1) := by decide +kernel
theorem dX12_meets_1 : decode cX12_meets 1 = .ok (.iload_n 1, 1) := by decide +kernel
theorem dX12_meets_2 : decode cX12_meets 2 = .ok (.putfield 164, 3) := by decide +kernel
theorem dX12_meets_5 : decode cX12_meets 5 = .ok (.aload_n 0, 1) := by decide +kernel
theorem dX12_meets_6 : decode cX12_meets 6 = .ok (.getfield 7, 3) := by decide +kernel
theorem dX12_meets_9 : decode cX12_meets 9 = .ok (.iload_n 1, 1) := by decide +kernel
theorem dX12_meets_10 : decode cX12_meets 10 = .ok (.dup2, 1) := by decide +kernel
theorem dX12_meets_11 : decode cX12_meets 11 = .ok (.iaload, 1) := by decide +kernel
theorem dX12_meets_12 : decode cX12_meets 12 = .ok (.iconst 1, 1) := by decide +kernel
theorem dX12_meets_13 : decode cX12_meets 13 = .ok (.iadd, 1) := by decide +kernel
theorem dX12_meets_14 : decode cX12_meets 14 = .ok (.iastore, 1) := by decide +kernel
theorem dX12_meets_15 : decode cX12_meets 15 = .ok (.bipush (-3), 2) := by decide +kernel
theorem dX12_meets_17 : decode cX12_meets 17 = .ok (.ireturn, 1) := by decide +kernel
theorem dX12_finding_0 : decode cX12_finding 0 = .ok (.aload_n 0, 1) := by decide +kernel
theorem dX12_finding_1 : decode cX12_finding 1 = .ok (.getfield 164, 3) := by decide +kernel
theorem dX12_finding_4 : decode cX12_finding 4 = .ok (.ireturn, 1) := by decide +kernel
theorem dX12_findings_0 : decode cX12_findings 0 = .ok (.iload_n 1, 1) := by decide +kernel
theorem dX12_findings_1 : decode cX12_findings 1 = .ok (.iconst 1, 1) := by decide +kernel
theorem dX12_findings_2 : decode cX12_findings 2 = .ok (.iconst 5, 1) := by decide +kernel
theorem dX12_findings_3 : decode cX12_findings 3 = .ok (.invokestatic 168, 3) := by decide +kernel
theorem dX12_findings_6 : decode cX12_findings 6 = .ok (.ifCond .eq 12, 3) := by decide +kernel
theorem dX12_findings_9 : decode cX12_findings 9 = .ok (.aload_n 0, 1) := by decide +kernel
theorem dX12_findings_10 : decode cX12_findings 10 = .ok (.getfield 7, 3) := by decide +kernel
theorem dX12_findings_13 : decode cX12_findings 13 = .ok (.iload_n 1, 1) := by decide +kernel
theorem dX12_findings_14 : decode cX12_findings 14 = .ok (.iaload, 1) := by decide +kernel
theorem dX12_findings_15 : decode cX12_findings 15 = .ok (.goto 4, 3) := by decide +kernel
theorem dX12_findings_18 : decode cX12_findings 18 = .ok (.iconst (-1), 1) := by decide +kernel
theorem dX12_findings_19 : decode cX12_findings 19 = .ok (.ireturn, 1) := by decide +kernel
theorem dX12_tells_0 : decode cX12_tells 0 = .ok (.aload_n 0, 1) := by decide +kernel
theorem dX12_tells_1 : decode cX12_tells 1 = .ok (.iload_n 1, 1) := by decide +kernel
theorem dX12_tells_2 : decode cX12_tells 2 = .ok (.putfield 172, 3) := by decide +kernel
theorem dX12_tells_5 : decode cX12_tells 5 = .ok (.iload_n 2, 1) := by decide +kernel
theorem dX12_tells_6 : decode cX12_tells 6 = .ok (.ireturn, 1) := by decide +kernel
theorem dX12_asked_0 : decode cX12_asked 0 = .ok (.aload_n 0, 1) := by decide +kernel
theorem dX12_asked_1 : decode cX12_asked 1 = .ok (.getfield 172, 3) := by decide +kernel
theorem dX12_asked_4 : decode cX12_asked 4 = .ok (.ireturn, 1) := by decide +kernel
theorem dX12_upper_0 : decode cX12_upper 0 = .ok (.aload_n 0, 1) := by decide +kernel
theorem dX12_upper_1 : decode cX12_upper 1 = .ok (.getfield 175, 3) := by decide +kernel
theorem dX12_upper_4 : decode cX12_upper 4 = .ok (.lreturn, 1) := by decide +kernel
theorem dX12_lower_0 : decode cX12_lower 0 = .ok (.aload_n 0, 1) := by decide +kernel
theorem dX12_lower_1 : decode cX12_lower 1 = .ok (.getfield 160, 3) := by decide +kernel
theorem dX12_lower_4 : decode cX12_lower 4 = .ok (.lreturn, 1) := by decide +kernel
theorem dX12_isRow_0 : decode cX12_isRow 0 = .ok (.iload_n 0, 1) := by decide +kernel
theorem dX12_isRow_1 : decode cX12_isRow 1 = .ok (.iconst 0, 1) := by decide +kernel
theorem dX12_isRow_2 : decode cX12_isRow 2 = .ok (.iconst 5, 1) := by decide +kernel
theorem dX12_isRow_3 : decode cX12_isRow 3 = .ok (.invokestatic 168, 3) := by decide +kernel
theorem dX12_isRow_6 : decode cX12_isRow 6 = .ok (.ireturn, 1) := by decide +kernel
theorem dX12_rowAt_0 : decode cX12_rowAt 0 = .ok (.aload_n 0, 1) := by decide +kernel
theorem dX12_rowAt_1 : decode cX12_rowAt 1 = .ok (.getfield 16, 3) := by decide +kernel
theorem dX12_rowAt_4 : decode cX12_rowAt 4 = .ok (.bipush 40, 2) := by decide +kernel
theorem dX12_rowAt_6 : decode cX12_rowAt 6 = .ok (.iload_n 1, 1) := by decide +kernel
theorem dX12_rowAt_7 : decode cX12_rowAt 7 = .ok (.imul, 1) := by decide +kernel
theorem dX12_rowAt_8 : decode cX12_rowAt 8 = .ok (.iload_n 2, 1) := by decide +kernel
theorem dX12_rowAt_9 : decode cX12_rowAt 9 = .ok (.iadd, 1) := by decide +kernel
theorem dX12_rowAt_10 : decode cX12_rowAt 10 = .ok (.iaload, 1) := by decide +kernel
theorem dX12_rowAt_11 : decode cX12_rowAt 11 = .ok (.ireturn, 1) := by decide +kernel
theorem dX12_row_0 : decode cX12_row 0 = .ok (.iload_n 1, 1) := by decide +kernel
theorem dX12_row_1 : decode cX12_row 1 = .ok (.invokestatic 178, 3) := by decide +kernel
theorem dX12_row_4 : decode cX12_row 4 = .ok (.ifCond .eq 9, 3) := by decide +kernel
theorem dX12_row_7 : decode cX12_row 7 = .ok (.iload_n 2, 1) := by decide +kernel
theorem dX12_row_8 : decode cX12_row 8 = .ok (.bipush 40, 2) := by decide +kernel
theorem dX12_row_10 : decode cX12_row 10 = .ok (.if_icmp .le 5, 3) := by decide +kernel
theorem dX12_row_13 : decode cX12_row 13 = .ok (.iconst (-1), 1) := by decide +kernel
theorem dX12_row_14 : decode cX12_row 14 = .ok (.ireturn, 1) := by decide +kernel
theorem dX12_row_15 : decode cX12_row 15 = .ok (.iload_n 2, 1) := by decide +kernel
theorem dX12_row_16 : decode cX12_row 16 = .ok (.ifCond .ge 9, 3) := by decide +kernel
theorem dX12_row_19 : decode cX12_row 19 = .ok (.aload_n 0, 1) := by decide +kernel
theorem dX12_row_20 : decode cX12_row 20 = .ok (.iconst 5, 1) := by decide +kernel
theorem dX12_row_21 : decode cX12_row 21 = .ok (.invokevirtual 182, 3) := by decide +kernel
theorem dX12_row_24 : decode cX12_row 24 = .ok (.ireturn, 1) := by decide +kernel
theorem dX12_row_25 : decode cX12_row 25 = .ok (.aload_n 0, 1) := by decide +kernel
theorem dX12_row_26 : decode cX12_row 26 = .ok (.getfield 13, 3) := by decide +kernel
theorem dX12_row_29 : decode cX12_row 29 = .ok (.iload_n 1, 1) := by decide +kernel
theorem dX12_row_30 : decode cX12_row 30 = .ok (.iload_n 2, 1) := by decide +kernel
theorem dX12_row_31 : decode cX12_row 31 = .ok (.iastore, 1) := by decide +kernel
theorem dX12_row_32 : decode cX12_row 32 = .ok (.iconst 0, 1) := by decide +kernel
theorem dX12_row_33 : decode cX12_row 33 = .ok (.istore_n 3, 1) := by decide +kernel
theorem dX12_row_34 : decode cX12_row 34 = .ok (.iload_n 3, 1) := by decide +kernel
theorem dX12_row_35 : decode cX12_row 35 = .ok (.bipush 40, 2) := by decide +kernel
theorem dX12_row_37 : decode cX12_row 37 = .ok (.if_icmp .ge 21, 3) := by decide +kernel
theorem dX12_row_40 : decode cX12_row 40 = .ok (.aload_n 0, 1) := by decide +kernel
theorem dX12_row_41 : decode cX12_row 41 = .ok (.getfield 16, 3) := by decide +kernel
theorem dX12_row_44 : decode cX12_row 44 = .ok (.bipush 40, 2) := by decide +kernel
theorem dX12_row_46 : decode cX12_row 46 = .ok (.iload_n 1, 1) := by decide +kernel
theorem dX12_row_47 : decode cX12_row 47 = .ok (.imul, 1) := by decide +kernel
theorem dX12_row_48 : decode cX12_row 48 = .ok (.iload_n 3, 1) := by decide +kernel
theorem dX12_row_49 : decode cX12_row 49 = .ok (.iadd, 1) := by decide +kernel
theorem dX12_row_50 : decode cX12_row 50 = .ok (.iconst 0, 1) := by decide +kernel
theorem dX12_row_51 : decode cX12_row 51 = .ok (.iastore, 1) := by decide +kernel
theorem dX12_row_52 : decode cX12_row 52 = .ok (.iinc 3 1, 3) := by decide +kernel
theorem dX12_row_55 : decode cX12_row 55 = .ok (.goto (-21), 3) := by decide +kernel
theorem dX12_row_58 : decode cX12_row 58 = .ok (.iload_n 2, 1) := by decide +kernel
theorem dX12_row_59 : decode cX12_row 59 = .ok (.ireturn, 1) := by decide +kernel
theorem dX12_lay_0 : decode cX12_lay 0 = .ok (.iload_n 1, 1) := by decide +kernel
theorem dX12_lay_1 : decode cX12_lay 1 = .ok (.invokestatic 178, 3) := by decide +kernel
theorem dX12_lay_4 : decode cX12_lay 4 = .ok (.ifCond .ne 5, 3) := by decide +kernel
theorem dX12_lay_7 : decode cX12_lay 7 = .ok (.iconst (-1), 1) := by decide +kernel
theorem dX12_lay_8 : decode cX12_lay 8 = .ok (.ireturn, 1) := by decide +kernel
theorem dX12_lay_9 : decode cX12_lay 9 = .ok (.aload_n 0, 1) := by decide +kernel
theorem dX12_lay_10 : decode cX12_lay 10 = .ok (.getfield 13, 3) := by decide +kernel
theorem dX12_lay_13 : decode cX12_lay 13 = .ok (.iload_n 1, 1) := by decide +kernel
theorem dX12_lay_14 : decode cX12_lay 14 = .ok (.iaload, 1) := by decide +kernel
theorem dX12_lay_15 : decode cX12_lay 15 = .ok (.ifCond .ge 9, 3) := by decide +kernel
theorem dX12_lay_18 : decode cX12_lay 18 = .ok (.aload_n 0, 1) := by decide +kernel
theorem dX12_lay_19 : decode cX12_lay 19 = .ok (.iconst 1, 1) := by decide +kernel
theorem dX12_lay_20 : decode cX12_lay 20 = .ok (.invokevirtual 182, 3) := by decide +kernel
theorem dX12_lay_23 : decode cX12_lay 23 = .ok (.ireturn, 1) := by decide +kernel
theorem dX12_lay_24 : decode cX12_lay 24 = .ok (.iload_n 2, 1) := by decide +kernel
theorem dX12_lay_25 : decode cX12_lay 25 = .ok (.iconst 0, 1) := by decide +kernel
theorem dX12_lay_26 : decode cX12_lay 26 = .ok (.aload_n 0, 1) := by decide +kernel
theorem dX12_lay_27 : decode cX12_lay 27 = .ok (.getfield 13, 3) := by decide +kernel
theorem dX12_lay_30 : decode cX12_lay 30 = .ok (.iload_n 1, 1) := by decide +kernel
theorem dX12_lay_31 : decode cX12_lay 31 = .ok (.iaload, 1) := by decide +kernel
theorem dX12_lay_32 : decode cX12_lay 32 = .ok (.iconst 1, 1) := by decide +kernel
theorem dX12_lay_33 : decode cX12_lay 33 = .ok (.isub, 1) := by decide +kernel
theorem dX12_lay_34 : decode cX12_lay 34 = .ok (.invokestatic 168, 3) := by decide +kernel
theorem dX12_lay_37 : decode cX12_lay 37 = .ok (.ifCond .ne 9, 3) := by decide +kernel
theorem dX12_lay_40 : decode cX12_lay 40 = .ok (.aload_n 0, 1) := by decide +kernel
theorem dX12_lay_41 : decode cX12_lay 41 = .ok (.iconst 2, 1) := by decide +kernel
theorem dX12_lay_42 : decode cX12_lay 42 = .ok (.invokevirtual 182, 3) := by decide +kernel
theorem dX12_lay_45 : decode cX12_lay 45 = .ok (.ireturn, 1) := by decide +kernel
theorem dX12_lay_46 : decode cX12_lay 46 = .ok (.aload_n 0, 1) := by decide +kernel
theorem dX12_lay_47 : decode cX12_lay 47 = .ok (.iload_n 1, 1) := by decide +kernel
theorem dX12_lay_48 : decode cX12_lay 48 = .ok (.iload_n 2, 1) := by decide +kernel
theorem dX12_lay_49 : decode cX12_lay 49 = .ok (.invokevirtual 186, 3) := by decide +kernel
theorem dX12_lay_52 : decode cX12_lay 52 = .ok (.istore 4, 2) := by decide +kernel
theorem dX12_lay_54 : decode cX12_lay 54 = .ok (.aload_n 0, 1) := by decide +kernel
theorem dX12_lay_55 : decode cX12_lay 55 = .ok (.getfield 16, 3) := by decide +kernel
theorem dX12_lay_58 : decode cX12_lay 58 = .ok (.bipush 40, 2) := by decide +kernel
theorem dX12_lay_60 : decode cX12_lay 60 = .ok (.iload_n 1, 1) := by decide +kernel
theorem dX12_lay_61 : decode cX12_lay 61 = .ok (.imul, 1) := by decide +kernel
theorem dX12_lay_62 : decode cX12_lay 62 = .ok (.iload_n 2, 1) := by decide +kernel
theorem dX12_lay_63 : decode cX12_lay 63 = .ok (.iadd, 1) := by decide +kernel
theorem dX12_lay_64 : decode cX12_lay 64 = .ok (.iload_n 3, 1) := by decide +kernel
theorem dX12_lay_65 : decode cX12_lay 65 = .ok (.iastore, 1) := by decide +kernel
theorem dX12_lay_66 : decode cX12_lay 66 = .ok (.aload_n 0, 1) := by decide +kernel
theorem dX12_lay_67 : decode cX12_lay 67 = .ok (.iload 4, 2) := by decide +kernel
theorem dX12_lay_69 : decode cX12_lay 69 = .ok (.iconst 1, 1) := by decide +kernel
theorem dX12_lay_70 : decode cX12_lay 70 = .ok (.invokevirtual 190, 3) := by decide +kernel
theorem dX12_lay_73 : decode cX12_lay 73 = .ok (.ireturn, 1) := by decide +kernel
theorem dX12_tear_0 : decode cX12_tear 0 = .ok (.iload_n 1, 1) := by decide +kernel
theorem dX12_tear_1 : decode cX12_tear 1 = .ok (.invokestatic 178, 3) := by decide +kernel
theorem dX12_tear_4 : decode cX12_tear 4 = .ok (.ifCond .ne 5, 3) := by decide +kernel
theorem dX12_tear_7 : decode cX12_tear 7 = .ok (.iconst (-1), 1) := by decide +kernel
theorem dX12_tear_8 : decode cX12_tear 8 = .ok (.ireturn, 1) := by decide +kernel
theorem dX12_tear_9 : decode cX12_tear 9 = .ok (.aload_n 0, 1) := by decide +kernel
theorem dX12_tear_10 : decode cX12_tear 10 = .ok (.getfield 13, 3) := by decide +kernel
theorem dX12_tear_13 : decode cX12_tear 13 = .ok (.iload_n 1, 1) := by decide +kernel
theorem dX12_tear_14 : decode cX12_tear 14 = .ok (.iaload, 1) := by decide +kernel
theorem dX12_tear_15 : decode cX12_tear 15 = .ok (.ifCond .ge 9, 3) := by decide +kernel
theorem dX12_tear_18 : decode cX12_tear 18 = .ok (.aload_n 0, 1) := by decide +kernel
theorem dX12_tear_19 : decode cX12_tear 19 = .ok (.iconst 1, 1) := by decide +kernel
theorem dX12_tear_20 : decode cX12_tear 20 = .ok (.invokevirtual 182, 3) := by decide +kernel
theorem dX12_tear_23 : decode cX12_tear 23 = .ok (.ireturn, 1) := by decide +kernel
theorem dX12_tear_24 : decode cX12_tear 24 = .ok (.aload_n 0, 1) := by decide +kernel
theorem dX12_tear_25 : decode cX12_tear 25 = .ok (.getfield 13, 3) := by decide +kernel
theorem dX12_tear_28 : decode cX12_tear 28 = .ok (.iload_n 1, 1) := by decide +kernel
theorem dX12_tear_29 : decode cX12_tear 29 = .ok (.iconst (-1), 1) := by decide +kernel
theorem dX12_tear_30 : decode cX12_tear 30 = .ok (.iastore, 1) := by decide +kernel
theorem dX12_tear_31 : decode cX12_tear 31 = .ok (.iconst 1, 1) := by decide +kernel
theorem dX12_tear_32 : decode cX12_tear 32 = .ok (.ireturn, 1) := by decide +kernel
theorem dX12_copy_0 : decode cX12_copy 0 = .ok (.iload_n 1, 1) := by decide +kernel
theorem dX12_copy_1 : decode cX12_copy 1 = .ok (.invokestatic 178, 3) := by decide +kernel
theorem dX12_copy_4 : decode cX12_copy 4 = .ok (.ifCond .eq 10, 3) := by decide +kernel
theorem dX12_copy_7 : decode cX12_copy 7 = .ok (.iload_n 3, 1) := by decide +kernel
theorem dX12_copy_8 : decode cX12_copy 8 = .ok (.invokestatic 178, 3) := by decide +kernel
theorem dX12_copy_11 : decode cX12_copy 11 = .ok (.ifCond .ne 5, 3) := by decide +kernel
theorem dX12_copy_14 : decode cX12_copy 14 = .ok (.iconst (-1), 1) := by decide +kernel
theorem dX12_copy_15 : decode cX12_copy 15 = .ok (.ireturn, 1) := by decide +kernel
theorem dX12_copy_16 : decode cX12_copy 16 = .ok (.iload 5, 2) := by decide +kernel
theorem dX12_copy_18 : decode cX12_copy 18 = .ok (.ifCond .ge 9, 3) := by decide +kernel
theorem dX12_copy_21 : decode cX12_copy 21 = .ok (.aload_n 0, 1) := by decide +kernel
theorem dX12_copy_22 : decode cX12_copy 22 = .ok (.iconst 5, 1) := by decide +kernel
theorem dX12_copy_23 : decode cX12_copy 23 = .ok (.invokevirtual 182, 3) := by decide +kernel
theorem dX12_copy_26 : decode cX12_copy 26 = .ok (.ireturn, 1) := by decide +kernel
theorem dX12_copy_27 : decode cX12_copy 27 = .ok (.aload_n 0, 1) := by decide +kernel
theorem dX12_copy_28 : decode cX12_copy 28 = .ok (.getfield 13, 3) := by decide +kernel
theorem dX12_copy_31 : decode cX12_copy 31 = .ok (.iload_n 1, 1) := by decide +kernel
theorem dX12_copy_32 : decode cX12_copy 32 = .ok (.iaload, 1) := by decide +kernel
theorem dX12_copy_33 : decode cX12_copy 33 = .ok (.ifCond .lt 12, 3) := by decide +kernel
theorem dX12_copy_36 : decode cX12_copy 36 = .ok (.aload_n 0, 1) := by decide +kernel
theorem dX12_copy_37 : decode cX12_copy 37 = .ok (.getfield 13, 3) := by decide +kernel
theorem dX12_copy_40 : decode cX12_copy 40 = .ok (.iload_n 3, 1) := by decide +kernel
theorem dX12_copy_41 : decode cX12_copy 41 = .ok (.iaload, 1) := by decide +kernel
theorem dX12_copy_42 : decode cX12_copy 42 = .ok (.ifCond .ge 9, 3) := by decide +kernel
theorem dX12_copy_45 : decode cX12_copy 45 = .ok (.aload_n 0, 1) := by decide +kernel
theorem dX12_copy_46 : decode cX12_copy 46 = .ok (.iconst 1, 1) := by decide +kernel
theorem dX12_copy_47 : decode cX12_copy 47 = .ok (.invokevirtual 182, 3) := by decide +kernel
theorem dX12_copy_50 : decode cX12_copy 50 = .ok (.ireturn, 1) := by decide +kernel
theorem dX12_copy_51 : decode cX12_copy 51 = .ok (.iload_n 2, 1) := by decide +kernel
theorem dX12_copy_52 : decode cX12_copy 52 = .ok (.ifCond .lt 43, 3) := by decide +kernel
theorem dX12_copy_55 : decode cX12_copy 55 = .ok (.iload 4, 2) := by decide +kernel
theorem dX12_copy_57 : decode cX12_copy 57 = .ok (.ifCond .lt 38, 3) := by decide +kernel
theorem dX12_copy_60 : decode cX12_copy 60 = .ok (.iload_n 2, 1) := by decide +kernel
theorem dX12_copy_61 : decode cX12_copy 61 = .ok (.i2l, 1) := by decide +kernel
theorem dX12_copy_62 : decode cX12_copy 62 = .ok (.iload 5, 2) := by decide +kernel
theorem dX12_copy_64 : decode cX12_copy 64 = .ok (.i2l, 1) := by decide +kernel
theorem dX12_copy_65 : decode cX12_copy 65 = .ok (.ladd, 1) := by decide +kernel
theorem dX12_copy_66 : decode cX12_copy 66 = .ok (.aload_n 0, 1) := by decide +kernel
theorem dX12_copy_67 : decode cX12_copy 67 = .ok (.getfield 13, 3) := by decide +kernel
theorem dX12_copy_70 : decode cX12_copy 70 = .ok (.iload_n 1, 1) := by decide +kernel
theorem dX12_copy_71 : decode cX12_copy 71 = .ok (.iaload, 1) := by decide +kernel
theorem dX12_copy_72 : decode cX12_copy 72 = .ok (.i2l, 1) := by decide +kernel
theorem dX12_copy_73 : decode cX12_copy 73 = .ok (.lcmp, 1) := by decide +kernel
theorem dX12_copy_74 : decode cX12_copy 74 = .ok (.ifCond .gt 21, 3) := by decide +kernel
theorem dX12_copy_77 : decode cX12_copy 77 = .ok (.iload 4, 2) := by decide +kernel
theorem dX12_copy_79 : decode cX12_copy 79 = .ok (.i2l, 1) := by decide +kernel
theorem dX12_copy_80 : decode cX12_copy 80 = .ok (.iload 5, 2) := by decide +kernel
theorem dX12_copy_82 : decode cX12_copy 82 = .ok (.i2l, 1) := by decide +kernel
theorem dX12_copy_83 : decode cX12_copy 83 = .ok (.ladd, 1) := by decide +kernel
theorem dX12_copy_84 : decode cX12_copy 84 = .ok (.aload_n 0, 1) := by decide +kernel
theorem dX12_copy_85 : decode cX12_copy 85 = .ok (.getfield 13, 3) := by decide +kernel
theorem dX12_copy_88 : decode cX12_copy 88 = .ok (.iload_n 3, 1) := by decide +kernel
theorem dX12_copy_89 : decode cX12_copy 89 = .ok (.iaload, 1) := by decide +kernel
theorem dX12_copy_90 : decode cX12_copy 90 = .ok (.i2l, 1) := by decide +kernel
theorem dX12_copy_91 : decode cX12_copy 91 = .ok (.lcmp, 1) := by decide +kernel
theorem dX12_copy_92 : decode cX12_copy 92 = .ok (.ifCond .le 9, 3) := by decide +kernel
theorem dX12_copy_95 : decode cX12_copy 95 = .ok (.aload_n 0, 1) := by decide +kernel
theorem dX12_copy_96 : decode cX12_copy 96 = .ok (.iconst 2, 1) := by decide +kernel
theorem dX12_copy_97 : decode cX12_copy 97 = .ok (.invokevirtual 182, 3) := by decide +kernel
theorem dX12_copy_100 : decode cX12_copy 100 = .ok (.ireturn, 1) := by decide +kernel
theorem dX12_copy_101 : decode cX12_copy 101 = .ok (.iconst 0, 1) := by decide +kernel
theorem dX12_copy_102 : decode cX12_copy 102 = .ok (.istore 6, 2) := by decide +kernel
theorem dX12_copy_104 : decode cX12_copy 104 = .ok (.iload 6, 2) := by decide +kernel
theorem dX12_copy_106 : decode cX12_copy 106 = .ok (.iload 5, 2) := by decide +kernel
theorem dX12_copy_108 : decode cX12_copy 108 = .ok (.if_icmp .ge 25, 3) := by decide +kernel
theorem dX12_copy_111 : decode cX12_copy 111 = .ok (.aload_n 0, 1) := by decide +kernel
theorem dX12_copy_112 : decode cX12_copy 112 = .ok (.getfield 19, 3) := by decide +kernel
theorem dX12_copy_115 : decode cX12_copy 115 = .ok (.iload 6, 2) := by decide +kernel
theorem dX12_copy_117 : decode cX12_copy 117 = .ok (.aload_n 0, 1) := by decide +kernel
theorem dX12_copy_118 : decode cX12_copy 118 = .ok (.iload_n 1, 1) := by decide +kernel
theorem dX12_copy_119 : decode cX12_copy 119 = .ok (.iload_n 2, 1) := by decide +kernel
theorem dX12_copy_120 : decode cX12_copy 120 = .ok (.iload 6, 2) := by decide +kernel
theorem dX12_copy_122 : decode cX12_copy 122 = .ok (.iadd, 1) := by decide +kernel
theorem dX12_copy_123 : decode cX12_copy 123 = .ok (.invokevirtual 186, 3) := by decide +kernel
theorem dX12_copy_126 : decode cX12_copy 126 = .ok (.iastore, 1) := by decide +kernel
theorem dX12_copy_127 : decode cX12_copy 127 = .ok (.iinc 6 1, 3) := by decide +kernel
theorem dX12_copy_130 : decode cX12_copy 130 = .ok (.goto (-26), 3) := by decide +kernel
theorem dX12_copy_133 : decode cX12_copy 133 = .ok (.iconst 0, 1) := by decide +kernel
theorem dX12_copy_134 : decode cX12_copy 134 = .ok (.istore 6, 2) := by decide +kernel
theorem dX12_copy_136 : decode cX12_copy 136 = .ok (.iload 6, 2) := by decide +kernel
theorem dX12_copy_138 : decode cX12_copy 138 = .ok (.iload 5, 2) := by decide +kernel
theorem dX12_copy_140 : decode cX12_copy 140 = .ok (.if_icmp .ge 31, 3) := by decide +kernel
theorem dX12_copy_143 : decode cX12_copy 143 = .ok (.aload_n 0, 1) := by decide +kernel
theorem dX12_copy_144 : decode cX12_copy 144 = .ok (.getfield 16, 3) := by decide +kernel
theorem dX12_copy_147 : decode cX12_copy 147 = .ok (.bipush 40, 2) := by decide +kernel
theorem dX12_copy_149 : decode cX12_copy 149 = .ok (.iload_n 3, 1) := by decide +kernel
theorem dX12_copy_150 : decode cX12_copy 150 = .ok (.imul, 1) := by decide +kernel
theorem dX12_copy_151 : decode cX12_copy 151 = .ok (.iload 4, 2) := by decide +kernel
theorem dX12_copy_153 : decode cX12_copy 153 = .ok (.iadd, 1) := by decide +kernel
theorem dX12_copy_154 : decode cX12_copy 154 = .ok (.iload 6, 2) := by decide +kernel
theorem dX12_copy_156 : decode cX12_copy 156 = .ok (.iadd, 1) := by decide +kernel
theorem dX12_copy_157 : decode cX12_copy 157 = .ok (.aload_n 0, 1) := by decide +kernel
theorem dX12_copy_158 : decode cX12_copy 158 = .ok (.getfield 19, 3) := by decide +kernel
theorem dX12_copy_161 : decode cX12_copy 161 = .ok (.iload 6, 2) := by decide +kernel
theorem dX12_copy_163 : decode cX12_copy 163 = .ok (.iaload, 1) := by decide +kernel
theorem dX12_copy_164 : decode cX12_copy 164 = .ok (.iastore, 1) := by decide +kernel
theorem dX12_copy_165 : decode cX12_copy 165 = .ok (.iinc 6 1, 3) := by decide +kernel
theorem dX12_copy_168 : decode cX12_copy 168 = .ok (.goto (-32), 3) := by decide +kernel
theorem dX12_copy_171 : decode cX12_copy 171 = .ok (.iconst 1, 1) := by decide +kernel
theorem dX12_copy_172 : decode cX12_copy 172 = .ok (.ireturn, 1) := by decide +kernel
theorem dX12_mean_0 : decode cX12_mean 0 = .ok (.iload_n 1, 1) := by decide +kernel
theorem dX12_mean_1 : decode cX12_mean 1 = .ok (.invokestatic 178, 3) := by decide +kernel
theorem dX12_mean_4 : decode cX12_mean 4 = .ok (.ifCond .ne 5, 3) := by decide +kernel
theorem dX12_mean_7 : decode cX12_mean 7 = .ok (.iconst (-1), 1) := by decide +kernel
theorem dX12_mean_8 : decode cX12_mean 8 = .ok (.ireturn, 1) := by decide +kernel
theorem dX12_mean_9 : decode cX12_mean 9 = .ok (.aload_n 0, 1) := by decide +kernel
theorem dX12_mean_10 : decode cX12_mean 10 = .ok (.getfield 13, 3) := by decide +kernel
theorem dX12_mean_13 : decode cX12_mean 13 = .ok (.iload_n 1, 1) := by decide +kernel
theorem dX12_mean_14 : decode cX12_mean 14 = .ok (.iaload, 1) := by decide +kernel
theorem dX12_mean_15 : decode cX12_mean 15 = .ok (.ifCond .ge 9, 3) := by decide +kernel
theorem dX12_mean_18 : decode cX12_mean 18 = .ok (.aload_n 0, 1) := by decide +kernel
theorem dX12_mean_19 : decode cX12_mean 19 = .ok (.iconst 1, 1) := by decide +kernel
theorem dX12_mean_20 : decode cX12_mean 20 = .ok (.invokevirtual 182, 3) := by decide +kernel
theorem dX12_mean_23 : decode cX12_mean 23 = .ok (.ireturn, 1) := by decide +kernel
theorem dX12_mean_24 : decode cX12_mean 24 = .ok (.aload_n 0, 1) := by decide +kernel
theorem dX12_mean_25 : decode cX12_mean 25 = .ok (.getfield 13, 3) := by decide +kernel
theorem dX12_mean_28 : decode cX12_mean 28 = .ok (.iload_n 1, 1) := by decide +kernel
theorem dX12_mean_29 : decode cX12_mean 29 = .ok (.iaload, 1) := by decide +kernel
theorem dX12_mean_30 : decode cX12_mean 30 = .ok (.ifCond .ne 9, 3) := by decide +kernel
theorem dX12_mean_33 : decode cX12_mean 33 = .ok (.aload_n 0, 1) := by decide +kernel
theorem dX12_mean_34 : decode cX12_mean 34 = .ok (.iconst 4, 1) := by decide +kernel
theorem dX12_mean_35 : decode cX12_mean 35 = .ok (.invokevirtual 182, 3) := by decide +kernel
theorem dX12_mean_38 : decode cX12_mean 38 = .ok (.ireturn, 1) := by decide +kernel
theorem dX12_mean_39 : decode cX12_mean 39 = .ok (.lconst 0, 1) := by decide +kernel
theorem dX12_mean_40 : decode cX12_mean 40 = .ok (.lstore_n 2, 1) := by decide +kernel
theorem dX12_mean_41 : decode cX12_mean 41 = .ok (.iconst 0, 1) := by decide +kernel
theorem dX12_mean_42 : decode cX12_mean 42 = .ok (.istore 4, 2) := by decide +kernel
theorem dX12_mean_44 : decode cX12_mean 44 = .ok (.iload 4, 2) := by decide +kernel
theorem dX12_mean_46 : decode cX12_mean 46 = .ok (.aload_n 0, 1) := by decide +kernel
theorem dX12_mean_47 : decode cX12_mean 47 = .ok (.getfield 13, 3) := by decide +kernel
theorem dX12_mean_50 : decode cX12_mean 50 = .ok (.iload_n 1, 1) := by decide +kernel
theorem dX12_mean_51 : decode cX12_mean 51 = .ok (.iaload, 1) := by decide +kernel
theorem dX12_mean_52 : decode cX12_mean 52 = .ok (.if_icmp .ge 20, 3) := by decide +kernel
theorem dX12_mean_55 : decode cX12_mean 55 = .ok (.lload_n 2, 1) := by decide +kernel
theorem dX12_mean_56 : decode cX12_mean 56 = .ok (.aload_n 0, 1) := by decide +kernel
theorem dX12_mean_57 : decode cX12_mean 57 = .ok (.iload_n 1, 1) := by decide +kernel
theorem dX12_mean_58 : decode cX12_mean 58 = .ok (.iload 4, 2) := by decide +kernel
theorem dX12_mean_60 : decode cX12_mean 60 = .ok (.invokevirtual 186, 3) := by decide +kernel
theorem dX12_mean_63 : decode cX12_mean 63 = .ok (.i2l, 1) := by decide +kernel
theorem dX12_mean_64 : decode cX12_mean 64 = .ok (.ladd, 1) := by decide +kernel
theorem dX12_mean_65 : decode cX12_mean 65 = .ok (.lstore_n 2, 1) := by decide +kernel
theorem dX12_mean_66 : decode cX12_mean 66 = .ok (.iinc 4 1, 3) := by decide +kernel
theorem dX12_mean_69 : decode cX12_mean 69 = .ok (.goto (-25), 3) := by decide +kernel
theorem dX12_mean_72 : decode cX12_mean 72 = .ok (.aload_n 0, 1) := by decide +kernel
theorem dX12_mean_73 : decode cX12_mean 73 = .ok (.lload_n 2, 1) := by decide +kernel
theorem dX12_mean_74 : decode cX12_mean 74 = .ok (.aload_n 0, 1) := by decide +kernel
theorem dX12_mean_75 : decode cX12_mean 75 = .ok (.getfield 13, 3) := by decide +kernel
theorem dX12_mean_78 : decode cX12_mean 78 = .ok (.iload_n 1, 1) := by decide +kernel
theorem dX12_mean_79 : decode cX12_mean 79 = .ok (.iaload, 1) := by decide +kernel
theorem dX12_mean_80 : decode cX12_mean 80 = .ok (.i2l, 1) := by decide +kernel
theorem dX12_mean_81 : decode cX12_mean 81 = .ok (.ldiv, 1) := by decide +kernel
theorem dX12_mean_82 : decode cX12_mean 82 = .ok (.l2i, 1) := by decide +kernel
theorem dX12_mean_83 : decode cX12_mean 83 = .ok (.iconst 1, 1) := by decide +kernel
theorem dX12_mean_84 : decode cX12_mean 84 = .ok (.invokevirtual 190, 3) := by decide +kernel
theorem dX12_mean_87 : decode cX12_mean 87 = .ok (.ireturn, 1) := by decide +kernel
theorem dX12_isText_0 : decode cX12_isText 0 = .ok (.iload_n 0, 1) := by decide +kernel
theorem dX12_isText_1 : decode cX12_isText 1 = .ok (.iconst 0, 1) := by decide +kernel
theorem dX12_isText_2 : decode cX12_isText 2 = .ok (.iconst 3, 1) := by decide +kernel
theorem dX12_isText_3 : decode cX12_isText 3 = .ok (.invokestatic 168, 3) := by decide +kernel
theorem dX12_isText_6 : decode cX12_isText 6 = .ok (.ireturn, 1) := by decide +kernel
theorem dX12_text_0 : decode cX12_text 0 = .ok (.iload_n 1, 1) := by decide +kernel
theorem dX12_text_1 : decode cX12_text 1 = .ok (.invokestatic 193, 3) := by decide +kernel
theorem dX12_text_4 : decode cX12_text 4 = .ok (.ifCond .eq 9, 3) := by decide +kernel
theorem dX12_text_7 : decode cX12_text 7 = .ok (.iload_n 2, 1) := by decide +kernel
theorem dX12_text_8 : decode cX12_text 8 = .ok (.bipush 40, 2) := by decide +kernel
theorem dX12_text_10 : decode cX12_text 10 = .ok (.if_icmp .le 5, 3) := by decide +kernel
theorem dX12_text_13 : decode cX12_text 13 = .ok (.iconst (-1), 1) := by decide +kernel
theorem dX12_text_14 : decode cX12_text 14 = .ok (.ireturn, 1) := by decide +kernel
theorem dX12_text_15 : decode cX12_text 15 = .ok (.iload_n 2, 1) := by decide +kernel
theorem dX12_text_16 : decode cX12_text 16 = .ok (.ifCond .ge 9, 3) := by decide +kernel
theorem dX12_text_19 : decode cX12_text 19 = .ok (.aload_n 0, 1) := by decide +kernel
theorem dX12_text_20 : decode cX12_text 20 = .ok (.iconst 5, 1) := by decide +kernel
theorem dX12_text_21 : decode cX12_text 21 = .ok (.invokevirtual 182, 3) := by decide +kernel
theorem dX12_text_24 : decode cX12_text 24 = .ok (.ireturn, 1) := by decide +kernel
theorem dX12_text_25 : decode cX12_text 25 = .ok (.aload_n 0, 1) := by decide +kernel
theorem dX12_text_26 : decode cX12_text 26 = .ok (.getfield 22, 3) := by decide +kernel
theorem dX12_text_29 : decode cX12_text 29 = .ok (.iload_n 1, 1) := by decide +kernel
theorem dX12_text_30 : decode cX12_text 30 = .ok (.iload_n 2, 1) := by decide +kernel
theorem dX12_text_31 : decode cX12_text 31 = .ok (.iastore, 1) := by decide +kernel
theorem dX12_text_32 : decode cX12_text 32 = .ok (.iconst 0, 1) := by decide +kernel
theorem dX12_text_33 : decode cX12_text 33 = .ok (.istore_n 3, 1) := by decide +kernel
theorem dX12_text_34 : decode cX12_text 34 = .ok (.iload_n 3, 1) := by decide +kernel
theorem dX12_text_35 : decode cX12_text 35 = .ok (.bipush 40, 2) := by decide +kernel
theorem dX12_text_37 : decode cX12_text 37 = .ok (.if_icmp .ge 22, 3) := by decide +kernel
theorem dX12_text_40 : decode cX12_text 40 = .ok (.aload_n 0, 1) := by decide +kernel
theorem dX12_text_41 : decode cX12_text 41 = .ok (.getfield 25, 3) := by decide +kernel
theorem dX12_text_44 : decode cX12_text 44 = .ok (.bipush 40, 2) := by decide +kernel
theorem dX12_text_46 : decode cX12_text 46 = .ok (.iload_n 1, 1) := by decide +kernel
theorem dX12_text_47 : decode cX12_text 47 = .ok (.imul, 1) := by decide +kernel
theorem dX12_text_48 : decode cX12_text 48 = .ok (.iload_n 3, 1) := by decide +kernel
theorem dX12_text_49 : decode cX12_text 49 = .ok (.iadd, 1) := by decide +kernel
theorem dX12_text_50 : decode cX12_text 50 = .ok (.bipush 32, 2) := by decide +kernel
theorem dX12_text_52 : decode cX12_text 52 = .ok (.bastore, 1) := by decide +kernel
theorem dX12_text_53 : decode cX12_text 53 = .ok (.iinc 3 1, 3) := by decide +kernel
theorem dX12_text_56 : decode cX12_text 56 = .ok (.goto (-22), 3) := by decide +kernel
theorem dX12_text_59 : decode cX12_text 59 = .ok (.iload_n 2, 1) := by decide +kernel
theorem dX12_text_60 : decode cX12_text 60 = .ok (.ireturn, 1) := by decide +kernel
theorem dX12_put_0 : decode cX12_put 0 = .ok (.iload_n 1, 1) := by decide +kernel
theorem dX12_put_1 : decode cX12_put 1 = .ok (.invokestatic 193, 3) := by decide +kernel
theorem dX12_put_4 : decode cX12_put 4 = .ok (.ifCond .ne 5, 3) := by decide +kernel
theorem dX12_put_7 : decode cX12_put 7 = .ok (.iconst (-1), 1) := by decide +kernel
theorem dX12_put_8 : decode cX12_put 8 = .ok (.ireturn, 1) := by decide +kernel
theorem dX12_put_9 : decode cX12_put 9 = .ok (.aload_n 0, 1) := by decide +kernel
theorem dX12_put_10 : decode cX12_put 10 = .ok (.getfield 22, 3) := by decide +kernel
theorem dX12_put_13 : decode cX12_put 13 = .ok (.iload_n 1, 1) := by decide +kernel
theorem dX12_put_14 : decode cX12_put 14 = .ok (.iaload, 1) := by decide +kernel
theorem dX12_put_15 : decode cX12_put 15 = .ok (.ifCond .ge 9, 3) := by decide +kernel
theorem dX12_put_18 : decode cX12_put 18 = .ok (.aload_n 0, 1) := by decide +kernel
theorem dX12_put_19 : decode cX12_put 19 = .ok (.iconst 1, 1) := by decide +kernel
theorem dX12_put_20 : decode cX12_put 20 = .ok (.invokevirtual 182, 3) := by decide +kernel
theorem dX12_put_23 : decode cX12_put 23 = .ok (.ireturn, 1) := by decide +kernel
theorem dX12_put_24 : decode cX12_put 24 = .ok (.iload_n 2, 1) := by decide +kernel
theorem dX12_put_25 : decode cX12_put 25 = .ok (.iconst 0, 1) := by decide +kernel
theorem dX12_put_26 : decode cX12_put 26 = .ok (.aload_n 0, 1) := by decide +kernel
theorem dX12_put_27 : decode cX12_put 27 = .ok (.getfield 22, 3) := by decide +kernel
theorem dX12_put_30 : decode cX12_put 30 = .ok (.iload_n 1, 1) := by decide +kernel
theorem dX12_put_31 : decode cX12_put 31 = .ok (.iaload, 1) := by decide +kernel
theorem dX12_put_32 : decode cX12_put 32 = .ok (.iconst 1, 1) := by decide +kernel
theorem dX12_put_33 : decode cX12_put 33 = .ok (.isub, 1) := by decide +kernel
theorem dX12_put_34 : decode cX12_put 34 = .ok (.invokestatic 168, 3) := by decide +kernel
theorem dX12_put_37 : decode cX12_put 37 = .ok (.ifCond .ne 9, 3) := by decide +kernel
theorem dX12_put_40 : decode cX12_put 40 = .ok (.aload_n 0, 1) := by decide +kernel
theorem dX12_put_41 : decode cX12_put 41 = .ok (.iconst 2, 1) := by decide +kernel
theorem dX12_put_42 : decode cX12_put 42 = .ok (.invokevirtual 182, 3) := by decide +kernel
theorem dX12_put_45 : decode cX12_put 45 = .ok (.ireturn, 1) := by decide +kernel
theorem dX12_put_46 : decode cX12_put 46 = .ok (.aload_n 0, 1) := by decide +kernel
theorem dX12_put_47 : decode cX12_put 47 = .ok (.getfield 25, 3) := by decide +kernel
theorem dX12_put_50 : decode cX12_put 50 = .ok (.bipush 40, 2) := by decide +kernel
theorem dX12_put_52 : decode cX12_put 52 = .ok (.iload_n 1, 1) := by decide +kernel
theorem dX12_put_53 : decode cX12_put 53 = .ok (.imul, 1) := by decide +kernel
theorem dX12_put_54 : decode cX12_put 54 = .ok (.iload_n 2, 1) := by decide +kernel
theorem dX12_put_55 : decode cX12_put 55 = .ok (.iadd, 1) := by decide +kernel
theorem dX12_put_56 : decode cX12_put 56 = .ok (.baload, 1) := by decide +kernel
theorem dX12_put_57 : decode cX12_put 57 = .ok (.istore 4, 2) := by decide +kernel
theorem dX12_put_59 : decode cX12_put 59 = .ok (.aload_n 0, 1) := by decide +kernel
theorem dX12_put_60 : decode cX12_put 60 = .ok (.getfield 25, 3) := by decide +kernel
theorem dX12_put_63 : decode cX12_put 63 = .ok (.bipush 40, 2) := by decide +kernel
theorem dX12_put_65 : decode cX12_put 65 = .ok (.iload_n 1, 1) := by decide +kernel
theorem dX12_put_66 : decode cX12_put 66 = .ok (.imul, 1) := by decide +kernel
theorem dX12_put_67 : decode cX12_put 67 = .ok (.iload_n 2, 1) := by decide +kernel
theorem dX12_put_68 : decode cX12_put 68 = .ok (.iadd, 1) := by decide +kernel
theorem dX12_put_69 : decode cX12_put 69 = .ok (.iload_n 3, 1) := by decide +kernel
theorem dX12_put_70 : decode cX12_put 70 = .ok (.i2b, 1) := by decide +kernel
theorem dX12_put_71 : decode cX12_put 71 = .ok (.bastore, 1) := by decide +kernel
theorem dX12_put_72 : decode cX12_put 72 = .ok (.sipush 1000, 3) := by decide +kernel
theorem dX12_put_75 : decode cX12_put 75 = .ok (.iload 4, 2) := by decide +kernel
theorem dX12_put_77 : decode cX12_put 77 = .ok (.iadd, 1) := by decide +kernel
theorem dX12_put_78 : decode cX12_put 78 = .ok (.ireturn, 1) := by decide +kernel
theorem dX12_byteAt_0 : decode cX12_byteAt 0 = .ok (.iload_n 2, 1) := by decide +kernel
theorem dX12_byteAt_1 : decode cX12_byteAt 1 = .ok (.aload_n 0, 1) := by decide +kernel
theorem dX12_byteAt_2 : decode cX12_byteAt 2 = .ok (.getfield 22, 3) := by decide +kernel
theorem dX12_byteAt_5 : decode cX12_byteAt 5 = .ok (.iload_n 1, 1) := by decide +kernel
theorem dX12_byteAt_6 : decode cX12_byteAt 6 = .ok (.iaload, 1) := by decide +kernel
theorem dX12_byteAt_7 : decode cX12_byteAt 7 = .ok (.if_icmp .ge 17, 3) := by decide +kernel
theorem dX12_byteAt_10 : decode cX12_byteAt 10 = .ok (.aload_n 0, 1) := by decide +kernel
theorem dX12_byteAt_11 : decode cX12_byteAt 11 = .ok (.getfield 25, 3) := by decide +kernel
theorem dX12_byteAt_14 : decode cX12_byteAt 14 = .ok (.bipush 40, 2) := by decide +kernel
theorem dX12_byteAt_16 : decode cX12_byteAt 16 = .ok (.iload_n 1, 1) := by decide +kernel
theorem dX12_byteAt_17 : decode cX12_byteAt 17 = .ok (.imul, 1) := by decide +kernel
theorem dX12_byteAt_18 : decode cX12_byteAt 18 = .ok (.iload_n 2, 1) := by decide +kernel
theorem dX12_byteAt_19 : decode cX12_byteAt 19 = .ok (.iadd, 1) := by decide +kernel
theorem dX12_byteAt_20 : decode cX12_byteAt 20 = .ok (.baload, 1) := by decide +kernel
theorem dX12_byteAt_21 : decode cX12_byteAt 21 = .ok (.goto 4, 3) := by decide +kernel
theorem dX12_byteAt_24 : decode cX12_byteAt 24 = .ok (.iconst 0, 1) := by decide +kernel
theorem dX12_byteAt_25 : decode cX12_byteAt 25 = .ok (.ireturn, 1) := by decide +kernel
theorem dX12_readNumber_0 : decode cX12_readNumber 0 = .ok (.aload_n 0, 1) := by decide +kernel
theorem dX12_readNumber_1 : decode cX12_readNumber 1 = .ok (.iconst 0, 1) := by decide +kernel
theorem dX12_readNumber_2 : decode cX12_readNumber 2 = .ok (.putfield 196, 3) := by decide +kernel
theorem dX12_readNumber_5 : decode cX12_readNumber 5 = .ok (.aload_n 0, 1) := by decide +kernel
theorem dX12_readNumber_6 : decode cX12_readNumber 6 = .ok (.iload_n 2, 1) := by decide +kernel
theorem dX12_readNumber_7 : decode cX12_readNumber 7 = .ok (.putfield 199, 3) := by decide +kernel
theorem dX12_readNumber_10 : decode cX12_readNumber 10 = .ok (.aload_n 0, 1) := by decide +kernel
theorem dX12_readNumber_11 : decode cX12_readNumber 11 = .ok (.getfield 199, 3) := by decide +kernel
theorem dX12_readNumber_14 : decode cX12_readNumber 14 = .ok (.iload_n 2, 1) := by decide +kernel
theorem dX12_readNumber_15 : decode cX12_readNumber 15 = .ok (.iload_n 3, 1) := by decide +kernel
theorem dX12_readNumber_16 : decode cX12_readNumber 16 = .ok (.iadd, 1) := by decide +kernel
theorem dX12_readNumber_17 : decode cX12_readNumber 17 = .ok (.if_icmp .ge 59, 3) := by decide +kernel
theorem dX12_readNumber_20 : decode cX12_readNumber 20 = .ok (.aload_n 0, 1) := by decide +kernel
theorem dX12_readNumber_21 : decode cX12_readNumber 21 = .ok (.iload_n 1, 1) := by decide +kernel
theorem dX12_readNumber_22 : decode cX12_readNumber 22 = .ok (.aload_n 0, 1) := by decide +kernel
theorem dX12_readNumber_23 : decode cX12_readNumber 23 = .ok (.getfield 199, 3) := by decide +kernel
theorem dX12_readNumber_26 : decode cX12_readNumber 26 = .ok (.invokevirtual 202, 3) := by decide +kernel
theorem dX12_readNumber_29 : decode cX12_readNumber 29 = .ok (.bipush 48, 2) := by decide +kernel
theorem dX12_readNumber_31 : decode cX12_readNumber 31 = .ok (.bipush 57, 2) := by decide +kernel
theorem dX12_readNumber_33 : decode cX12_readNumber 33 = .ok (.invokestatic 168, 3) := by decide +kernel
theorem dX12_readNumber_36 : decode cX12_readNumber 36 = .ok (.ifCond .eq 40, 3) := by decide +kernel
theorem dX12_readNumber_39 : decode cX12_readNumber 39 = .ok (.aload_n 0, 1) := by decide +kernel
theorem dX12_readNumber_40 : decode cX12_readNumber 40 = .ok (.bipush 10, 2) := by decide +kernel
theorem dX12_readNumber_42 : decode cX12_readNumber 42 = .ok (.aload_n 0, 1) := by decide +kernel
theorem dX12_readNumber_43 : decode cX12_readNumber 43 = .ok (.getfield 196, 3) := by decide +kernel
theorem dX12_readNumber_46 : decode cX12_readNumber 46 = .ok (.imul, 1) := by decide +kernel
theorem dX12_readNumber_47 : decode cX12_readNumber 47 = .ok (.aload_n 0, 1) := by decide +kernel
theorem dX12_readNumber_48 : decode cX12_readNumber 48 = .ok (.iload_n 1, 1) := by decide +kernel
theorem dX12_readNumber_49 : decode cX12_readNumber 49 = .ok (.aload_n 0, 1) := by decide +kernel
theorem dX12_readNumber_50 : decode cX12_readNumber 50 = .ok (.getfield 199, 3) := by decide +kernel
theorem dX12_readNumber_53 : decode cX12_readNumber 53 = .ok (.invokevirtual 202, 3) := by decide +kernel
theorem dX12_readNumber_56 : decode cX12_readNumber 56 = .ok (.iadd, 1) := by decide +kernel
theorem dX12_readNumber_57 : decode cX12_readNumber 57 = .ok (.bipush 48, 2) := by decide +kernel
theorem dX12_readNumber_59 : decode cX12_readNumber 59 = .ok (.isub, 1) := by decide +kernel
theorem dX12_readNumber_60 : decode cX12_readNumber 60 = .ok (.putfield 196, 3) := by decide +kernel
theorem dX12_readNumber_63 : decode cX12_readNumber 63 = .ok (.aload_n 0, 1) := by decide +kernel
theorem dX12_readNumber_64 : decode cX12_readNumber 64 = .ok (.dup, 1) := by decide +kernel
theorem dX12_readNumber_65 : decode cX12_readNumber 65 = .ok (.getfield 199, 3) := by decide +kernel
theorem dX12_readNumber_68 : decode cX12_readNumber 68 = .ok (.iconst 1, 1) := by decide +kernel
theorem dX12_readNumber_69 : decode cX12_readNumber 69 = .ok (.iadd, 1) := by decide +kernel
theorem dX12_readNumber_70 : decode cX12_readNumber 70 = .ok (.putfield 199, 3) := by decide +kernel
theorem dX12_readNumber_73 : decode cX12_readNumber 73 = .ok (.goto (-63), 3) := by decide +kernel
theorem dX12_readNumber_76 : decode cX12_readNumber 76 = .ok (.aload_n 0, 1) := by decide +kernel
theorem dX12_readNumber_77 : decode cX12_readNumber 77 = .ok (.getfield 199, 3) := by decide +kernel
theorem dX12_readNumber_80 : decode cX12_readNumber 80 = .ok (.iload_n 2, 1) := by decide +kernel
theorem dX12_readNumber_81 : decode cX12_readNumber 81 = .ok (.if_icmp .le 7, 3) := by decide +kernel
theorem dX12_readNumber_84 : decode cX12_readNumber 84 = .ok (.iconst 1, 1) := by decide +kernel
theorem dX12_readNumber_85 : decode cX12_readNumber 85 = .ok (.goto 4, 3) := by decide +kernel
theorem dX12_readNumber_88 : decode cX12_readNumber 88 = .ok (.iconst 0, 1) := by decide +kernel
theorem dX12_readNumber_89 : decode cX12_readNumber 89 = .ok (.ireturn, 1) := by decide +kernel
theorem dX12_isMinute_0 : decode cX12_isMinute 0 = .ok (.iload_n 0, 1) := by decide +kernel
theorem dX12_isMinute_1 : decode cX12_isMinute 1 = .ok (.iconst 0, 1) := by decide +kernel
theorem dX12_isMinute_2 : decode cX12_isMinute 2 = .ok (.ldc 205, 2) := by decide +kernel
theorem dX12_isMinute_4 : decode cX12_isMinute 4 = .ok (.invokestatic 168, 3) := by decide +kernel
theorem dX12_isMinute_7 : decode cX12_isMinute 7 = .ok (.ireturn, 1) := by decide +kernel
theorem dX12_isBook_0 : decode cX12_isBook 0 = .ok (.iload_n 1, 1) := by decide +kernel
theorem dX12_isBook_1 : decode cX12_isBook 1 = .ok (.iconst 0, 1) := by decide +kernel
theorem dX12_isBook_2 : decode cX12_isBook 2 = .ok (.aload_n 0, 1) := by decide +kernel
theorem dX12_isBook_3 : decode cX12_isBook 3 = .ok (.getfield 206, 3) := by decide +kernel
theorem dX12_isBook_6 : decode cX12_isBook 6 = .ok (.iconst 1, 1) := by decide +kernel
theorem dX12_isBook_7 : decode cX12_isBook 7 = .ok (.isub, 1) := by decide +kernel
theorem dX12_isBook_8 : decode cX12_isBook 8 = .ok (.invokestatic 168, 3) := by decide +kernel
theorem dX12_isBook_11 : decode cX12_isBook 11 = .ok (.ireturn, 1) := by decide +kernel
theorem dX12_isShelf_0 : decode cX12_isShelf 0 = .ok (.iload_n 0, 1) := by decide +kernel
theorem dX12_isShelf_1 : decode cX12_isShelf 1 = .ok (.iconst 0, 1) := by decide +kernel
theorem dX12_isShelf_2 : decode cX12_isShelf 2 = .ok (.bipush 7, 2) := by decide +kernel
theorem dX12_isShelf_4 : decode cX12_isShelf 4 = .ok (.invokestatic 168, 3) := by decide +kernel
theorem dX12_isShelf_7 : decode cX12_isShelf 7 = .ok (.ireturn, 1) := by decide +kernel
theorem dX12_isReader_0 : decode cX12_isReader 0 = .ok (.iload_n 0, 1) := by decide +kernel
theorem dX12_isReader_1 : decode cX12_isReader 1 = .ok (.iconst 0, 1) := by decide +kernel
theorem dX12_isReader_2 : decode cX12_isReader 2 = .ok (.bipush 7, 2) := by decide +kernel
theorem dX12_isReader_4 : decode cX12_isReader 4 = .ok (.invokestatic 168, 3) := by decide +kernel
theorem dX12_isReader_7 : decode cX12_isReader 7 = .ok (.ireturn, 1) := by decide +kernel
theorem dX12_isHad_0 : decode cX12_isHad 0 = .ok (.aload_n 0, 1) := by decide +kernel
theorem dX12_isHad_1 : decode cX12_isHad 1 = .ok (.getfield 39, 3) := by decide +kernel
theorem dX12_isHad_4 : decode cX12_isHad 4 = .ok (.iload_n 1, 1) := by decide +kernel
theorem dX12_isHad_5 : decode cX12_isHad 5 = .ok (.iaload, 1) := by decide +kernel
theorem dX12_isHad_6 : decode cX12_isHad 6 = .ok (.iconst 1, 1) := by decide +kernel
theorem dX12_isHad_7 : decode cX12_isHad 7 = .ok (.if_icmp .eq 13, 3) := by decide +kernel
theorem dX12_isHad_10 : decode cX12_isHad 10 = .ok (.aload_n 0, 1) := by decide +kernel
theorem dX12_isHad_11 : decode cX12_isHad 11 = .ok (.getfield 39, 3) := by decide +kernel
theorem dX12_isHad_14 : decode cX12_isHad 14 = .ok (.iload_n 1, 1) := by decide +kernel
theorem dX12_isHad_15 : decode cX12_isHad 15 = .ok (.iaload, 1) := by decide +kernel
theorem dX12_isHad_16 : decode cX12_isHad 16 = .ok (.iconst 2, 1) := by decide +kernel
theorem dX12_isHad_17 : decode cX12_isHad 17 = .ok (.if_icmp .ne 7, 3) := by decide +kernel
theorem dX12_isHad_20 : decode cX12_isHad 20 = .ok (.iconst 1, 1) := by decide +kernel
theorem dX12_isHad_21 : decode cX12_isHad 21 = .ok (.goto 4, 3) := by decide +kernel
theorem dX12_isHad_24 : decode cX12_isHad 24 = .ok (.iconst 0, 1) := by decide +kernel
theorem dX12_isHad_25 : decode cX12_isHad 25 = .ok (.ireturn, 1) := by decide +kernel
theorem dX12_comesHome_0 : decode cX12_comesHome 0 = .ok (.aload_n 0, 1) := by decide +kernel
theorem dX12_comesHome_1 : decode cX12_comesHome 1 = .ok (.getfield 39, 3) := by decide +kernel
theorem dX12_comesHome_4 : decode cX12_comesHome 4 = .ok (.iload_n 1, 1) := by decide +kernel
theorem dX12_comesHome_5 : decode cX12_comesHome 5 = .ok (.iconst 0, 1) := by decide +kernel
theorem dX12_comesHome_6 : decode cX12_comesHome 6 = .ok (.iastore, 1) := by decide +kernel
theorem dX12_comesHome_7 : decode cX12_comesHome 7 = .ok (.aload_n 0, 1) := by decide +kernel
theorem dX12_comesHome_8 : decode cX12_comesHome 8 = .ok (.getfield 42, 3) := by decide +kernel
theorem dX12_comesHome_11 : decode cX12_comesHome 11 = .ok (.iload_n 1, 1) := by decide +kernel
theorem dX12_comesHome_12 : decode cX12_comesHome 12 = .ok (.iconst 0, 1) := by decide +kernel
theorem dX12_comesHome_13 : decode cX12_comesHome 13 = .ok (.iastore, 1) := by decide +kernel
theorem dX12_comesHome_14 : decode cX12_comesHome 14 = .ok (.return_, 1) := by decide +kernel
theorem dX12_hasNoMore_0 : decode cX12_hasNoMore 0 = .ok (.iconst 0, 1) := by decide +kernel
theorem dX12_hasNoMore_1 : decode cX12_hasNoMore 1 = .ok (.istore_n 3, 1) := by decide +kernel
theorem dX12_hasNoMore_2 : decode cX12_hasNoMore 2 = .ok (.iload_n 3, 1) := by decide +kernel
theorem dX12_hasNoMore_3 : decode cX12_hasNoMore 3 = .ok (.aload_n 0, 1) := by decide +kernel
theorem dX12_hasNoMore_4 : decode cX12_hasNoMore 4 = .ok (.getfield 209, 3) := by decide +kernel
theorem dX12_hasNoMore_7 : decode cX12_hasNoMore 7 = .ok (.if_icmp .ge 46, 3) := by decide +kernel
theorem dX12_hasNoMore_10 : decode cX12_hasNoMore 10 = .ok (.aload_n 0, 1) := by decide +kernel
theorem dX12_hasNoMore_11 : decode cX12_hasNoMore 11 = .ok (.getfield 63, 3) := by decide +kernel
theorem dX12_hasNoMore_14 : decode cX12_hasNoMore 14 = .ok (.iload_n 3, 1) := by decide +kernel
theorem dX12_hasNoMore_15 : decode cX12_hasNoMore 15 = .ok (.aload_n 0, 1) := by decide +kernel
theorem dX12_hasNoMore_16 : decode cX12_hasNoMore 16 = .ok (.getfield 54, 3) := by decide +kernel
theorem dX12_hasNoMore_19 : decode cX12_hasNoMore 19 = .ok (.iload_n 3, 1) := by decide +kernel
theorem dX12_hasNoMore_20 : decode cX12_hasNoMore 20 = .ok (.iaload, 1) := by decide +kernel
theorem dX12_hasNoMore_21 : decode cX12_hasNoMore 21 = .ok (.iload_n 1, 1) := by decide +kernel
theorem dX12_hasNoMore_22 : decode cX12_hasNoMore 22 = .ok (.if_icmp .ne 18, 3) := by decide +kernel
theorem dX12_hasNoMore_25 : decode cX12_hasNoMore 25 = .ok (.aload_n 0, 1) := by decide +kernel
theorem dX12_hasNoMore_26 : decode cX12_hasNoMore 26 = .ok (.getfield 63, 3) := by decide +kernel
theorem dX12_hasNoMore_29 : decode cX12_hasNoMore 29 = .ok (.iload_n 3, 1) := by decide +kernel
theorem dX12_hasNoMore_30 : decode cX12_hasNoMore 30 = .ok (.iaload, 1) := by decide +kernel
theorem dX12_hasNoMore_31 : decode cX12_hasNoMore 31 = .ok (.bipush (-9), 2) := by decide +kernel
theorem dX12_hasNoMore_33 : decode cX12_hasNoMore 33 = .ok (.if_icmp .ne 7, 3) := by decide +kernel
theorem dX12_hasNoMore_36 : decode cX12_hasNoMore 36 = .ok (.iload_n 2, 1) := by decide +kernel
theorem dX12_hasNoMore_37 : decode cX12_hasNoMore 37 = .ok (.goto 9, 3) := by decide +kernel
theorem dX12_hasNoMore_40 : decode cX12_hasNoMore 40 = .ok (.aload_n 0, 1) := by decide +kernel
theorem dX12_hasNoMore_41 : decode cX12_hasNoMore 41 = .ok (.getfield 63, 3) := by decide +kernel
theorem dX12_hasNoMore_44 : decode cX12_hasNoMore 44 = .ok (.iload_n 3, 1) := by decide +kernel
theorem dX12_hasNoMore_45 : decode cX12_hasNoMore 45 = .ok (.iaload, 1) := by decide +kernel
theorem dX12_hasNoMore_46 : decode cX12_hasNoMore 46 = .ok (.iastore, 1) := by decide +kernel
theorem dX12_hasNoMore_47 : decode cX12_hasNoMore 47 = .ok (.iinc 3 1, 3) := by decide +kernel
theorem dX12_hasNoMore_50 : decode cX12_hasNoMore 50 = .ok (.goto (-48), 3) := by decide +kernel
theorem dX12_hasNoMore_53 : decode cX12_hasNoMore 53 = .ok (.return_, 1) := by decide +kernel
theorem dX12_hasNow_0 : decode cX12_hasNow 0 = .ok (.aload_n 0, 1) := by decide +kernel
theorem dX12_hasNow_1 : decode cX12_hasNow 1 = .ok (.getfield 209, 3) := by decide +kernel
theorem dX12_hasNow_4 : decode cX12_hasNow 4 = .ok (.bipush 60, 2) := by decide +kernel
theorem dX12_hasNow_6 : decode cX12_hasNow 6 = .ok (.if_icmp .ge 54, 3) := by decide +kernel
theorem dX12_hasNow_9 : decode cX12_hasNow 9 = .ok (.aload_n 0, 1) := by decide +kernel
theorem dX12_hasNow_10 : decode cX12_hasNow 10 = .ok (.getfield 54, 3) := by decide +kernel
theorem dX12_hasNow_13 : decode cX12_hasNow 13 = .ok (.aload_n 0, 1) := by decide +kernel
theorem dX12_hasNow_14 : decode cX12_hasNow 14 = .ok (.getfield 209, 3) := by decide +kernel
theorem dX12_hasNow_17 : decode cX12_hasNow 17 = .ok (.iload_n 1, 1) := by decide +kernel
theorem dX12_hasNow_18 : decode cX12_hasNow 18 = .ok (.iastore, 1) := by decide +kernel
theorem dX12_hasNow_19 : decode cX12_hasNow 19 = .ok (.aload_n 0, 1) := by decide +kernel
theorem dX12_hasNow_20 : decode cX12_hasNow 20 = .ok (.getfield 57, 3) := by decide +kernel
theorem dX12_hasNow_23 : decode cX12_hasNow 23 = .ok (.aload_n 0, 1) := by decide +kernel
theorem dX12_hasNow_24 : decode cX12_hasNow 24 = .ok (.getfield 209, 3) := by decide +kernel
theorem dX12_hasNow_27 : decode cX12_hasNow 27 = .ok (.iload_n 2, 1) := by decide +kernel
theorem dX12_hasNow_28 : decode cX12_hasNow 28 = .ok (.iastore, 1) := by decide +kernel
theorem dX12_hasNow_29 : decode cX12_hasNow 29 = .ok (.aload_n 0, 1) := by decide +kernel
theorem dX12_hasNow_30 : decode cX12_hasNow 30 = .ok (.getfield 60, 3) := by decide +kernel
theorem dX12_hasNow_33 : decode cX12_hasNow 33 = .ok (.aload_n 0, 1) := by decide +kernel
theorem dX12_hasNow_34 : decode cX12_hasNow 34 = .ok (.getfield 209, 3) := by decide +kernel
theorem dX12_hasNow_37 : decode cX12_hasNow 37 = .ok (.iload_n 3, 1) := by decide +kernel
theorem dX12_hasNow_38 : decode cX12_hasNow 38 = .ok (.iastore, 1) := by decide +kernel
theorem dX12_hasNow_39 : decode cX12_hasNow 39 = .ok (.aload_n 0, 1) := by decide +kernel
theorem dX12_hasNow_40 : decode cX12_hasNow 40 = .ok (.getfield 63, 3) := by decide +kernel
theorem dX12_hasNow_43 : decode cX12_hasNow 43 = .ok (.aload_n 0, 1) := by decide +kernel
theorem dX12_hasNow_44 : decode cX12_hasNow 44 = .ok (.getfield 209, 3) := by decide +kernel
theorem dX12_hasNow_47 : decode cX12_hasNow 47 = .ok (.bipush (-9), 2) := by decide +kernel
theorem dX12_hasNow_49 : decode cX12_hasNow 49 = .ok (.iastore, 1) := by decide +kernel
theorem dX12_hasNow_50 : decode cX12_hasNow 50 = .ok (.aload_n 0, 1) := by decide +kernel
theorem dX12_hasNow_51 : decode cX12_hasNow 51 = .ok (.dup, 1) := by decide +kernel
theorem dX12_hasNow_52 : decode cX12_hasNow 52 = .ok (.getfield 209, 3) := by decide +kernel
theorem dX12_hasNow_55 : decode cX12_hasNow 55 = .ok (.iconst 1, 1) := by decide +kernel
theorem dX12_hasNow_56 : decode cX12_hasNow 56 = .ok (.iadd, 1) := by decide +kernel
theorem dX12_hasNow_57 : decode cX12_hasNow 57 = .ok (.putfield 209, 3) := by decide +kernel
theorem dX12_hasNow_60 : decode cX12_hasNow 60 = .ok (.return_, 1) := by decide +kernel
theorem dX12_goesOn_0 : decode cX12_goesOn 0 = .ok (.aload_n 0, 1) := by decide +kernel
theorem dX12_goesOn_1 : decode cX12_goesOn 1 = .ok (.getfield 39, 3) := by decide +kernel
theorem dX12_goesOn_4 : decode cX12_goesOn 4 = .ok (.iload_n 1, 1) := by decide +kernel
theorem dX12_goesOn_5 : decode cX12_goesOn 5 = .ok (.iaload, 1) := by decide +kernel
theorem dX12_goesOn_6 : decode cX12_goesOn 6 = .ok (.iconst 5, 1) := by decide +kernel
theorem dX12_goesOn_7 : decode cX12_goesOn 7 = .ok (.if_icmp .ne 81, 3) := by decide +kernel
theorem dX12_goesOn_10 : decode cX12_goesOn 10 = .ok (.aload_n 0, 1) := by decide +kernel
theorem dX12_goesOn_11 : decode cX12_goesOn 11 = .ok (.getfield 48, 3) := by decide +kernel
theorem dX12_goesOn_14 : decode cX12_goesOn 14 = .ok (.iload_n 1, 1) := by decide +kernel
theorem dX12_goesOn_15 : decode cX12_goesOn 15 = .ok (.iaload, 1) := by decide +kernel
theorem dX12_goesOn_16 : decode cX12_goesOn 16 = .ok (.aload_n 0, 1) := by decide +kernel
theorem dX12_goesOn_17 : decode cX12_goesOn 17 = .ok (.getfield 212, 3) := by decide +kernel
theorem dX12_goesOn_20 : decode cX12_goesOn 20 = .ok (.if_icmp .gt 68, 3) := by decide +kernel
theorem dX12_goesOn_23 : decode cX12_goesOn 23 = .ok (.aload_n 0, 1) := by decide +kernel
theorem dX12_goesOn_24 : decode cX12_goesOn 24 = .ok (.getfield 51, 3) := by decide +kernel
theorem dX12_goesOn_27 : decode cX12_goesOn 27 = .ok (.iload_n 1, 1) := by decide +kernel
theorem dX12_goesOn_28 : decode cX12_goesOn 28 = .ok (.iaload, 1) := by decide +kernel
theorem dX12_goesOn_29 : decode cX12_goesOn 29 = .ok (.istore_n 2, 1) := by decide +kernel
theorem dX12_goesOn_30 : decode cX12_goesOn 30 = .ok (.aload_n 0, 1) := by decide +kernel
theorem dX12_goesOn_31 : decode cX12_goesOn 31 = .ok (.getfield 39, 3) := by decide +kernel
theorem dX12_goesOn_34 : decode cX12_goesOn 34 = .ok (.iload_n 1, 1) := by decide +kernel
theorem dX12_goesOn_35 : decode cX12_goesOn 35 = .ok (.iconst 1, 1) := by decide +kernel
theorem dX12_goesOn_36 : decode cX12_goesOn 36 = .ok (.iastore, 1) := by decide +kernel
theorem dX12_goesOn_37 : decode cX12_goesOn 37 = .ok (.aload_n 0, 1) := by decide +kernel
theorem dX12_goesOn_38 : decode cX12_goesOn 38 = .ok (.getfield 45, 3) := by decide +kernel
theorem dX12_goesOn_41 : decode cX12_goesOn 41 = .ok (.iload_n 1, 1) := by decide +kernel
theorem dX12_goesOn_42 : decode cX12_goesOn 42 = .ok (.aload_n 0, 1) := by decide +kernel
theorem dX12_goesOn_43 : decode cX12_goesOn 43 = .ok (.getfield 81, 3) := by decide +kernel
theorem dX12_goesOn_46 : decode cX12_goesOn 46 = .ok (.iload_n 2, 1) := by decide +kernel
theorem dX12_goesOn_47 : decode cX12_goesOn 47 = .ok (.iaload, 1) := by decide +kernel
theorem dX12_goesOn_48 : decode cX12_goesOn 48 = .ok (.iastore, 1) := by decide +kernel
theorem dX12_goesOn_49 : decode cX12_goesOn 49 = .ok (.aload_n 0, 1) := by decide +kernel
theorem dX12_goesOn_50 : decode cX12_goesOn 50 = .ok (.getfield 78, 3) := by decide +kernel
theorem dX12_goesOn_53 : decode cX12_goesOn 53 = .ok (.iload_n 2, 1) := by decide +kernel
theorem dX12_goesOn_54 : decode cX12_goesOn 54 = .ok (.iconst 2, 1) := by decide +kernel
theorem dX12_goesOn_55 : decode cX12_goesOn 55 = .ok (.iastore, 1) := by decide +kernel
theorem dX12_goesOn_56 : decode cX12_goesOn 56 = .ok (.aload_n 0, 1) := by decide +kernel
theorem dX12_goesOn_57 : decode cX12_goesOn 57 = .ok (.getfield 90, 3) := by decide +kernel
theorem dX12_goesOn_60 : decode cX12_goesOn 60 = .ok (.iload_n 2, 1) := by decide +kernel
theorem dX12_goesOn_61 : decode cX12_goesOn 61 = .ok (.aload_n 0, 1) := by decide +kernel
theorem dX12_goesOn_62 : decode cX12_goesOn 62 = .ok (.getfield 48, 3) := by decide +kernel
theorem dX12_goesOn_65 : decode cX12_goesOn 65 = .ok (.iload_n 1, 1) := by decide +kernel
theorem dX12_goesOn_66 : decode cX12_goesOn 66 = .ok (.iaload, 1) := by decide +kernel
theorem dX12_goesOn_67 : decode cX12_goesOn 67 = .ok (.iastore, 1) := by decide +kernel
theorem dX12_goesOn_68 : decode cX12_goesOn 68 = .ok (.aload_n 0, 1) := by decide +kernel
theorem dX12_goesOn_69 : decode cX12_goesOn 69 = .ok (.iload_n 1, 1) := by decide +kernel
theorem dX12_goesOn_70 : decode cX12_goesOn 70 = .ok (.aload_n 0, 1) := by decide +kernel
theorem dX12_goesOn_71 : decode cX12_goesOn 71 = .ok (.getfield 45, 3) := by decide +kernel
theorem dX12_goesOn_74 : decode cX12_goesOn 74 = .ok (.iload_n 1, 1) := by decide +kernel
theorem dX12_goesOn_75 : decode cX12_goesOn 75 = .ok (.iaload, 1) := by decide +kernel
theorem dX12_goesOn_76 : decode cX12_goesOn 76 = .ok (.aload_n 0, 1) := by decide +kernel
theorem dX12_goesOn_77 : decode cX12_goesOn 77 = .ok (.getfield 48, 3) := by decide +kernel
theorem dX12_goesOn_80 : decode cX12_goesOn 80 = .ok (.iload_n 1, 1) := by decide +kernel
theorem dX12_goesOn_81 : decode cX12_goesOn 81 = .ok (.iaload, 1) := by decide +kernel
theorem dX12_goesOn_82 : decode cX12_goesOn 82 = .ok (.invokevirtual 215, 3) := by decide +kernel
theorem dX12_goesOn_85 : decode cX12_goesOn 85 = .ok (.goto 85, 3) := by decide +kernel
theorem dX12_goesOn_88 : decode cX12_goesOn 88 = .ok (.aload_n 0, 1) := by decide +kernel
theorem dX12_goesOn_89 : decode cX12_goesOn 89 = .ok (.getfield 39, 3) := by decide +kernel
theorem dX12_goesOn_92 : decode cX12_goesOn 92 = .ok (.iload_n 1, 1) := by decide +kernel
theorem dX12_goesOn_93 : decode cX12_goesOn 93 = .ok (.iaload, 1) := by decide +kernel
theorem dX12_goesOn_94 : decode cX12_goesOn 94 = .ok (.iconst 3, 1) := by decide +kernel
theorem dX12_goesOn_95 : decode cX12_goesOn 95 = .ok (.if_icmp .ne 24, 3) := by decide +kernel
theorem dX12_goesOn_98 : decode cX12_goesOn 98 = .ok (.aload_n 0, 1) := by decide +kernel
theorem dX12_goesOn_99 : decode cX12_goesOn 99 = .ok (.getfield 48, 3) := by decide +kernel
theorem dX12_goesOn_102 : decode cX12_goesOn 102 = .ok (.iload_n 1, 1) := by decide +kernel
theorem dX12_goesOn_103 : decode cX12_goesOn 103 = .ok (.iaload, 1) := by decide +kernel
theorem dX12_goesOn_104 : decode cX12_goesOn 104 = .ok (.aload_n 0, 1) := by decide +kernel
theorem dX12_goesOn_105 : decode cX12_goesOn 105 = .ok (.getfield 212, 3) := by decide +kernel
theorem dX12_goesOn_108 : decode cX12_goesOn 108 = .ok (.if_icmp .gt 11, 3) := by decide +kernel
theorem dX12_goesOn_111 : decode cX12_goesOn 111 = .ok (.aload_n 0, 1) := by decide +kernel
theorem dX12_goesOn_112 : decode cX12_goesOn 112 = .ok (.iload_n 1, 1) := by decide +kernel
theorem dX12_goesOn_113 : decode cX12_goesOn 113 = .ok (.invokevirtual 219, 3) := by decide +kernel
theorem dX12_goesOn_116 : decode cX12_goesOn 116 = .ok (.goto 54, 3) := by decide +kernel
theorem dX12_goesOn_119 : decode cX12_goesOn 119 = .ok (.aload_n 0, 1) := by decide +kernel
theorem dX12_goesOn_120 : decode cX12_goesOn 120 = .ok (.getfield 39, 3) := by decide +kernel
theorem dX12_goesOn_123 : decode cX12_goesOn 123 = .ok (.iload_n 1, 1) := by decide +kernel
theorem dX12_goesOn_124 : decode cX12_goesOn 124 = .ok (.iaload, 1) := by decide +kernel
theorem dX12_goesOn_125 : decode cX12_goesOn 125 = .ok (.iconst 2, 1) := by decide +kernel
theorem dX12_goesOn_126 : decode cX12_goesOn 126 = .ok (.if_icmp .ne 44, 3) := by decide +kernel
theorem dX12_goesOn_129 : decode cX12_goesOn 129 = .ok (.aload_n 0, 1) := by decide +kernel
theorem dX12_goesOn_130 : decode cX12_goesOn 130 = .ok (.getfield 48, 3) := by decide +kernel
theorem dX12_goesOn_133 : decode cX12_goesOn 133 = .ok (.iload_n 1, 1) := by decide +kernel
theorem dX12_goesOn_134 : decode cX12_goesOn 134 = .ok (.iaload, 1) := by decide +kernel
theorem dX12_goesOn_135 : decode cX12_goesOn 135 = .ok (.iconst 1, 1) := by decide +kernel
theorem dX12_goesOn_136 : decode cX12_goesOn 136 = .ok (.iadd, 1) := by decide +kernel
theorem dX12_goesOn_137 : decode cX12_goesOn 137 = .ok (.sipush 1440, 3) := by decide +kernel
theorem dX12_goesOn_140 : decode cX12_goesOn 140 = .ok (.imul, 1) := by decide +kernel
theorem dX12_goesOn_141 : decode cX12_goesOn 141 = .ok (.aload_n 0, 1) := by decide +kernel
theorem dX12_goesOn_142 : decode cX12_goesOn 142 = .ok (.getfield 212, 3) := by decide +kernel
theorem dX12_goesOn_145 : decode cX12_goesOn 145 = .ok (.if_icmp .gt 25, 3) := by decide +kernel
theorem dX12_goesOn_148 : decode cX12_goesOn 148 = .ok (.aload_n 0, 1) := by decide +kernel
theorem dX12_goesOn_149 : decode cX12_goesOn 149 = .ok (.iload_n 1, 1) := by decide +kernel
theorem dX12_goesOn_150 : decode cX12_goesOn 150 = .ok (.aload_n 0, 1) := by decide +kernel
theorem dX12_goesOn_151 : decode cX12_goesOn 151 = .ok (.getfield 48, 3) := by decide +kernel
theorem dX12_goesOn_154 : decode cX12_goesOn 154 = .ok (.iload_n 1, 1) := by decide +kernel
theorem dX12_goesOn_155 : decode cX12_goesOn 155 = .ok (.iaload, 1) := by decide +kernel
theorem dX12_goesOn_156 : decode cX12_goesOn 156 = .ok (.iconst 1, 1) := by decide +kernel
theorem dX12_goesOn_157 : decode cX12_goesOn 157 = .ok (.iadd, 1) := by decide +kernel
theorem dX12_goesOn_158 : decode cX12_goesOn 158 = .ok (.sipush 1440, 3) := by decide +kernel
theorem dX12_goesOn_161 : decode cX12_goesOn 161 = .ok (.imul, 1) := by decide +kernel
theorem dX12_goesOn_162 : decode cX12_goesOn 162 = .ok (.invokevirtual 223, 3) := by decide +kernel
theorem dX12_goesOn_165 : decode cX12_goesOn 165 = .ok (.aload_n 0, 1) := by decide +kernel
theorem dX12_goesOn_166 : decode cX12_goesOn 166 = .ok (.iload_n 1, 1) := by decide +kernel
theorem dX12_goesOn_167 : decode cX12_goesOn 167 = .ok (.invokevirtual 219, 3) := by decide +kernel
theorem dX12_goesOn_170 : decode cX12_goesOn 170 = .ok (.return_, 1) := by decide +kernel
theorem dX12_later_0 : decode cX12_later 0 = .ok (.iload_n 1, 1) := by decide +kernel
theorem dX12_later_1 : decode cX12_later 1 = .ok (.ifCond .lt 14, 3) := by decide +kernel
theorem dX12_later_4 : decode cX12_later 4 = .ok (.iload_n 1, 1) := by decide +kernel
theorem dX12_later_5 : decode cX12_later 5 = .ok (.ldc 205, 2) := by decide +kernel
theorem dX12_later_7 : decode cX12_later 7 = .ok (.aload_n 0, 1) := by decide +kernel
theorem dX12_later_8 : decode cX12_later 8 = .ok (.getfield 212, 3) := by decide +kernel
theorem dX12_later_11 : decode cX12_later 11 = .ok (.isub, 1) := by decide +kernel
theorem dX12_later_12 : decode cX12_later 12 = .ok (.if_icmp .le 5, 3) := by decide +kernel
theorem dX12_later_15 : decode cX12_later 15 = .ok (.iconst (-1), 1) := by decide +kernel
theorem dX12_later_16 : decode cX12_later 16 = .ok (.ireturn, 1) := by decide +kernel
theorem dX12_later_17 : decode cX12_later 17 = .ok (.aload_n 0, 1) := by decide +kernel
theorem dX12_later_18 : decode cX12_later 18 = .ok (.dup, 1) := by decide +kernel
theorem dX12_later_19 : decode cX12_later 19 = .ok (.getfield 212, 3) := by decide +kernel
theorem dX12_later_22 : decode cX12_later 22 = .ok (.iload_n 1, 1) := by decide +kernel
theorem dX12_later_23 : decode cX12_later 23 = .ok (.iadd, 1) := by decide +kernel
theorem dX12_later_24 : decode cX12_later 24 = .ok (.putfield 212, 3) := by decide +kernel
theorem dX12_later_27 : decode cX12_later 27 = .ok (.iconst 0, 1) := by decide +kernel
theorem dX12_later_28 : decode cX12_later 28 = .ok (.istore_n 2, 1) := by decide +kernel
theorem dX12_later_29 : decode cX12_later 29 = .ok (.iload_n 2, 1) := by decide +kernel
theorem dX12_later_30 : decode cX12_later 30 = .ok (.aload_n 0, 1) := by decide +kernel
theorem dX12_later_31 : decode cX12_later 31 = .ok (.getfield 206, 3) := by decide +kernel
theorem dX12_later_34 : decode cX12_later 34 = .ok (.if_icmp .ge 14, 3) := by decide +kernel
theorem dX12_later_37 : decode cX12_later 37 = .ok (.aload_n 0, 1) := by decide +kernel
theorem dX12_later_38 : decode cX12_later 38 = .ok (.iload_n 2, 1) := by decide +kernel
theorem dX12_later_39 : decode cX12_later 39 = .ok (.invokevirtual 227, 3) := by decide +kernel
theorem dX12_later_42 : decode cX12_later 42 = .ok (.iinc 2 1, 3) := by decide +kernel
theorem dX12_later_45 : decode cX12_later 45 = .ok (.goto (-16), 3) := by decide +kernel
theorem dX12_later_48 : decode cX12_later 48 = .ok (.aload_n 0, 1) := by decide +kernel
theorem dX12_later_49 : decode cX12_later 49 = .ok (.getfield 212, 3) := by decide +kernel
theorem dX12_later_52 : decode cX12_later 52 = .ok (.ireturn, 1) := by decide +kernel
theorem dX12_book_0 : decode cX12_book 0 = .ok (.iload_n 1, 1) := by decide +kernel
theorem dX12_book_1 : decode cX12_book 1 = .ok (.iconst 0, 1) := by decide +kernel
theorem dX12_book_2 : decode cX12_book 2 = .ok (.sipush 9999, 3) := by decide +kernel
theorem dX12_book_5 : decode cX12_book 5 = .ok (.invokestatic 168, 3) := by decide +kernel
theorem dX12_book_8 : decode cX12_book 8 = .ok (.ifCond .eq 10, 3) := by decide +kernel
theorem dX12_book_11 : decode cX12_book 11 = .ok (.iload_n 2, 1) := by decide +kernel
theorem dX12_book_12 : decode cX12_book 12 = .ok (.invokestatic 230, 3) := by decide +kernel
theorem dX12_book_15 : decode cX12_book 15 = .ok (.ifCond .ne 5, 3) := by decide +kernel
theorem dX12_book_18 : decode cX12_book 18 = .ok (.iconst (-1), 1) := by decide +kernel
theorem dX12_book_19 : decode cX12_book 19 = .ok (.ireturn, 1) := by decide +kernel
theorem dX12_book_20 : decode cX12_book 20 = .ok (.aload_n 0, 1) := by decide +kernel
theorem dX12_book_21 : decode cX12_book 21 = .ok (.getfield 206, 3) := by decide +kernel
theorem dX12_book_24 : decode cX12_book 24 = .ok (.bipush 24, 2) := by decide +kernel
theorem dX12_book_26 : decode cX12_book 26 = .ok (.if_icmp .ne 6, 3) := by decide +kernel
theorem dX12_book_29 : decode cX12_book 29 = .ok (.bipush (-2), 2) := by decide +kernel
theorem dX12_book_31 : decode cX12_book 31 = .ok (.ireturn, 1) := by decide +kernel
theorem dX12_book_32 : decode cX12_book 32 = .ok (.aload_n 0, 1) := by decide +kernel
theorem dX12_book_33 : decode cX12_book 33 = .ok (.iload_n 1, 1) := by decide +kernel
theorem dX12_book_34 : decode cX12_book 34 = .ok (.invokevirtual 233, 3) := by decide +kernel
theorem dX12_book_37 : decode cX12_book 37 = .ok (.bipush (-9), 2) := by decide +kernel
theorem dX12_book_39 : decode cX12_book 39 = .ok (.if_icmp .eq 9, 3) := by decide +kernel
theorem dX12_book_42 : decode cX12_book 42 = .ok (.aload_n 0, 1) := by decide +kernel
theorem dX12_book_43 : decode cX12_book 43 = .ok (.iconst 3, 1) := by decide +kernel
theorem dX12_book_44 : decode cX12_book 44 = .ok (.invokevirtual 182, 3) := by decide +kernel
theorem dX12_book_47 : decode cX12_book 47 = .ok (.ireturn, 1) := by decide +kernel
theorem dX12_book_48 : decode cX12_book 48 = .ok (.aload_n 0, 1) := by decide +kernel
theorem dX12_book_49 : decode cX12_book 49 = .ok (.getfield 29, 3) := by decide +kernel
theorem dX12_book_52 : decode cX12_book 52 = .ok (.aload_n 0, 1) := by decide +kernel
theorem dX12_book_53 : decode cX12_book 53 = .ok (.getfield 206, 3) := by decide +kernel
theorem dX12_book_56 : decode cX12_book 56 = .ok (.iload_n 1, 1) := by decide +kernel
theorem dX12_book_57 : decode cX12_book 57 = .ok (.iastore, 1) := by decide +kernel
theorem dX12_book_58 : decode cX12_book 58 = .ok (.aload_n 0, 1) := by decide +kernel
theorem dX12_book_59 : decode cX12_book 59 = .ok (.getfield 32, 3) := by decide +kernel
theorem dX12_book_62 : decode cX12_book 62 = .ok (.aload_n 0, 1) := by decide +kernel
theorem dX12_book_63 : decode cX12_book 63 = .ok (.getfield 206, 3) := by decide +kernel
theorem dX12_book_66 : decode cX12_book 66 = .ok (.iload_n 2, 1) := by decide +kernel
theorem dX12_book_67 : decode cX12_book 67 = .ok (.iastore, 1) := by decide +kernel
theorem dX12_book_68 : decode cX12_book 68 = .ok (.aload_n 0, 1) := by decide +kernel
theorem dX12_book_69 : decode cX12_book 69 = .ok (.getfield 35, 3) := by decide +kernel
theorem dX12_book_72 : decode cX12_book 72 = .ok (.aload_n 0, 1) := by decide +kernel
theorem dX12_book_73 : decode cX12_book 73 = .ok (.getfield 206, 3) := by decide +kernel
theorem dX12_book_76 : decode cX12_book 76 = .ok (.iload_n 3, 1) := by decide +kernel
theorem dX12_book_77 : decode cX12_book 77 = .ok (.bastore, 1) := by decide +kernel
theorem dX12_book_78 : decode cX12_book 78 = .ok (.aload_n 0, 1) := by decide +kernel
theorem dX12_book_79 : decode cX12_book 79 = .ok (.dup, 1) := by decide +kernel
theorem dX12_book_80 : decode cX12_book 80 = .ok (.getfield 206, 3) := by decide +kernel
theorem dX12_book_83 : decode cX12_book 83 = .ok (.iconst 1, 1) := by decide +kernel
theorem dX12_book_84 : decode cX12_book 84 = .ok (.iadd, 1) := by decide +kernel
theorem dX12_book_85 : decode cX12_book 85 = .ok (.putfield 206, 3) := by decide +kernel
theorem dX12_book_88 : decode cX12_book 88 = .ok (.aload_n 0, 1) := by decide +kernel
theorem dX12_book_89 : decode cX12_book 89 = .ok (.getfield 206, 3) := by decide +kernel
theorem dX12_book_92 : decode cX12_book 92 = .ok (.iconst 1, 1) := by decide +kernel
theorem dX12_book_93 : decode cX12_book 93 = .ok (.isub, 1) := by decide +kernel
theorem dX12_book_94 : decode cX12_book 94 = .ok (.ireturn, 1) := by decide +kernel
theorem dX12_withMark_0 : decode cX12_withMark 0 = .ok (.iconst 0, 1) := by decide +kernel
theorem dX12_withMark_1 : decode cX12_withMark 1 = .ok (.istore_n 2, 1) := by decide +kernel
theorem dX12_withMark_2 : decode cX12_withMark 2 = .ok (.iload_n 2, 1) := by decide +kernel
theorem dX12_withMark_3 : decode cX12_withMark 3 = .ok (.aload_n 0, 1) := by decide +kernel
theorem dX12_withMark_4 : decode cX12_withMark 4 = .ok (.getfield 206, 3) := by decide +kernel
theorem dX12_withMark_7 : decode cX12_withMark 7 = .ok (.if_icmp .ge 21, 3) := by decide +kernel
theorem dX12_withMark_10 : decode cX12_withMark 10 = .ok (.aload_n 0, 1) := by decide +kernel
theorem dX12_withMark_11 : decode cX12_withMark 11 = .ok (.getfield 29, 3) := by decide +kernel
theorem dX12_withMark_14 : decode cX12_withMark 14 = .ok (.iload_n 2, 1) := by decide +kernel
theorem dX12_withMark_15 : decode cX12_withMark 15 = .ok (.iaload, 1) := by decide +kernel
theorem dX12_withMark_16 : decode cX12_withMark 16 = .ok (.iload_n 1, 1) := by decide +kernel
theorem dX12_withMark_17 : decode cX12_withMark 17 = .ok (.if_icmp .ne 5, 3) := by decide +kernel
theorem dX12_withMark_20 : decode cX12_withMark 20 = .ok (.iload_n 2, 1) := by decide +kernel
theorem dX12_withMark_21 : decode cX12_withMark 21 = .ok (.ireturn, 1) := by decide +kernel
theorem dX12_withMark_22 : decode cX12_withMark 22 = .ok (.iinc 2 1, 3) := by decide +kernel
theorem dX12_withMark_25 : decode cX12_withMark 25 = .ok (.goto (-23), 3) := by decide +kernel
theorem dX12_withMark_28 : decode cX12_withMark 28 = .ok (.bipush (-9), 2) := by decide +kernel
theorem dX12_withMark_30 : decode cX12_withMark 30 = .ok (.ireturn, 1) := by decide +kernel
theorem dX12_bookTold_0 : decode cX12_bookTold 0 = .ok (.iload_n 2, 1) := by decide +kernel
theorem dX12_bookTold_1 : decode cX12_bookTold 1 = .ok (.ifCond .ne 12, 3) := by decide +kernel
theorem dX12_bookTold_4 : decode cX12_bookTold 4 = .ok (.aload_n 0, 1) := by decide +kernel
theorem dX12_bookTold_5 : decode cX12_bookTold 5 = .ok (.getfield 39, 3) := by decide +kernel
theorem dX12_bookTold_8 : decode cX12_bookTold 8 = .ok (.iload_n 1, 1) := by decide +kernel
theorem dX12_bookTold_9 : decode cX12_bookTold 9 = .ok (.iaload, 1) := by decide +kernel
theorem dX12_bookTold_10 : decode cX12_bookTold 10 = .ok (.goto 59, 3) := by decide +kernel
theorem dX12_bookTold_13 : decode cX12_bookTold 13 = .ok (.iload_n 2, 1) := by decide +kernel
theorem dX12_bookTold_14 : decode cX12_bookTold 14 = .ok (.iconst 1, 1) := by decide +kernel
theorem dX12_bookTold_15 : decode cX12_bookTold 15 = .ok (.if_icmp .ne 12, 3) := by decide +kernel
theorem dX12_bookTold_18 : decode cX12_bookTold 18 = .ok (.aload_n 0, 1) := by decide +kernel
theorem dX12_bookTold_19 : decode cX12_bookTold 19 = .ok (.getfield 29, 3) := by decide +kernel
theorem dX12_bookTold_22 : decode cX12_bookTold 22 = .ok (.iload_n 1, 1) := by decide +kernel
theorem dX12_bookTold_23 : decode cX12_bookTold 23 = .ok (.iaload, 1) := by decide +kernel
theorem dX12_bookTold_24 : decode cX12_bookTold 24 = .ok (.goto 45, 3) := by decide +kernel
theorem dX12_bookTold_27 : decode cX12_bookTold 27 = .ok (.iload_n 2, 1) := by decide +kernel
theorem dX12_bookTold_28 : decode cX12_bookTold 28 = .ok (.iconst 2, 1) := by decide +kernel
theorem dX12_bookTold_29 : decode cX12_bookTold 29 = .ok (.if_icmp .ne 12, 3) := by decide +kernel
theorem dX12_bookTold_32 : decode cX12_bookTold 32 = .ok (.aload_n 0, 1) := by decide +kernel
theorem dX12_bookTold_33 : decode cX12_bookTold 33 = .ok (.getfield 32, 3) := by decide +kernel
theorem dX12_bookTold_36 : decode cX12_bookTold 36 = .ok (.iload_n 1, 1) := by decide +kernel
theorem dX12_bookTold_37 : decode cX12_bookTold 37 = .ok (.iaload, 1) := by decide +kernel
theorem dX12_bookTold_38 : decode cX12_bookTold 38 = .ok (.goto 31, 3) := by decide +kernel
theorem dX12_bookTold_41 : decode cX12_bookTold 41 = .ok (.iload_n 2, 1) := by decide +kernel
theorem dX12_bookTold_42 : decode cX12_bookTold 42 = .ok (.iconst 3, 1) := by decide +kernel
theorem dX12_bookTold_43 : decode cX12_bookTold 43 = .ok (.if_icmp .ne 20, 3) := by decide +kernel
theorem dX12_bookTold_46 : decode cX12_bookTold 46 = .ok (.aload_n 0, 1) := by decide +kernel
theorem dX12_bookTold_47 : decode cX12_bookTold 47 = .ok (.getfield 35, 3) := by decide +kernel
theorem dX12_bookTold_50 : decode cX12_bookTold 50 = .ok (.iload_n 1, 1) := by decide +kernel
theorem dX12_bookTold_51 : decode cX12_bookTold 51 = .ok (.baload, 1) := by decide +kernel
theorem dX12_bookTold_52 : decode cX12_bookTold 52 = .ok (.ifCond .eq 7, 3) := by decide +kernel
theorem dX12_bookTold_55 : decode cX12_bookTold 55 = .ok (.iconst 1, 1) := by decide +kernel
theorem dX12_bookTold_56 : decode cX12_bookTold 56 = .ok (.goto 13, 3) := by decide +kernel
theorem dX12_bookTold_59 : decode cX12_bookTold 59 = .ok (.iconst 0, 1) := by decide +kernel
theorem dX12_bookTold_60 : decode cX12_bookTold 60 = .ok (.goto 9, 3) := by decide +kernel
theorem dX12_bookTold_63 : decode cX12_bookTold 63 = .ok (.aload_n 0, 1) := by decide +kernel
theorem dX12_bookTold_64 : decode cX12_bookTold 64 = .ok (.getfield 42, 3) := by decide +kernel
theorem dX12_bookTold_67 : decode cX12_bookTold 67 = .ok (.iload_n 1, 1) := by decide +kernel
theorem dX12_bookTold_68 : decode cX12_bookTold 68 = .ok (.iaload, 1) := by decide +kernel
theorem dX12_bookTold_69 : decode cX12_bookTold 69 = .ok (.ireturn, 1) := by decide +kernel
theorem dX12_told_0 : decode cX12_told 0 = .ok (.aload_n 0, 1) := by decide +kernel
theorem dX12_told_1 : decode cX12_told 1 = .ok (.iload_n 1, 1) := by decide +kernel
theorem dX12_told_2 : decode cX12_told 2 = .ok (.invokevirtual 236, 3) := by decide +kernel
theorem dX12_told_5 : decode cX12_told 5 = .ok (.ifCond .eq 26, 3) := by decide +kernel
theorem dX12_told_8 : decode cX12_told 8 = .ok (.iload_n 2, 1) := by decide +kernel
theorem dX12_told_9 : decode cX12_told 9 = .ok (.iconst 0, 1) := by decide +kernel
theorem dX12_told_10 : decode cX12_told 10 = .ok (.iconst 4, 1) := by decide +kernel
theorem dX12_told_11 : decode cX12_told 11 = .ok (.invokestatic 168, 3) := by decide +kernel
theorem dX12_told_14 : decode cX12_told 14 = .ok (.ifCond .eq 17, 3) := by decide +kernel
theorem dX12_told_17 : decode cX12_told 17 = .ok (.aload_n 0, 1) := by decide +kernel
theorem dX12_told_18 : decode cX12_told 18 = .ok (.aload_n 0, 1) := by decide +kernel
theorem dX12_told_19 : decode cX12_told 19 = .ok (.iload_n 1, 1) := by decide +kernel
theorem dX12_told_20 : decode cX12_told 20 = .ok (.iload_n 2, 1) := by decide +kernel
theorem dX12_told_21 : decode cX12_told 21 = .ok (.invokevirtual 239, 3) := by decide +kernel
theorem dX12_told_24 : decode cX12_told 24 = .ok (.iconst 1, 1) := by decide +kernel
theorem dX12_told_25 : decode cX12_told 25 = .ok (.invokevirtual 190, 3) := by decide +kernel
theorem dX12_told_28 : decode cX12_told 28 = .ok (.goto 4, 3) := by decide +kernel
theorem dX12_told_31 : decode cX12_told 31 = .ok (.iconst (-1), 1) := by decide +kernel
theorem dX12_told_32 : decode cX12_told 32 = .ok (.ireturn, 1) := by decide +kernel
theorem dX12_markOwn_0 : decode cX12_markOwn 0 = .ok (.aload_n 0, 1) := by decide +kernel
theorem dX12_markOwn_1 : decode cX12_markOwn 1 = .ok (.getfield 39, 3) := by decide +kernel
theorem dX12_markOwn_4 : decode cX12_markOwn 4 = .ok (.iload_n 1, 1) := by decide +kernel
theorem dX12_markOwn_5 : decode cX12_markOwn 5 = .ok (.iaload, 1) := by decide +kernel
theorem dX12_markOwn_6 : decode cX12_markOwn 6 = .ok (.istore_n 2, 1) := by decide +kernel
theorem dX12_markOwn_7 : decode cX12_markOwn 7 = .ok (.iload_n 2, 1) := by decide +kernel
theorem dX12_markOwn_8 : decode cX12_markOwn 8 = .ok (.ifCond .ne 7, 3) := by decide +kernel
theorem dX12_markOwn_11 : decode cX12_markOwn 11 = .ok (.iconst 0, 1) := by decide +kernel
theorem dX12_markOwn_12 : decode cX12_markOwn 12 = .ok (.goto 33, 3) := by decide +kernel
theorem dX12_markOwn_15 : decode cX12_markOwn 15 = .ok (.iload_n 2, 1) := by decide +kernel
theorem dX12_markOwn_16 : decode cX12_markOwn 16 = .ok (.iconst 1, 1) := by decide +kernel
theorem dX12_markOwn_17 : decode cX12_markOwn 17 = .ok (.if_icmp .eq 13, 3) := by decide +kernel
theorem dX12_markOwn_20 : decode cX12_markOwn 20 = .ok (.iload_n 2, 1) := by decide +kernel
theorem dX12_markOwn_21 : decode cX12_markOwn 21 = .ok (.iconst 4, 1) := by decide +kernel
theorem dX12_markOwn_22 : decode cX12_markOwn 22 = .ok (.if_icmp .eq 8, 3) := by decide +kernel
theorem dX12_markOwn_25 : decode cX12_markOwn 25 = .ok (.iload_n 2, 1) := by decide +kernel
theorem dX12_markOwn_26 : decode cX12_markOwn 26 = .ok (.iconst 5, 1) := by decide +kernel
theorem dX12_markOwn_27 : decode cX12_markOwn 27 = .ok (.if_icmp .ne 12, 3) := by decide +kernel
theorem dX12_markOwn_30 : decode cX12_markOwn 30 = .ok (.aload_n 0, 1) := by decide +kernel
theorem dX12_markOwn_31 : decode cX12_markOwn 31 = .ok (.getfield 45, 3) := by decide +kernel
theorem dX12_markOwn_34 : decode cX12_markOwn 34 = .ok (.iload_n 1, 1) := by decide +kernel
theorem dX12_markOwn_35 : decode cX12_markOwn 35 = .ok (.iaload, 1) := by decide +kernel
theorem dX12_markOwn_36 : decode cX12_markOwn 36 = .ok (.goto 9, 3) := by decide +kernel
theorem dX12_markOwn_39 : decode cX12_markOwn 39 = .ok (.aload_n 0, 1) := by decide +kernel
theorem dX12_markOwn_40 : decode cX12_markOwn 40 = .ok (.getfield 48, 3) := by decide +kernel
theorem dX12_markOwn_43 : decode cX12_markOwn 43 = .ok (.iload_n 1, 1) := by decide +kernel
theorem dX12_markOwn_44 : decode cX12_markOwn 44 = .ok (.iaload, 1) := by decide +kernel
theorem dX12_markOwn_45 : decode cX12_markOwn 45 = .ok (.ireturn, 1) := by decide +kernel
theorem dX12_mark_0 : decode cX12_mark 0 = .ok (.aload_n 0, 1) := by decide +kernel
theorem dX12_mark_1 : decode cX12_mark 1 = .ok (.iload_n 1, 1) := by decide +kernel
theorem dX12_mark_2 : decode cX12_mark 2 = .ok (.invokevirtual 236, 3) := by decide +kernel
theorem dX12_mark_5 : decode cX12_mark 5 = .ok (.ifCond .eq 13, 3) := by decide +kernel
theorem dX12_mark_8 : decode cX12_mark 8 = .ok (.iload_n 2, 1) := by decide +kernel
theorem dX12_mark_9 : decode cX12_mark 9 = .ok (.iconst 1, 1) := by decide +kernel
theorem dX12_mark_10 : decode cX12_mark 10 = .ok (.bipush 6, 2) := by decide +kernel
theorem dX12_mark_12 : decode cX12_mark 12 = .ok (.invokestatic 168, 3) := by decide +kernel
theorem dX12_mark_15 : decode cX12_mark 15 = .ok (.ifCond .ne 5, 3) := by decide +kernel
theorem dX12_mark_18 : decode cX12_mark 18 = .ok (.iconst (-1), 1) := by decide +kernel
theorem dX12_mark_19 : decode cX12_mark 19 = .ok (.ireturn, 1) := by decide +kernel
theorem dX12_mark_20 : decode cX12_mark 20 = .ok (.iload_n 2, 1) := by decide +kernel
theorem dX12_mark_21 : decode cX12_mark 21 = .ok (.iconst 1, 1) := by decide +kernel
theorem dX12_mark_22 : decode cX12_mark 22 = .ok (.if_icmp .ne 20, 3) := by decide +kernel
theorem dX12_mark_25 : decode cX12_mark 25 = .ok (.aload_n 0, 1) := by decide +kernel
theorem dX12_mark_26 : decode cX12_mark 26 = .ok (.getfield 39, 3) := by decide +kernel
theorem dX12_mark_29 : decode cX12_mark 29 = .ok (.iload_n 1, 1) := by decide +kernel
theorem dX12_mark_30 : decode cX12_mark 30 = .ok (.iaload, 1) := by decide +kernel
theorem dX12_mark_31 : decode cX12_mark 31 = .ok (.iconst 2, 1) := by decide +kernel
theorem dX12_mark_32 : decode cX12_mark 32 = .ok (.if_icmp .ne 10, 3) := by decide +kernel
theorem dX12_mark_35 : decode cX12_mark 35 = .ok (.aload_n 0, 1) := by decide +kernel
theorem dX12_mark_36 : decode cX12_mark 36 = .ok (.getfield 45, 3) := by decide +kernel
theorem dX12_mark_39 : decode cX12_mark 39 = .ok (.iload_n 1, 1) := by decide +kernel
theorem dX12_mark_40 : decode cX12_mark 40 = .ok (.iaload, 1) := by decide +kernel
theorem dX12_mark_41 : decode cX12_mark 41 = .ok (.ireturn, 1) := by decide +kernel
theorem dX12_mark_42 : decode cX12_mark 42 = .ok (.aload_n 0, 1) := by decide +kernel
theorem dX12_mark_43 : decode cX12_mark 43 = .ok (.getfield 39, 3) := by decide +kernel
theorem dX12_mark_46 : decode cX12_mark 46 = .ok (.iload_n 1, 1) := by decide +kernel
theorem dX12_mark_47 : decode cX12_mark 47 = .ok (.iaload, 1) := by decide +kernel
theorem dX12_mark_48 : decode cX12_mark 48 = .ok (.iload_n 2, 1) := by decide +kernel
theorem dX12_mark_49 : decode cX12_mark 49 = .ok (.if_icmp .ne 11, 3) := by decide +kernel
theorem dX12_mark_52 : decode cX12_mark 52 = .ok (.aload_n 0, 1) := by decide +kernel
theorem dX12_mark_53 : decode cX12_mark 53 = .ok (.iload_n 1, 1) := by decide +kernel
theorem dX12_mark_54 : decode cX12_mark 54 = .ok (.invokevirtual 242, 3) := by decide +kernel
theorem dX12_mark_57 : decode cX12_mark 57 = .ok (.goto 8, 3) := by decide +kernel
theorem dX12_mark_60 : decode cX12_mark 60 = .ok (.aload_n 0, 1) := by decide +kernel
theorem dX12_mark_61 : decode cX12_mark 61 = .ok (.iconst 3, 1) := by decide +kernel
theorem dX12_mark_62 : decode cX12_mark 62 = .ok (.invokevirtual 182, 3) := by decide +kernel
theorem dX12_mark_65 : decode cX12_mark 65 = .ok (.ireturn, 1) := by decide +kernel
theorem dX12_hasOf_0 : decode cX12_hasOf 0 = .ok (.iconst 0, 1) := by decide +kernel
theorem dX12_hasOf_1 : decode cX12_hasOf 1 = .ok (.istore_n 2, 1) := by decide +kernel
theorem dX12_hasOf_2 : decode cX12_hasOf 2 = .ok (.iconst 0, 1) := by decide +kernel
theorem dX12_hasOf_3 : decode cX12_hasOf 3 = .ok (.istore_n 3, 1) := by decide +kernel
theorem dX12_hasOf_4 : decode cX12_hasOf 4 = .ok (.iload_n 3, 1) := by decide +kernel
theorem dX12_hasOf_5 : decode cX12_hasOf 5 = .ok (.aload_n 0, 1) := by decide +kernel
theorem dX12_hasOf_6 : decode cX12_hasOf 6 = .ok (.getfield 206, 3) := by decide +kernel
theorem dX12_hasOf_9 : decode cX12_hasOf 9 = .ok (.if_icmp .ge 35, 3) := by decide +kernel
theorem dX12_hasOf_12 : decode cX12_hasOf 12 = .ok (.iload_n 2, 1) := by decide +kernel
theorem dX12_hasOf_13 : decode cX12_hasOf 13 = .ok (.aload_n 0, 1) := by decide +kernel
theorem dX12_hasOf_14 : decode cX12_hasOf 14 = .ok (.iload_n 3, 1) := by decide +kernel
theorem dX12_hasOf_15 : decode cX12_hasOf 15 = .ok (.invokevirtual 245, 3) := by decide +kernel
theorem dX12_hasOf_18 : decode cX12_hasOf 18 = .ok (.ifCond .eq 17, 3) := by decide +kernel
theorem dX12_hasOf_21 : decode cX12_hasOf 21 = .ok (.aload_n 0, 1) := by decide +kernel
theorem dX12_hasOf_22 : decode cX12_hasOf 22 = .ok (.getfield 45, 3) := by decide +kernel
theorem dX12_hasOf_25 : decode cX12_hasOf 25 = .ok (.iload_n 3, 1) := by decide +kernel
theorem dX12_hasOf_26 : decode cX12_hasOf 26 = .ok (.iaload, 1) := by decide +kernel
theorem dX12_hasOf_27 : decode cX12_hasOf 27 = .ok (.iload_n 1, 1) := by decide +kernel
theorem dX12_hasOf_28 : decode cX12_hasOf 28 = .ok (.if_icmp .ne 7, 3) := by decide +kernel
theorem dX12_hasOf_31 : decode cX12_hasOf 31 = .ok (.iconst 1, 1) := by decide +kernel
theorem dX12_hasOf_32 : decode cX12_hasOf 32 = .ok (.goto 4, 3) := by decide +kernel
theorem dX12_hasOf_35 : decode cX12_hasOf 35 = .ok (.iconst 0, 1) := by decide +kernel
theorem dX12_hasOf_36 : decode cX12_hasOf 36 = .ok (.iadd, 1) := by decide +kernel
theorem dX12_hasOf_37 : decode cX12_hasOf 37 = .ok (.istore_n 2, 1) := by decide +kernel
theorem dX12_hasOf_38 : decode cX12_hasOf 38 = .ok (.iinc 3 1, 3) := by decide +kernel
theorem dX12_hasOf_41 : decode cX12_hasOf 41 = .ok (.goto (-37), 3) := by decide +kernel
theorem dX12_hasOf_44 : decode cX12_hasOf 44 = .ok (.iload_n 2, 1) := by decide +kernel
theorem dX12_hasOf_45 : decode cX12_hasOf 45 = .ok (.ireturn, 1) := by decide +kernel
theorem dX12_has_0 : decode cX12_has 0 = .ok (.iload_n 1, 1) := by decide +kernel
theorem dX12_has_1 : decode cX12_has 1 = .ok (.invokestatic 248, 3) := by decide +kernel
theorem dX12_has_4 : decode cX12_has 4 = .ok (.ifCond .eq 11, 3) := by decide +kernel
theorem dX12_has_7 : decode cX12_has 7 = .ok (.aload_n 0, 1) := by decide +kernel
theorem dX12_has_8 : decode cX12_has 8 = .ok (.iload_n 1, 1) := by decide +kernel
theorem dX12_has_9 : decode cX12_has 9 = .ok (.invokevirtual 251, 3) := by decide +kernel
theorem dX12_has_12 : decode cX12_has 12 = .ok (.goto 4, 3) := by decide +kernel
theorem dX12_has_15 : decode cX12_has 15 = .ok (.iconst (-1), 1) := by decide +kernel
theorem dX12_has_16 : decode cX12_has 16 = .ok (.ireturn, 1) := by decide +kernel
theorem dX12_keep_0 : decode cX12_keep 0 = .ok (.aload_n 0, 1) := by decide +kernel
theorem dX12_keep_1 : decode cX12_keep 1 = .ok (.iload_n 1, 1) := by decide +kernel
theorem dX12_keep_2 : decode cX12_keep 2 = .ok (.invokevirtual 236, 3) := by decide +kernel
theorem dX12_keep_5 : decode cX12_keep 5 = .ok (.ifCond .ne 5, 3) := by decide +kernel
theorem dX12_keep_8 : decode cX12_keep 8 = .ok (.iconst (-1), 1) := by decide +kernel
theorem dX12_keep_9 : decode cX12_keep 9 = .ok (.ireturn, 1) := by decide +kernel
theorem dX12_keep_10 : decode cX12_keep 10 = .ok (.aload_n 0, 1) := by decide +kernel
theorem dX12_keep_11 : decode cX12_keep 11 = .ok (.getfield 39, 3) := by decide +kernel
theorem dX12_keep_14 : decode cX12_keep 14 = .ok (.iload_n 1, 1) := by decide +kernel
theorem dX12_keep_15 : decode cX12_keep 15 = .ok (.iaload, 1) := by decide +kernel
theorem dX12_keep_16 : decode cX12_keep 16 = .ok (.iconst 1, 1) := by decide +kernel
theorem dX12_keep_17 : decode cX12_keep 17 = .ok (.if_icmp .eq 6, 3) := by decide +kernel
theorem dX12_keep_20 : decode cX12_keep 20 = .ok (.bipush (-4), 2) := by decide +kernel
theorem dX12_keep_22 : decode cX12_keep 22 = .ok (.ireturn, 1) := by decide +kernel
theorem dX12_keep_23 : decode cX12_keep 23 = .ok (.aload_n 0, 1) := by decide +kernel
theorem dX12_keep_24 : decode cX12_keep 24 = .ok (.getfield 39, 3) := by decide +kernel
theorem dX12_keep_27 : decode cX12_keep 27 = .ok (.iload_n 1, 1) := by decide +kernel
theorem dX12_keep_28 : decode cX12_keep 28 = .ok (.iconst 2, 1) := by decide +kernel
theorem dX12_keep_29 : decode cX12_keep 29 = .ok (.iastore, 1) := by decide +kernel
theorem dX12_keep_30 : decode cX12_keep 30 = .ok (.aload_n 0, 1) := by decide +kernel
theorem dX12_keep_31 : decode cX12_keep 31 = .ok (.getfield 48, 3) := by decide +kernel
theorem dX12_keep_34 : decode cX12_keep 34 = .ok (.iload_n 1, 1) := by decide +kernel
theorem dX12_keep_35 : decode cX12_keep 35 = .ok (.aload_n 0, 1) := by decide +kernel
theorem dX12_keep_36 : decode cX12_keep 36 = .ok (.getfield 212, 3) := by decide +kernel
theorem dX12_keep_39 : decode cX12_keep 39 = .ok (.sipush 1440, 3) := by decide +kernel
theorem dX12_keep_42 : decode cX12_keep 42 = .ok (.idiv, 1) := by decide +kernel
theorem dX12_keep_43 : decode cX12_keep 43 = .ok (.aload_n 0, 1) := by decide +kernel
theorem dX12_keep_44 : decode cX12_keep 44 = .ok (.iconst 1, 1) := by decide +kernel
theorem dX12_keep_45 : decode cX12_keep 45 = .ok (.invokevirtual 254, 3) := by decide +kernel
theorem dX12_keep_48 : decode cX12_keep 48 = .ok (.iadd, 1) := by decide +kernel
theorem dX12_keep_49 : decode cX12_keep 49 = .ok (.iastore, 1) := by decide +kernel
theorem dX12_keep_50 : decode cX12_keep 50 = .ok (.aload_n 0, 1) := by decide +kernel
theorem dX12_keep_51 : decode cX12_keep 51 = .ok (.getfield 48, 3) := by decide +kernel
theorem dX12_keep_54 : decode cX12_keep 54 = .ok (.iload_n 1, 1) := by decide +kernel
theorem dX12_keep_55 : decode cX12_keep 55 = .ok (.iaload, 1) := by decide +kernel
theorem dX12_keep_56 : decode cX12_keep 56 = .ok (.ireturn, 1) := by decide +kernel
theorem dX12_back_0 : decode cX12_back 0 = .ok (.aload_n 0, 1) := by decide +kernel
theorem dX12_back_1 : decode cX12_back 1 = .ok (.iload_n 1, 1) := by decide +kernel
theorem dX12_back_2 : decode cX12_back 2 = .ok (.invokevirtual 236, 3) := by decide +kernel
theorem dX12_back_5 : decode cX12_back 5 = .ok (.ifCond .eq 10, 3) := by decide +kernel
theorem dX12_back_8 : decode cX12_back 8 = .ok (.iload_n 2, 1) := by decide +kernel
theorem dX12_back_9 : decode cX12_back 9 = .ok (.invokestatic 230, 3) := by decide +kernel
theorem dX12_back_12 : decode cX12_back 12 = .ok (.ifCond .ne 5, 3) := by decide +kernel
theorem dX12_back_15 : decode cX12_back 15 = .ok (.iconst (-1), 1) := by decide +kernel
theorem dX12_back_16 : decode cX12_back 16 = .ok (.ireturn, 1) := by decide +kernel
theorem dX12_back_17 : decode cX12_back 17 = .ok (.aload_n 0, 1) := by decide +kernel
theorem dX12_back_18 : decode cX12_back 18 = .ok (.iload_n 1, 1) := by decide +kernel
theorem dX12_back_19 : decode cX12_back 19 = .ok (.invokevirtual 245, 3) := by decide +kernel
theorem dX12_back_22 : decode cX12_back 22 = .ok (.ifCond .ne 6, 3) := by decide +kernel
theorem dX12_back_25 : decode cX12_back 25 = .ok (.bipush (-4), 2) := by decide +kernel
theorem dX12_back_27 : decode cX12_back 27 = .ok (.ireturn, 1) := by decide +kernel
theorem dX12_back_28 : decode cX12_back 28 = .ok (.aload_n 0, 1) := by decide +kernel
theorem dX12_back_29 : decode cX12_back 29 = .ok (.iload_n 1, 1) := by decide +kernel
theorem dX12_back_30 : decode cX12_back 30 = .ok (.aload_n 0, 1) := by decide +kernel
theorem dX12_back_31 : decode cX12_back 31 = .ok (.getfield 212, 3) := by decide +kernel
theorem dX12_back_34 : decode cX12_back 34 = .ok (.invokevirtual 223, 3) := by decide +kernel
theorem dX12_back_37 : decode cX12_back 37 = .ok (.aload_n 0, 1) := by decide +kernel
theorem dX12_back_38 : decode cX12_back 38 = .ok (.iload_n 1, 1) := by decide +kernel
theorem dX12_back_39 : decode cX12_back 39 = .ok (.invokevirtual 219, 3) := by decide +kernel
theorem dX12_back_42 : decode cX12_back 42 = .ok (.iload_n 2, 1) := by decide +kernel
theorem dX12_back_43 : decode cX12_back 43 = .ok (.aload_n 0, 1) := by decide +kernel
theorem dX12_back_44 : decode cX12_back 44 = .ok (.getfield 32, 3) := by decide +kernel
theorem dX12_back_47 : decode cX12_back 47 = .ok (.iload_n 1, 1) := by decide +kernel
theorem dX12_back_48 : decode cX12_back 48 = .ok (.iaload, 1) := by decide +kernel
theorem dX12_back_49 : decode cX12_back 49 = .ok (.if_icmp .eq 19, 3) := by decide +kernel
theorem dX12_back_52 : decode cX12_back 52 = .ok (.aload_n 0, 1) := by decide +kernel
theorem dX12_back_53 : decode cX12_back 53 = .ok (.getfield 39, 3) := by decide +kernel
theorem dX12_back_56 : decode cX12_back 56 = .ok (.iload_n 1, 1) := by decide +kernel
theorem dX12_back_57 : decode cX12_back 57 = .ok (.iconst 4, 1) := by decide +kernel
theorem dX12_back_58 : decode cX12_back 58 = .ok (.iastore, 1) := by decide +kernel
theorem dX12_back_59 : decode cX12_back 59 = .ok (.aload_n 0, 1) := by decide +kernel
theorem dX12_back_60 : decode cX12_back 60 = .ok (.getfield 45, 3) := by decide +kernel
theorem dX12_back_63 : decode cX12_back 63 = .ok (.iload_n 1, 1) := by decide +kernel
theorem dX12_back_64 : decode cX12_back 64 = .ok (.iload_n 2, 1) := by decide +kernel
theorem dX12_back_65 : decode cX12_back 65 = .ok (.iastore, 1) := by decide +kernel
theorem dX12_back_66 : decode cX12_back 66 = .ok (.iconst 0, 1) := by decide +kernel
theorem dX12_back_67 : decode cX12_back 67 = .ok (.ireturn, 1) := by decide +kernel
theorem dX12_back_68 : decode cX12_back 68 = .ok (.iconst 1, 1) := by decide +kernel
theorem dX12_back_69 : decode cX12_back 69 = .ok (.ireturn, 1) := by decide +kernel
theorem dX12_bind_0 : decode cX12_bind 0 = .ok (.aload_n 0, 1) := by decide +kernel
theorem dX12_bind_1 : decode cX12_bind 1 = .ok (.iload_n 1, 1) := by decide +kernel
theorem dX12_bind_2 : decode cX12_bind 2 = .ok (.invokevirtual 236, 3) := by decide +kernel
theorem dX12_bind_5 : decode cX12_bind 5 = .ok (.ifCond .eq 18, 3) := by decide +kernel
theorem dX12_bind_8 : decode cX12_bind 8 = .ok (.iload_n 2, 1) := by decide +kernel
theorem dX12_bind_9 : decode cX12_bind 9 = .ok (.aload_n 0, 1) := by decide +kernel
theorem dX12_bind_10 : decode cX12_bind 10 = .ok (.getfield 212, 3) := by decide +kernel
theorem dX12_bind_13 : decode cX12_bind 13 = .ok (.iconst 1, 1) := by decide +kernel
theorem dX12_bind_14 : decode cX12_bind 14 = .ok (.iadd, 1) := by decide +kernel
theorem dX12_bind_15 : decode cX12_bind 15 = .ok (.ldc 205, 2) := by decide +kernel
theorem dX12_bind_17 : decode cX12_bind 17 = .ok (.invokestatic 168, 3) := by decide +kernel
theorem dX12_bind_20 : decode cX12_bind 20 = .ok (.ifCond .ne 5, 3) := by decide +kernel
theorem dX12_bind_23 : decode cX12_bind 23 = .ok (.iconst (-1), 1) := by decide +kernel
theorem dX12_bind_24 : decode cX12_bind 24 = .ok (.ireturn, 1) := by decide +kernel
theorem dX12_bind_25 : decode cX12_bind 25 = .ok (.aload_n 0, 1) := by decide +kernel
theorem dX12_bind_26 : decode cX12_bind 26 = .ok (.getfield 39, 3) := by decide +kernel
theorem dX12_bind_29 : decode cX12_bind 29 = .ok (.iload_n 1, 1) := by decide +kernel
theorem dX12_bind_30 : decode cX12_bind 30 = .ok (.iaload, 1) := by decide +kernel
theorem dX12_bind_31 : decode cX12_bind 31 = .ok (.ifCond .eq 6, 3) := by decide +kernel
theorem dX12_bind_34 : decode cX12_bind 34 = .ok (.bipush (-4), 2) := by decide +kernel
theorem dX12_bind_36 : decode cX12_bind 36 = .ok (.ireturn, 1) := by decide +kernel
theorem dX12_bind_37 : decode cX12_bind 37 = .ok (.aload_n 0, 1) := by decide +kernel
theorem dX12_bind_38 : decode cX12_bind 38 = .ok (.getfield 39, 3) := by decide +kernel
theorem dX12_bind_41 : decode cX12_bind 41 = .ok (.iload_n 1, 1) := by decide +kernel
theorem dX12_bind_42 : decode cX12_bind 42 = .ok (.iconst 3, 1) := by decide +kernel
theorem dX12_bind_43 : decode cX12_bind 43 = .ok (.iastore, 1) := by decide +kernel
theorem dX12_bind_44 : decode cX12_bind 44 = .ok (.aload_n 0, 1) := by decide +kernel
theorem dX12_bind_45 : decode cX12_bind 45 = .ok (.getfield 42, 3) := by decide +kernel
theorem dX12_bind_48 : decode cX12_bind 48 = .ok (.iload_n 1, 1) := by decide +kernel
theorem dX12_bind_49 : decode cX12_bind 49 = .ok (.iconst 2, 1) := by decide +kernel
theorem dX12_bind_50 : decode cX12_bind 50 = .ok (.iastore, 1) := by decide +kernel
theorem dX12_bind_51 : decode cX12_bind 51 = .ok (.aload_n 0, 1) := by decide +kernel
theorem dX12_bind_52 : decode cX12_bind 52 = .ok (.getfield 48, 3) := by decide +kernel
theorem dX12_bind_55 : decode cX12_bind 55 = .ok (.iload_n 1, 1) := by decide +kernel
theorem dX12_bind_56 : decode cX12_bind 56 = .ok (.iload_n 2, 1) := by decide +kernel
theorem dX12_bind_57 : decode cX12_bind 57 = .ok (.iastore, 1) := by decide +kernel
theorem dX12_bind_58 : decode cX12_bind 58 = .ok (.iconst 1, 1) := by decide +kernel
theorem dX12_bind_59 : decode cX12_bind 59 = .ok (.ireturn, 1) := by decide +kernel
theorem dX12_lose_0 : decode cX12_lose 0 = .ok (.aload_n 0, 1) := by decide +kernel
theorem dX12_lose_1 : decode cX12_lose 1 = .ok (.iload_n 1, 1) := by decide +kernel
theorem dX12_lose_2 : decode cX12_lose 2 = .ok (.invokevirtual 236, 3) := by decide +kernel
theorem dX12_lose_5 : decode cX12_lose 5 = .ok (.ifCond .ne 5, 3) := by decide +kernel
theorem dX12_lose_8 : decode cX12_lose 8 = .ok (.iconst (-1), 1) := by decide +kernel
theorem dX12_lose_9 : decode cX12_lose 9 = .ok (.ireturn, 1) := by decide +kernel
theorem dX12_lose_10 : decode cX12_lose 10 = .ok (.aload_n 0, 1) := by decide +kernel
theorem dX12_lose_11 : decode cX12_lose 11 = .ok (.getfield 39, 3) := by decide +kernel
theorem dX12_lose_14 : decode cX12_lose 14 = .ok (.iload_n 1, 1) := by decide +kernel
theorem dX12_lose_15 : decode cX12_lose 15 = .ok (.iaload, 1) := by decide +kernel
theorem dX12_lose_16 : decode cX12_lose 16 = .ok (.ifCond .eq 24, 3) := by decide +kernel
theorem dX12_lose_19 : decode cX12_lose 19 = .ok (.aload_n 0, 1) := by decide +kernel
theorem dX12_lose_20 : decode cX12_lose 20 = .ok (.getfield 39, 3) := by decide +kernel
theorem dX12_lose_23 : decode cX12_lose 23 = .ok (.iload_n 1, 1) := by decide +kernel
theorem dX12_lose_24 : decode cX12_lose 24 = .ok (.iaload, 1) := by decide +kernel
theorem dX12_lose_25 : decode cX12_lose 25 = .ok (.iconst 4, 1) := by decide +kernel
theorem dX12_lose_26 : decode cX12_lose 26 = .ok (.if_icmp .eq 14, 3) := by decide +kernel
theorem dX12_lose_29 : decode cX12_lose 29 = .ok (.aload_n 0, 1) := by decide +kernel
theorem dX12_lose_30 : decode cX12_lose 30 = .ok (.iload_n 1, 1) := by decide +kernel
theorem dX12_lose_31 : decode cX12_lose 31 = .ok (.invokevirtual 245, 3) := by decide +kernel
theorem dX12_lose_34 : decode cX12_lose 34 = .ok (.ifCond .ne 6, 3) := by decide +kernel
theorem dX12_lose_37 : decode cX12_lose 37 = .ok (.bipush (-4), 2) := by decide +kernel
theorem dX12_lose_39 : decode cX12_lose 39 = .ok (.ireturn, 1) := by decide +kernel
theorem dX12_lose_40 : decode cX12_lose 40 = .ok (.aload_n 0, 1) := by decide +kernel
theorem dX12_lose_41 : decode cX12_lose 41 = .ok (.iload_n 1, 1) := by decide +kernel
theorem dX12_lose_42 : decode cX12_lose 42 = .ok (.aload_n 0, 1) := by decide +kernel
theorem dX12_lose_43 : decode cX12_lose 43 = .ok (.getfield 212, 3) := by decide +kernel
theorem dX12_lose_46 : decode cX12_lose 46 = .ok (.invokevirtual 223, 3) := by decide +kernel
theorem dX12_lose_49 : decode cX12_lose 49 = .ok (.aload_n 0, 1) := by decide +kernel
theorem dX12_lose_50 : decode cX12_lose 50 = .ok (.getfield 39, 3) := by decide +kernel
theorem dX12_lose_53 : decode cX12_lose 53 = .ok (.iload_n 1, 1) := by decide +kernel
theorem dX12_lose_54 : decode cX12_lose 54 = .ok (.bipush 6, 2) := by decide +kernel
theorem dX12_lose_56 : decode cX12_lose 56 = .ok (.iastore, 1) := by decide +kernel
theorem dX12_lose_57 : decode cX12_lose 57 = .ok (.aload_n 0, 1) := by decide +kernel
theorem dX12_lose_58 : decode cX12_lose 58 = .ok (.getfield 48, 3) := by decide +kernel
theorem dX12_lose_61 : decode cX12_lose 61 = .ok (.iload_n 1, 1) := by decide +kernel
theorem dX12_lose_62 : decode cX12_lose 62 = .ok (.aload_n 0, 1) := by decide +kernel
theorem dX12_lose_63 : decode cX12_lose 63 = .ok (.getfield 212, 3) := by decide +kernel
theorem dX12_lose_66 : decode cX12_lose 66 = .ok (.iastore, 1) := by decide +kernel
theorem dX12_lose_67 : decode cX12_lose 67 = .ok (.iconst 1, 1) := by decide +kernel
theorem dX12_lose_68 : decode cX12_lose 68 = .ok (.ireturn, 1) := by decide +kernel
theorem dX12_find_0 : decode cX12_find 0 = .ok (.aload_n 0, 1) := by decide +kernel
theorem dX12_find_1 : decode cX12_find 1 = .ok (.iload_n 1, 1) := by decide +kernel
theorem dX12_find_2 : decode cX12_find 2 = .ok (.invokevirtual 236, 3) := by decide +kernel
theorem dX12_find_5 : decode cX12_find 5 = .ok (.ifCond .ne 5, 3) := by decide +kernel
theorem dX12_find_8 : decode cX12_find 8 = .ok (.iconst (-1), 1) := by decide +kernel
theorem dX12_find_9 : decode cX12_find 9 = .ok (.ireturn, 1) := by decide +kernel
theorem dX12_find_10 : decode cX12_find 10 = .ok (.aload_n 0, 1) := by decide +kernel
theorem dX12_find_11 : decode cX12_find 11 = .ok (.getfield 39, 3) := by decide +kernel
theorem dX12_find_14 : decode cX12_find 14 = .ok (.iload_n 1, 1) := by decide +kernel
theorem dX12_find_15 : decode cX12_find 15 = .ok (.iaload, 1) := by decide +kernel
theorem dX12_find_16 : decode cX12_find 16 = .ok (.bipush 6, 2) := by decide +kernel
theorem dX12_find_18 : decode cX12_find 18 = .ok (.if_icmp .eq 6, 3) := by decide +kernel
theorem dX12_find_21 : decode cX12_find 21 = .ok (.bipush (-4), 2) := by decide +kernel
theorem dX12_find_23 : decode cX12_find 23 = .ok (.ireturn, 1) := by decide +kernel
theorem dX12_find_24 : decode cX12_find 24 = .ok (.aload_n 0, 1) := by decide +kernel
theorem dX12_find_25 : decode cX12_find 25 = .ok (.iload_n 1, 1) := by decide +kernel
theorem dX12_find_26 : decode cX12_find 26 = .ok (.invokevirtual 219, 3) := by decide +kernel
theorem dX12_find_29 : decode cX12_find 29 = .ok (.aload_n 0, 1) := by decide +kernel
theorem dX12_find_30 : decode cX12_find 30 = .ok (.getfield 212, 3) := by decide +kernel
theorem dX12_find_33 : decode cX12_find 33 = .ok (.aload_n 0, 1) := by decide +kernel
theorem dX12_find_34 : decode cX12_find 34 = .ok (.getfield 48, 3) := by decide +kernel
theorem dX12_find_37 : decode cX12_find 37 = .ok (.iload_n 1, 1) := by decide +kernel
theorem dX12_find_38 : decode cX12_find 38 = .ok (.iaload, 1) := by decide +kernel
theorem dX12_find_39 : decode cX12_find 39 = .ok (.isub, 1) := by decide +kernel
theorem dX12_find_40 : decode cX12_find 40 = .ok (.ireturn, 1) := by decide +kernel
theorem dX12_letterOf_0 : decode cX12_letterOf 0 = .ok (.iload_n 0, 1) := by decide +kernel
theorem dX12_letterOf_1 : decode cX12_letterOf 1 = .ok (.bipush 81, 2) := by decide +kernel
theorem dX12_letterOf_3 : decode cX12_letterOf 3 = .ok (.if_icmp .ne 7, 3) := by decide +kernel
theorem dX12_letterOf_6 : decode cX12_letterOf 6 = .ok (.iconst 0, 1) := by decide +kernel
theorem dX12_letterOf_7 : decode cX12_letterOf 7 = .ok (.goto 35, 3) := by decide +kernel
theorem dX12_letterOf_10 : decode cX12_letterOf 10 = .ok (.iload_n 0, 1) := by decide +kernel
theorem dX12_letterOf_11 : decode cX12_letterOf 11 = .ok (.bipush 75, 2) := by decide +kernel
theorem dX12_letterOf_13 : decode cX12_letterOf 13 = .ok (.if_icmp .ne 7, 3) := by decide +kernel
theorem dX12_letterOf_16 : decode cX12_letterOf 16 = .ok (.iconst 1, 1) := by decide +kernel
theorem dX12_letterOf_17 : decode cX12_letterOf 17 = .ok (.goto 25, 3) := by decide +kernel
theorem dX12_letterOf_20 : decode cX12_letterOf 20 = .ok (.iload_n 0, 1) := by decide +kernel
theorem dX12_letterOf_21 : decode cX12_letterOf 21 = .ok (.bipush 87, 2) := by decide +kernel
theorem dX12_letterOf_23 : decode cX12_letterOf 23 = .ok (.if_icmp .ne 7, 3) := by decide +kernel
theorem dX12_letterOf_26 : decode cX12_letterOf 26 = .ok (.iconst 2, 1) := by decide +kernel
theorem dX12_letterOf_27 : decode cX12_letterOf 27 = .ok (.goto 15, 3) := by decide +kernel
theorem dX12_letterOf_30 : decode cX12_letterOf 30 = .ok (.iload_n 0, 1) := by decide +kernel
theorem dX12_letterOf_31 : decode cX12_letterOf 31 = .ok (.bipush 69, 2) := by decide +kernel
theorem dX12_letterOf_33 : decode cX12_letterOf 33 = .ok (.if_icmp .ne 7, 3) := by decide +kernel
theorem dX12_letterOf_36 : decode cX12_letterOf 36 = .ok (.iconst 3, 1) := by decide +kernel
theorem dX12_letterOf_37 : decode cX12_letterOf 37 = .ok (.goto 5, 3) := by decide +kernel
theorem dX12_letterOf_40 : decode cX12_letterOf 40 = .ok (.bipush (-9), 2) := by decide +kernel
theorem dX12_letterOf_42 : decode cX12_letterOf 42 = .ok (.ireturn, 1) := by decide +kernel
theorem dX12_faultOf_0 : decode cX12_faultOf 0 = .ok (.iconst 0, 1) := by decide +kernel
theorem dX12_faultOf_1 : decode cX12_faultOf 1 = .ok (.istore_n 2, 1) := by decide +kernel
theorem dX12_faultOf_2 : decode cX12_faultOf 2 = .ok (.iload_n 2, 1) := by decide +kernel
theorem dX12_faultOf_3 : decode cX12_faultOf 3 = .ok (.iconst 4, 1) := by decide +kernel
theorem dX12_faultOf_4 : decode cX12_faultOf 4 = .ok (.if_icmp .ge 17, 3) := by decide +kernel
theorem dX12_faultOf_7 : decode cX12_faultOf 7 = .ok (.aload_n 0, 1) := by decide +kernel
theorem dX12_faultOf_8 : decode cX12_faultOf 8 = .ok (.getfield 75, 3) := by decide +kernel
theorem dX12_faultOf_11 : decode cX12_faultOf 11 = .ok (.iload_n 2, 1) := by decide +kernel
theorem dX12_faultOf_12 : decode cX12_faultOf 12 = .ok (.bipush (-9), 2) := by decide +kernel
theorem dX12_faultOf_14 : decode cX12_faultOf 14 = .ok (.iastore, 1) := by decide +kernel
theorem dX12_faultOf_15 : decode cX12_faultOf 15 = .ok (.iinc 2 1, 3) := by decide +kernel
theorem dX12_faultOf_18 : decode cX12_faultOf 18 = .ok (.goto (-16), 3) := by decide +kernel
theorem dX12_faultOf_21 : decode cX12_faultOf 21 = .ok (.iconst 0, 1) := by decide +kernel
theorem dX12_faultOf_22 : decode cX12_faultOf 22 = .ok (.istore_n 2, 1) := by decide +kernel
theorem dX12_faultOf_23 : decode cX12_faultOf 23 = .ok (.iload_n 2, 1) := by decide +kernel
theorem dX12_faultOf_24 : decode cX12_faultOf 24 = .ok (.aload_n 0, 1) := by decide +kernel
theorem dX12_faultOf_25 : decode cX12_faultOf 25 = .ok (.getfield 22, 3) := by decide +kernel
theorem dX12_faultOf_28 : decode cX12_faultOf 28 = .ok (.iload_n 1, 1) := by decide +kernel
theorem dX12_faultOf_29 : decode cX12_faultOf 29 = .ok (.iaload, 1) := by decide +kernel
theorem dX12_faultOf_30 : decode cX12_faultOf 30 = .ok (.if_icmp .ge 72, 3) := by decide +kernel
theorem dX12_faultOf_33 : decode cX12_faultOf 33 = .ok (.aload_n 0, 1) := by decide +kernel
theorem dX12_faultOf_34 : decode cX12_faultOf 34 = .ok (.iload_n 1, 1) := by decide +kernel
theorem dX12_faultOf_35 : decode cX12_faultOf 35 = .ok (.iload_n 2, 1) := by decide +kernel
theorem dX12_faultOf_36 : decode cX12_faultOf 36 = .ok (.invokevirtual 202, 3) := by decide +kernel
theorem dX12_faultOf_39 : decode cX12_faultOf 39 = .ok (.bipush 32, 2) := by decide +kernel
theorem dX12_faultOf_41 : decode cX12_faultOf 41 = .ok (.if_icmp .ne 9, 3) := by decide +kernel
theorem dX12_faultOf_44 : decode cX12_faultOf 44 = .ok (.iinc 2 1, 3) := by decide +kernel
theorem dX12_faultOf_47 : decode cX12_faultOf 47 = .ok (.goto (-24), 3) := by decide +kernel
theorem dX12_faultOf_50 : decode cX12_faultOf 50 = .ok (.aload_n 0, 1) := by decide +kernel
theorem dX12_faultOf_51 : decode cX12_faultOf 51 = .ok (.iload_n 1, 1) := by decide +kernel
theorem dX12_faultOf_52 : decode cX12_faultOf 52 = .ok (.iload_n 2, 1) := by decide +kernel
theorem dX12_faultOf_53 : decode cX12_faultOf 53 = .ok (.invokevirtual 202, 3) := by decide +kernel
theorem dX12_faultOf_56 : decode cX12_faultOf 56 = .ok (.invokestatic 257, 3) := by decide +kernel
theorem dX12_faultOf_59 : decode cX12_faultOf 59 = .ok (.istore_n 3, 1) := by decide +kernel
theorem dX12_faultOf_60 : decode cX12_faultOf 60 = .ok (.iload_n 3, 1) := by decide +kernel
theorem dX12_faultOf_61 : decode cX12_faultOf 61 = .ok (.bipush (-9), 2) := by decide +kernel
theorem dX12_faultOf_63 : decode cX12_faultOf 63 = .ok (.if_icmp .ne 5, 3) := by decide +kernel
theorem dX12_faultOf_66 : decode cX12_faultOf 66 = .ok (.iload_n 2, 1) := by decide +kernel
theorem dX12_faultOf_67 : decode cX12_faultOf 67 = .ok (.ireturn, 1) := by decide +kernel
theorem dX12_faultOf_68 : decode cX12_faultOf 68 = .ok (.aload_n 0, 1) := by decide +kernel
theorem dX12_faultOf_69 : decode cX12_faultOf 69 = .ok (.iload_n 1, 1) := by decide +kernel
theorem dX12_faultOf_70 : decode cX12_faultOf 70 = .ok (.iload_n 2, 1) := by decide +kernel
theorem dX12_faultOf_71 : decode cX12_faultOf 71 = .ok (.iconst 1, 1) := by decide +kernel
theorem dX12_faultOf_72 : decode cX12_faultOf 72 = .ok (.iadd, 1) := by decide +kernel
theorem dX12_faultOf_73 : decode cX12_faultOf 73 = .ok (.iconst 2, 1) := by decide +kernel
theorem dX12_faultOf_74 : decode cX12_faultOf 74 = .ok (.invokevirtual 260, 3) := by decide +kernel
theorem dX12_faultOf_77 : decode cX12_faultOf 77 = .ok (.ifCond .ne 7, 3) := by decide +kernel
theorem dX12_faultOf_80 : decode cX12_faultOf 80 = .ok (.iload_n 2, 1) := by decide +kernel
theorem dX12_faultOf_81 : decode cX12_faultOf 81 = .ok (.iconst 1, 1) := by decide +kernel
theorem dX12_faultOf_82 : decode cX12_faultOf 82 = .ok (.iadd, 1) := by decide +kernel
theorem dX12_faultOf_83 : decode cX12_faultOf 83 = .ok (.ireturn, 1) := by decide +kernel
theorem dX12_faultOf_84 : decode cX12_faultOf 84 = .ok (.aload_n 0, 1) := by decide +kernel
theorem dX12_faultOf_85 : decode cX12_faultOf 85 = .ok (.getfield 75, 3) := by decide +kernel
theorem dX12_faultOf_88 : decode cX12_faultOf 88 = .ok (.iload_n 3, 1) := by decide +kernel
theorem dX12_faultOf_89 : decode cX12_faultOf 89 = .ok (.aload_n 0, 1) := by decide +kernel
theorem dX12_faultOf_90 : decode cX12_faultOf 90 = .ok (.getfield 196, 3) := by decide +kernel
theorem dX12_faultOf_93 : decode cX12_faultOf 93 = .ok (.iastore, 1) := by decide +kernel
theorem dX12_faultOf_94 : decode cX12_faultOf 94 = .ok (.aload_n 0, 1) := by decide +kernel
theorem dX12_faultOf_95 : decode cX12_faultOf 95 = .ok (.getfield 199, 3) := by decide +kernel
theorem dX12_faultOf_98 : decode cX12_faultOf 98 = .ok (.istore_n 2, 1) := by decide +kernel
theorem dX12_faultOf_99 : decode cX12_faultOf 99 = .ok (.goto (-76), 3) := by decide +kernel
theorem dX12_faultOf_102 : decode cX12_faultOf 102 = .ok (.bipush (-9), 2) := by decide +kernel
theorem dX12_faultOf_104 : decode cX12_faultOf 104 = .ok (.ireturn, 1) := by decide +kernel
theorem dX12_fault_0 : decode cX12_fault 0 = .ok (.iload_n 1, 1) := by decide +kernel
theorem dX12_fault_1 : decode cX12_fault 1 = .ok (.invokestatic 193, 3) := by decide +kernel
theorem dX12_fault_4 : decode cX12_fault 4 = .ok (.ifCond .ne 5, 3) := by decide +kernel
theorem dX12_fault_7 : decode cX12_fault 7 = .ok (.iconst (-1), 1) := by decide +kernel
theorem dX12_fault_8 : decode cX12_fault 8 = .ok (.ireturn, 1) := by decide +kernel
theorem dX12_fault_9 : decode cX12_fault 9 = .ok (.aload_n 0, 1) := by decide +kernel
theorem dX12_fault_10 : decode cX12_fault 10 = .ok (.getfield 22, 3) := by decide +kernel
theorem dX12_fault_13 : decode cX12_fault 13 = .ok (.iload_n 1, 1) := by decide +kernel
theorem dX12_fault_14 : decode cX12_fault 14 = .ok (.iaload, 1) := by decide +kernel
theorem dX12_fault_15 : decode cX12_fault 15 = .ok (.ifCond .ge 11, 3) := by decide +kernel
theorem dX12_fault_18 : decode cX12_fault 18 = .ok (.aload_n 0, 1) := by decide +kernel
theorem dX12_fault_19 : decode cX12_fault 19 = .ok (.iconst 1, 1) := by decide +kernel
theorem dX12_fault_20 : decode cX12_fault 20 = .ok (.invokevirtual 182, 3) := by decide +kernel
theorem dX12_fault_23 : decode cX12_fault 23 = .ok (.goto 8, 3) := by decide +kernel
theorem dX12_fault_26 : decode cX12_fault 26 = .ok (.aload_n 0, 1) := by decide +kernel
theorem dX12_fault_27 : decode cX12_fault 27 = .ok (.iload_n 1, 1) := by decide +kernel
theorem dX12_fault_28 : decode cX12_fault 28 = .ok (.invokevirtual 263, 3) := by decide +kernel
theorem dX12_fault_31 : decode cX12_fault 31 = .ok (.ireturn, 1) := by decide +kernel
theorem dX12_isDay_0 : decode cX12_isDay 0 = .ok (.iload_n 0, 1) := by decide +kernel
theorem dX12_isDay_1 : decode cX12_isDay 1 = .ok (.iconst 0, 1) := by decide +kernel
theorem dX12_isDay_2 : decode cX12_isDay 2 = .ok (.bipush 69, 2) := by decide +kernel
theorem dX12_isDay_4 : decode cX12_isDay 4 = .ok (.invokestatic 168, 3) := by decide +kernel
theorem dX12_isDay_7 : decode cX12_isDay 7 = .ok (.ireturn, 1) := by decide +kernel
theorem dX12_rule_0 : decode cX12_rule 0 = .ok (.iload_n 1, 1) := by decide +kernel
theorem dX12_rule_1 : decode cX12_rule 1 = .ok (.invokestatic 193, 3) := by decide +kernel
theorem dX12_rule_4 : decode cX12_rule 4 = .ok (.ifCond .eq 10, 3) := by decide +kernel
theorem dX12_rule_7 : decode cX12_rule 7 = .ok (.iload_n 2, 1) := by decide +kernel
theorem dX12_rule_8 : decode cX12_rule 8 = .ok (.invokestatic 266, 3) := by decide +kernel
theorem dX12_rule_11 : decode cX12_rule 11 = .ok (.ifCond .ne 5, 3) := by decide +kernel
theorem dX12_rule_14 : decode cX12_rule 14 = .ok (.iconst (-1), 1) := by decide +kernel
theorem dX12_rule_15 : decode cX12_rule 15 = .ok (.ireturn, 1) := by decide +kernel
theorem dX12_rule_16 : decode cX12_rule 16 = .ok (.aload_n 0, 1) := by decide +kernel
theorem dX12_rule_17 : decode cX12_rule 17 = .ok (.getfield 269, 3) := by decide +kernel
theorem dX12_rule_20 : decode cX12_rule 20 = .ok (.bipush 16, 2) := by decide +kernel
theorem dX12_rule_22 : decode cX12_rule 22 = .ok (.if_icmp .ne 6, 3) := by decide +kernel
theorem dX12_rule_25 : decode cX12_rule 25 = .ok (.bipush (-2), 2) := by decide +kernel
theorem dX12_rule_27 : decode cX12_rule 27 = .ok (.ireturn, 1) := by decide +kernel
theorem dX12_rule_28 : decode cX12_rule 28 = .ok (.aload_n 0, 1) := by decide +kernel
theorem dX12_rule_29 : decode cX12_rule 29 = .ok (.getfield 22, 3) := by decide +kernel
theorem dX12_rule_32 : decode cX12_rule 32 = .ok (.iload_n 1, 1) := by decide +kernel
theorem dX12_rule_33 : decode cX12_rule 33 = .ok (.iaload, 1) := by decide +kernel
theorem dX12_rule_34 : decode cX12_rule 34 = .ok (.ifCond .ge 9, 3) := by decide +kernel
theorem dX12_rule_37 : decode cX12_rule 37 = .ok (.aload_n 0, 1) := by decide +kernel
theorem dX12_rule_38 : decode cX12_rule 38 = .ok (.iconst 1, 1) := by decide +kernel
theorem dX12_rule_39 : decode cX12_rule 39 = .ok (.invokevirtual 182, 3) := by decide +kernel
theorem dX12_rule_42 : decode cX12_rule 42 = .ok (.ireturn, 1) := by decide +kernel
theorem dX12_rule_43 : decode cX12_rule 43 = .ok (.aload_n 0, 1) := by decide +kernel
theorem dX12_rule_44 : decode cX12_rule 44 = .ok (.iload_n 1, 1) := by decide +kernel
theorem dX12_rule_45 : decode cX12_rule 45 = .ok (.invokevirtual 263, 3) := by decide +kernel
theorem dX12_rule_48 : decode cX12_rule 48 = .ok (.bipush (-9), 2) := by decide +kernel
theorem dX12_rule_50 : decode cX12_rule 50 = .ok (.if_icmp .eq 6, 3) := by decide +kernel
theorem dX12_rule_53 : decode cX12_rule 53 = .ok (.bipush (-4), 2) := by decide +kernel
theorem dX12_rule_55 : decode cX12_rule 55 = .ok (.ireturn, 1) := by decide +kernel
theorem dX12_rule_56 : decode cX12_rule 56 = .ok (.aload_n 0, 1) := by decide +kernel
theorem dX12_rule_57 : decode cX12_rule 57 = .ok (.getfield 66, 3) := by decide +kernel
theorem dX12_rule_60 : decode cX12_rule 60 = .ok (.aload_n 0, 1) := by decide +kernel
theorem dX12_rule_61 : decode cX12_rule 61 = .ok (.getfield 269, 3) := by decide +kernel
theorem dX12_rule_64 : decode cX12_rule 64 = .ok (.aload_n 0, 1) := by decide +kernel
theorem dX12_rule_65 : decode cX12_rule 65 = .ok (.getfield 212, 3) := by decide +kernel
theorem dX12_rule_68 : decode cX12_rule 68 = .ok (.sipush 1440, 3) := by decide +kernel
theorem dX12_rule_71 : decode cX12_rule 71 = .ok (.idiv, 1) := by decide +kernel
theorem dX12_rule_72 : decode cX12_rule 72 = .ok (.iastore, 1) := by decide +kernel
theorem dX12_rule_73 : decode cX12_rule 73 = .ok (.aload_n 0, 1) := by decide +kernel
theorem dX12_rule_74 : decode cX12_rule 74 = .ok (.getfield 69, 3) := by decide +kernel
theorem dX12_rule_77 : decode cX12_rule 77 = .ok (.aload_n 0, 1) := by decide +kernel
theorem dX12_rule_78 : decode cX12_rule 78 = .ok (.getfield 269, 3) := by decide +kernel
theorem dX12_rule_81 : decode cX12_rule 81 = .ok (.iload_n 2, 1) := by decide +kernel
theorem dX12_rule_82 : decode cX12_rule 82 = .ok (.iastore, 1) := by decide +kernel
theorem dX12_rule_83 : decode cX12_rule 83 = .ok (.iconst 0, 1) := by decide +kernel
theorem dX12_rule_84 : decode cX12_rule 84 = .ok (.istore_n 3, 1) := by decide +kernel
theorem dX12_rule_85 : decode cX12_rule 85 = .ok (.iload_n 3, 1) := by decide +kernel
theorem dX12_rule_86 : decode cX12_rule 86 = .ok (.iconst 4, 1) := by decide +kernel
theorem dX12_rule_87 : decode cX12_rule 87 = .ok (.if_icmp .ge 28, 3) := by decide +kernel
theorem dX12_rule_90 : decode cX12_rule 90 = .ok (.aload_n 0, 1) := by decide +kernel
theorem dX12_rule_91 : decode cX12_rule 91 = .ok (.getfield 72, 3) := by decide +kernel
theorem dX12_rule_94 : decode cX12_rule 94 = .ok (.iconst 4, 1) := by decide +kernel
theorem dX12_rule_95 : decode cX12_rule 95 = .ok (.aload_n 0, 1) := by decide +kernel
theorem dX12_rule_96 : decode cX12_rule 96 = .ok (.getfield 269, 3) := by decide +kernel
theorem dX12_rule_99 : decode cX12_rule 99 = .ok (.imul, 1) := by decide +kernel
theorem dX12_rule_100 : decode cX12_rule 100 = .ok (.iload_n 3, 1) := by decide +kernel
theorem dX12_rule_101 : decode cX12_rule 101 = .ok (.iadd, 1) := by decide +kernel
theorem dX12_rule_102 : decode cX12_rule 102 = .ok (.aload_n 0, 1) := by decide +kernel
theorem dX12_rule_103 : decode cX12_rule 103 = .ok (.getfield 75, 3) := by decide +kernel
theorem dX12_rule_106 : decode cX12_rule 106 = .ok (.iload_n 3, 1) := by decide +kernel
theorem dX12_rule_107 : decode cX12_rule 107 = .ok (.iaload, 1) := by decide +kernel
theorem dX12_rule_108 : decode cX12_rule 108 = .ok (.iastore, 1) := by decide +kernel
theorem dX12_rule_109 : decode cX12_rule 109 = .ok (.iinc 3 1, 3) := by decide +kernel
theorem dX12_rule_112 : decode cX12_rule 112 = .ok (.goto (-27), 3) := by decide +kernel
theorem dX12_rule_115 : decode cX12_rule 115 = .ok (.aload_n 0, 1) := by decide +kernel
theorem dX12_rule_116 : decode cX12_rule 116 = .ok (.dup, 1) := by decide +kernel
theorem dX12_rule_117 : decode cX12_rule 117 = .ok (.getfield 269, 3) := by decide +kernel
theorem dX12_rule_120 : decode cX12_rule 120 = .ok (.iconst 1, 1) := by decide +kernel
theorem dX12_rule_121 : decode cX12_rule 121 = .ok (.iadd, 1) := by decide +kernel
theorem dX12_rule_122 : decode cX12_rule 122 = .ok (.putfield 269, 3) := by decide +kernel
theorem dX12_rule_125 : decode cX12_rule 125 = .ok (.aload_n 0, 1) := by decide +kernel
theorem dX12_rule_126 : decode cX12_rule 126 = .ok (.getfield 269, 3) := by decide +kernel
theorem dX12_rule_129 : decode cX12_rule 129 = .ok (.iconst 1, 1) := by decide +kernel
theorem dX12_rule_130 : decode cX12_rule 130 = .ok (.isub, 1) := by decide +kernel
theorem dX12_rule_131 : decode cX12_rule 131 = .ok (.ireturn, 1) := by decide +kernel
theorem dX12_tellsOf_0 : decode cX12_tellsOf 0 = .ok (.aload_n 0, 1) := by decide +kernel
theorem dX12_tellsOf_1 : decode cX12_tellsOf 1 = .ok (.getfield 72, 3) := by decide +kernel
theorem dX12_tellsOf_4 : decode cX12_tellsOf 4 = .ok (.iconst 4, 1) := by decide +kernel
theorem dX12_tellsOf_5 : decode cX12_tellsOf 5 = .ok (.iload_n 1, 1) := by decide +kernel
theorem dX12_tellsOf_6 : decode cX12_tellsOf 6 = .ok (.imul, 1) := by decide +kernel
theorem dX12_tellsOf_7 : decode cX12_tellsOf 7 = .ok (.iload_n 2, 1) := by decide +kernel
theorem dX12_tellsOf_8 : decode cX12_tellsOf 8 = .ok (.iadd, 1) := by decide +kernel
theorem dX12_tellsOf_9 : decode cX12_tellsOf 9 = .ok (.iaload, 1) := by decide +kernel
theorem dX12_tellsOf_10 : decode cX12_tellsOf 10 = .ok (.bipush (-9), 2) := by decide +kernel
theorem dX12_tellsOf_12 : decode cX12_tellsOf 12 = .ok (.if_icmp .eq 28, 3) := by decide +kernel
theorem dX12_tellsOf_15 : decode cX12_tellsOf 15 = .ok (.aload_n 0, 1) := by decide +kernel
theorem dX12_tellsOf_16 : decode cX12_tellsOf 16 = .ok (.getfield 66, 3) := by decide +kernel
theorem dX12_tellsOf_19 : decode cX12_tellsOf 19 = .ok (.iload_n 1, 1) := by decide +kernel
theorem dX12_tellsOf_20 : decode cX12_tellsOf 20 = .ok (.iaload, 1) := by decide +kernel
theorem dX12_tellsOf_21 : decode cX12_tellsOf 21 = .ok (.iload 4, 2) := by decide +kernel
theorem dX12_tellsOf_23 : decode cX12_tellsOf 23 = .ok (.if_icmp .gt 17, 3) := by decide +kernel
theorem dX12_tellsOf_26 : decode cX12_tellsOf 26 = .ok (.aload_n 0, 1) := by decide +kernel
theorem dX12_tellsOf_27 : decode cX12_tellsOf 27 = .ok (.getfield 69, 3) := by decide +kernel
theorem dX12_tellsOf_30 : decode cX12_tellsOf 30 = .ok (.iload_n 1, 1) := by decide +kernel
theorem dX12_tellsOf_31 : decode cX12_tellsOf 31 = .ok (.iaload, 1) := by decide +kernel
theorem dX12_tellsOf_32 : decode cX12_tellsOf 32 = .ok (.iload_n 3, 1) := by decide +kernel
theorem dX12_tellsOf_33 : decode cX12_tellsOf 33 = .ok (.if_icmp .gt 7, 3) := by decide +kernel
theorem dX12_tellsOf_36 : decode cX12_tellsOf 36 = .ok (.iconst 1, 1) := by decide +kernel
theorem dX12_tellsOf_37 : decode cX12_tellsOf 37 = .ok (.goto 4, 3) := by decide +kernel
theorem dX12_tellsOf_40 : decode cX12_tellsOf 40 = .ok (.iconst 0, 1) := by decide +kernel
theorem dX12_tellsOf_41 : decode cX12_tellsOf 41 = .ok (.ireturn, 1) := by decide +kernel
theorem dX12_ruleFor_0 : decode cX12_ruleFor 0 = .ok (.bipush (-9), 2) := by decide +kernel
theorem dX12_ruleFor_2 : decode cX12_ruleFor 2 = .ok (.istore 4, 2) := by decide +kernel
theorem dX12_ruleFor_4 : decode cX12_ruleFor 4 = .ok (.iconst 0, 1) := by decide +kernel
theorem dX12_ruleFor_5 : decode cX12_ruleFor 5 = .ok (.istore 5, 2) := by decide +kernel
theorem dX12_ruleFor_7 : decode cX12_ruleFor 7 = .ok (.iload 5, 2) := by decide +kernel
theorem dX12_ruleFor_9 : decode cX12_ruleFor 9 = .ok (.aload_n 0, 1) := by decide +kernel
theorem dX12_ruleFor_10 : decode cX12_ruleFor 10 = .ok (.getfield 269, 3) := by decide +kernel
theorem dX12_ruleFor_13 : decode cX12_ruleFor 13 = .ok (.if_icmp .ge 54, 3) := by decide +kernel
theorem dX12_ruleFor_16 : decode cX12_ruleFor 16 = .ok (.aload_n 0, 1) := by decide +kernel
theorem dX12_ruleFor_17 : decode cX12_ruleFor 17 = .ok (.iload 5, 2) := by decide +kernel
theorem dX12_ruleFor_19 : decode cX12_ruleFor 19 = .ok (.iload_n 1, 1) := by decide +kernel
theorem dX12_ruleFor_20 : decode cX12_ruleFor 20 = .ok (.iload_n 2, 1) := by decide +kernel
theorem dX12_ruleFor_21 : decode cX12_ruleFor 21 = .ok (.iload_n 3, 1) := by decide +kernel
theorem dX12_ruleFor_22 : decode cX12_ruleFor 22 = .ok (.invokevirtual 272, 3) := by decide +kernel
theorem dX12_ruleFor_25 : decode cX12_ruleFor 25 = .ok (.ifCond .eq 32, 3) := by decide +kernel
theorem dX12_ruleFor_28 : decode cX12_ruleFor 28 = .ok (.iload 4, 2) := by decide +kernel
theorem dX12_ruleFor_30 : decode cX12_ruleFor 30 = .ok (.bipush (-9), 2) := by decide +kernel
theorem dX12_ruleFor_32 : decode cX12_ruleFor 32 = .ok (.if_icmp .eq 20, 3) := by decide +kernel
theorem dX12_ruleFor_35 : decode cX12_ruleFor 35 = .ok (.aload_n 0, 1) := by decide +kernel
theorem dX12_ruleFor_36 : decode cX12_ruleFor 36 = .ok (.getfield 69, 3) := by decide +kernel
theorem dX12_ruleFor_39 : decode cX12_ruleFor 39 = .ok (.iload 5, 2) := by decide +kernel
theorem dX12_ruleFor_41 : decode cX12_ruleFor 41 = .ok (.iaload, 1) := by decide +kernel
theorem dX12_ruleFor_42 : decode cX12_ruleFor 42 = .ok (.aload_n 0, 1) := by decide +kernel
theorem dX12_ruleFor_43 : decode cX12_ruleFor 43 = .ok (.getfield 69, 3) := by decide +kernel
theorem dX12_ruleFor_46 : decode cX12_ruleFor 46 = .ok (.iload 4, 2) := by decide +kernel
theorem dX12_ruleFor_48 : decode cX12_ruleFor 48 = .ok (.iaload, 1) := by decide +kernel
theorem dX12_ruleFor_49 : decode cX12_ruleFor 49 = .ok (.if_icmp .lt 8, 3) := by decide +kernel
theorem dX12_ruleFor_52 : decode cX12_ruleFor 52 = .ok (.iload 5, 2) := by decide +kernel
theorem dX12_ruleFor_54 : decode cX12_ruleFor 54 = .ok (.goto 5, 3) := by decide +kernel
theorem dX12_ruleFor_57 : decode cX12_ruleFor 57 = .ok (.iload 4, 2) := by decide +kernel
theorem dX12_ruleFor_59 : decode cX12_ruleFor 59 = .ok (.istore 4, 2) := by decide +kernel
theorem dX12_ruleFor_61 : decode cX12_ruleFor 61 = .ok (.iinc 5 1, 3) := by decide +kernel
theorem dX12_ruleFor_64 : decode cX12_ruleFor 64 = .ok (.goto (-57), 3) := by decide +kernel
theorem dX12_ruleFor_67 : decode cX12_ruleFor 67 = .ok (.iload 4, 2) := by decide +kernel
theorem dX12_ruleFor_69 : decode cX12_ruleFor 69 = .ok (.ireturn, 1) := by decide +kernel
theorem dX12_forceOf_0 : decode cX12_forceOf 0 = .ok (.aload_n 0, 1) := by decide +kernel
theorem dX12_forceOf_1 : decode cX12_forceOf 1 = .ok (.iload_n 1, 1) := by decide +kernel
theorem dX12_forceOf_2 : decode cX12_forceOf 2 = .ok (.iload_n 2, 1) := by decide +kernel
theorem dX12_forceOf_3 : decode cX12_forceOf 3 = .ok (.iload_n 3, 1) := by decide +kernel
theorem dX12_forceOf_4 : decode cX12_forceOf 4 = .ok (.invokevirtual 276, 3) := by decide +kernel
theorem dX12_forceOf_7 : decode cX12_forceOf 7 = .ok (.istore 4, 2) := by decide +kernel
theorem dX12_forceOf_9 : decode cX12_forceOf 9 = .ok (.iload 4, 2) := by decide +kernel
theorem dX12_forceOf_11 : decode cX12_forceOf 11 = .ok (.bipush (-9), 2) := by decide +kernel
theorem dX12_forceOf_13 : decode cX12_forceOf 13 = .ok (.if_icmp .eq 17, 3) := by decide +kernel
theorem dX12_forceOf_16 : decode cX12_forceOf 16 = .ok (.aload_n 0, 1) := by decide +kernel
theorem dX12_forceOf_17 : decode cX12_forceOf 17 = .ok (.getfield 72, 3) := by decide +kernel
theorem dX12_forceOf_20 : decode cX12_forceOf 20 = .ok (.iconst 4, 1) := by decide +kernel
theorem dX12_forceOf_21 : decode cX12_forceOf 21 = .ok (.iload 4, 2) := by decide +kernel
theorem dX12_forceOf_23 : decode cX12_forceOf 23 = .ok (.imul, 1) := by decide +kernel
theorem dX12_forceOf_24 : decode cX12_forceOf 24 = .ok (.iload_n 1, 1) := by decide +kernel
theorem dX12_forceOf_25 : decode cX12_forceOf 25 = .ok (.iadd, 1) := by decide +kernel
theorem dX12_forceOf_26 : decode cX12_forceOf 26 = .ok (.iaload, 1) := by decide +kernel
theorem dX12_forceOf_27 : decode cX12_forceOf 27 = .ok (.goto 22, 3) := by decide +kernel
theorem dX12_forceOf_30 : decode cX12_forceOf 30 = .ok (.iload_n 1, 1) := by decide +kernel
theorem dX12_forceOf_31 : decode cX12_forceOf 31 = .ok (.ifCond .ne 8, 3) := by decide +kernel
theorem dX12_forceOf_34 : decode cX12_forceOf 34 = .ok (.bipush 9, 2) := by decide +kernel
theorem dX12_forceOf_36 : decode cX12_forceOf 36 = .ok (.goto 13, 3) := by decide +kernel
theorem dX12_forceOf_39 : decode cX12_forceOf 39 = .ok (.iload_n 1, 1) := by decide +kernel
theorem dX12_forceOf_40 : decode cX12_forceOf 40 = .ok (.iconst 1, 1) := by decide +kernel
theorem dX12_forceOf_41 : decode cX12_forceOf 41 = .ok (.if_icmp .ne 7, 3) := by decide +kernel
theorem dX12_forceOf_44 : decode cX12_forceOf 44 = .ok (.iconst 3, 1) := by decide +kernel
theorem dX12_forceOf_45 : decode cX12_forceOf 45 = .ok (.goto 4, 3) := by decide +kernel
theorem dX12_forceOf_48 : decode cX12_forceOf 48 = .ok (.iconst 0, 1) := by decide +kernel
theorem dX12_forceOf_49 : decode cX12_forceOf 49 = .ok (.ireturn, 1) := by decide +kernel
theorem dX12_forceNow_0 : decode cX12_forceNow 0 = .ok (.aload_n 0, 1) := by decide +kernel
theorem dX12_forceNow_1 : decode cX12_forceNow 1 = .ok (.iload_n 1, 1) := by decide +kernel
theorem dX12_forceNow_2 : decode cX12_forceNow 2 = .ok (.aload_n 0, 1) := by decide +kernel
theorem dX12_forceNow_3 : decode cX12_forceNow 3 = .ok (.getfield 212, 3) := by decide +kernel
theorem dX12_forceNow_6 : decode cX12_forceNow 6 = .ok (.sipush 1440, 3) := by decide +kernel
theorem dX12_forceNow_9 : decode cX12_forceNow 9 = .ok (.idiv, 1) := by decide +kernel
theorem dX12_forceNow_10 : decode cX12_forceNow 10 = .ok (.aload_n 0, 1) := by decide +kernel
theorem dX12_forceNow_11 : decode cX12_forceNow 11 = .ok (.getfield 212, 3) := by decide +kernel
theorem dX12_forceNow_14 : decode cX12_forceNow 14 = .ok (.sipush 1440, 3) := by decide +kernel
theorem dX12_forceNow_17 : decode cX12_forceNow 17 = .ok (.idiv, 1) := by decide +kernel
theorem dX12_forceNow_18 : decode cX12_forceNow 18 = .ok (.invokevirtual 280, 3) := by decide +kernel
theorem dX12_forceNow_21 : decode cX12_forceNow 21 = .ok (.ireturn, 1) := by decide +kernel
theorem dX12_isAsked_0 : decode cX12_isAsked 0 = .ok (.iload_n 0, 1) := by decide +kernel
theorem dX12_isAsked_1 : decode cX12_isAsked 1 = .ok (.iconst 0, 1) := by decide +kernel
theorem dX12_isAsked_2 : decode cX12_isAsked 2 = .ok (.iconst 3, 1) := by decide +kernel
theorem dX12_isAsked_3 : decode cX12_isAsked 3 = .ok (.invokestatic 168, 3) := by decide +kernel
theorem dX12_isAsked_6 : decode cX12_isAsked 6 = .ok (.ifCond .eq 21, 3) := by decide +kernel
theorem dX12_isAsked_9 : decode cX12_isAsked 9 = .ok (.iload_n 1, 1) := by decide +kernel
theorem dX12_isAsked_10 : decode cX12_isAsked 10 = .ok (.invokestatic 266, 3) := by decide +kernel
theorem dX12_isAsked_13 : decode cX12_isAsked 13 = .ok (.ifCond .eq 14, 3) := by decide +kernel
theorem dX12_isAsked_16 : decode cX12_isAsked 16 = .ok (.iload_n 2, 1) := by decide +kernel
theorem dX12_isAsked_17 : decode cX12_isAsked 17 = .ok (.invokestatic 266, 3) := by decide +kernel
theorem dX12_isAsked_20 : decode cX12_isAsked 20 = .ok (.ifCond .eq 7, 3) := by decide +kernel
theorem dX12_isAsked_23 : decode cX12_isAsked 23 = .ok (.iconst 1, 1) := by decide +kernel
theorem dX12_isAsked_24 : decode cX12_isAsked 24 = .ok (.goto 4, 3) := by decide +kernel
theorem dX12_isAsked_27 : decode cX12_isAsked 27 = .ok (.iconst 0, 1) := by decide +kernel
theorem dX12_isAsked_28 : decode cX12_isAsked 28 = .ok (.ireturn, 1) := by decide +kernel
theorem dX12_force_0 : decode cX12_force 0 = .ok (.iload_n 1, 1) := by decide +kernel
theorem dX12_force_1 : decode cX12_force 1 = .ok (.iload_n 2, 1) := by decide +kernel
theorem dX12_force_2 : decode cX12_force 2 = .ok (.iload_n 3, 1) := by decide +kernel
theorem dX12_force_3 : decode cX12_force 3 = .ok (.invokestatic 283, 3) := by decide +kernel
theorem dX12_force_6 : decode cX12_force 6 = .ok (.ifCond .eq 13, 3) := by decide +kernel
theorem dX12_force_9 : decode cX12_force 9 = .ok (.aload_n 0, 1) := by decide +kernel
theorem dX12_force_10 : decode cX12_force 10 = .ok (.iload_n 1, 1) := by decide +kernel
theorem dX12_force_11 : decode cX12_force 11 = .ok (.iload_n 2, 1) := by decide +kernel
theorem dX12_force_12 : decode cX12_force 12 = .ok (.iload_n 3, 1) := by decide +kernel
theorem dX12_force_13 : decode cX12_force 13 = .ok (.invokevirtual 280, 3) := by decide +kernel
theorem dX12_force_16 : decode cX12_force 16 = .ok (.goto 4, 3) := by decide +kernel
theorem dX12_force_19 : decode cX12_force 19 = .ok (.iconst (-1), 1) := by decide +kernel
theorem dX12_force_20 : decode cX12_force 20 = .ok (.ireturn, 1) := by decide +kernel
theorem dX12_why_0 : decode cX12_why 0 = .ok (.iload_n 1, 1) := by decide +kernel
theorem dX12_why_1 : decode cX12_why 1 = .ok (.iload_n 2, 1) := by decide +kernel
theorem dX12_why_2 : decode cX12_why 2 = .ok (.iload_n 3, 1) := by decide +kernel
theorem dX12_why_3 : decode cX12_why 3 = .ok (.invokestatic 283, 3) := by decide +kernel
theorem dX12_why_6 : decode cX12_why 6 = .ok (.ifCond .eq 13, 3) := by decide +kernel
theorem dX12_why_9 : decode cX12_why 9 = .ok (.aload_n 0, 1) := by decide +kernel
theorem dX12_why_10 : decode cX12_why 10 = .ok (.iload_n 1, 1) := by decide +kernel
theorem dX12_why_11 : decode cX12_why 11 = .ok (.iload_n 2, 1) := by decide +kernel
theorem dX12_why_12 : decode cX12_why 12 = .ok (.iload_n 3, 1) := by decide +kernel
theorem dX12_why_13 : decode cX12_why 13 = .ok (.invokevirtual 276, 3) := by decide +kernel
theorem dX12_why_16 : decode cX12_why 16 = .ok (.goto 4, 3) := by decide +kernel
theorem dX12_why_19 : decode cX12_why 19 = .ok (.iconst (-1), 1) := by decide +kernel
theorem dX12_why_20 : decode cX12_why 20 = .ok (.ireturn, 1) := by decide +kernel
theorem dX12_quarrel_0 : decode cX12_quarrel 0 = .ok (.iload_n 1, 1) := by decide +kernel
theorem dX12_quarrel_1 : decode cX12_quarrel 1 = .ok (.iload_n 2, 1) := by decide +kernel
theorem dX12_quarrel_2 : decode cX12_quarrel 2 = .ok (.iload_n 3, 1) := by decide +kernel
theorem dX12_quarrel_3 : decode cX12_quarrel 3 = .ok (.invokestatic 283, 3) := by decide +kernel
theorem dX12_quarrel_6 : decode cX12_quarrel 6 = .ok (.ifCond .ne 5, 3) := by decide +kernel
theorem dX12_quarrel_9 : decode cX12_quarrel 9 = .ok (.iconst (-1), 1) := by decide +kernel
theorem dX12_quarrel_10 : decode cX12_quarrel 10 = .ok (.ireturn, 1) := by decide +kernel
theorem dX12_quarrel_11 : decode cX12_quarrel 11 = .ok (.aload_n 0, 1) := by decide +kernel
theorem dX12_quarrel_12 : decode cX12_quarrel 12 = .ok (.iload_n 1, 1) := by decide +kernel
theorem dX12_quarrel_13 : decode cX12_quarrel 13 = .ok (.iload_n 2, 1) := by decide +kernel
theorem dX12_quarrel_14 : decode cX12_quarrel 14 = .ok (.iload_n 3, 1) := by decide +kernel
theorem dX12_quarrel_15 : decode cX12_quarrel 15 = .ok (.invokevirtual 276, 3) := by decide +kernel
theorem dX12_quarrel_18 : decode cX12_quarrel 18 = .ok (.istore 4, 2) := by decide +kernel
theorem dX12_quarrel_20 : decode cX12_quarrel 20 = .ok (.iconst 0, 1) := by decide +kernel
theorem dX12_quarrel_21 : decode cX12_quarrel 21 = .ok (.istore 5, 2) := by decide +kernel
theorem dX12_quarrel_23 : decode cX12_quarrel 23 = .ok (.iload 5, 2) := by decide +kernel
theorem dX12_quarrel_25 : decode cX12_quarrel 25 = .ok (.aload_n 0, 1) := by decide +kernel
theorem dX12_quarrel_26 : decode cX12_quarrel 26 = .ok (.getfield 269, 3) := by decide +kernel
theorem dX12_quarrel_29 : decode cX12_quarrel 29 = .ok (.if_icmp .ge 141, 3) := by decide +kernel
theorem dX12_quarrel_32 : decode cX12_quarrel 32 = .ok (.iload 4, 2) := by decide +kernel
theorem dX12_quarrel_34 : decode cX12_quarrel 34 = .ok (.bipush (-9), 2) := by decide +kernel
theorem dX12_quarrel_36 : decode cX12_quarrel 36 = .ok (.if_icmp .eq 134, 3) := by decide +kernel
theorem dX12_quarrel_39 : decode cX12_quarrel 39 = .ok (.iload 5, 2) := by decide +kernel
theorem dX12_quarrel_41 : decode cX12_quarrel 41 = .ok (.iconst 1, 1) := by decide +kernel
theorem dX12_quarrel_42 : decode cX12_quarrel 42 = .ok (.iadd, 1) := by decide +kernel
theorem dX12_quarrel_43 : decode cX12_quarrel 43 = .ok (.istore 6, 2) := by decide +kernel
theorem dX12_quarrel_45 : decode cX12_quarrel 45 = .ok (.iload 6, 2) := by decide +kernel
theorem dX12_quarrel_47 : decode cX12_quarrel 47 = .ok (.aload_n 0, 1) := by decide +kernel
theorem dX12_quarrel_48 : decode cX12_quarrel 48 = .ok (.getfield 269, 3) := by decide +kernel
theorem dX12_quarrel_51 : decode cX12_quarrel 51 = .ok (.if_icmp .ge 113, 3) := by decide +kernel
theorem dX12_quarrel_54 : decode cX12_quarrel 54 = .ok (.aload_n 0, 1) := by decide +kernel
theorem dX12_quarrel_55 : decode cX12_quarrel 55 = .ok (.iload 5, 2) := by decide +kernel
theorem dX12_quarrel_57 : decode cX12_quarrel 57 = .ok (.iload_n 1, 1) := by decide +kernel
theorem dX12_quarrel_58 : decode cX12_quarrel 58 = .ok (.iload_n 2, 1) := by decide +kernel
theorem dX12_quarrel_59 : decode cX12_quarrel 59 = .ok (.iload_n 3, 1) := by decide +kernel
theorem dX12_quarrel_60 : decode cX12_quarrel 60 = .ok (.invokevirtual 272, 3) := by decide +kernel
theorem dX12_quarrel_63 : decode cX12_quarrel 63 = .ok (.ifCond .eq 53, 3) := by decide +kernel
theorem dX12_quarrel_66 : decode cX12_quarrel 66 = .ok (.aload_n 0, 1) := by decide +kernel
theorem dX12_quarrel_67 : decode cX12_quarrel 67 = .ok (.iload 6, 2) := by decide +kernel
theorem dX12_quarrel_69 : decode cX12_quarrel 69 = .ok (.iload_n 1, 1) := by decide +kernel
theorem dX12_quarrel_70 : decode cX12_quarrel 70 = .ok (.iload_n 2, 1) := by decide +kernel
theorem dX12_quarrel_71 : decode cX12_quarrel 71 = .ok (.iload_n 3, 1) := by decide +kernel
theorem dX12_quarrel_72 : decode cX12_quarrel 72 = .ok (.invokevirtual 272, 3) := by decide +kernel
theorem dX12_quarrel_75 : decode cX12_quarrel 75 = .ok (.ifCond .eq 41, 3) := by decide +kernel
theorem dX12_quarrel_78 : decode cX12_quarrel 78 = .ok (.aload_n 0, 1) := by decide +kernel
theorem dX12_quarrel_79 : decode cX12_quarrel 79 = .ok (.getfield 69, 3) := by decide +kernel
theorem dX12_quarrel_82 : decode cX12_quarrel 82 = .ok (.iload 5, 2) := by decide +kernel
theorem dX12_quarrel_84 : decode cX12_quarrel 84 = .ok (.iaload, 1) := by decide +kernel
theorem dX12_quarrel_85 : decode cX12_quarrel 85 = .ok (.aload_n 0, 1) := by decide +kernel
theorem dX12_quarrel_86 : decode cX12_quarrel 86 = .ok (.getfield 69, 3) := by decide +kernel
theorem dX12_quarrel_89 : decode cX12_quarrel 89 = .ok (.iload 4, 2) := by decide +kernel
theorem dX12_quarrel_91 : decode cX12_quarrel 91 = .ok (.iaload, 1) := by decide +kernel
theorem dX12_quarrel_92 : decode cX12_quarrel 92 = .ok (.if_icmp .ne 24, 3) := by decide +kernel
theorem dX12_quarrel_95 : decode cX12_quarrel 95 = .ok (.aload_n 0, 1) := by decide +kernel
theorem dX12_quarrel_96 : decode cX12_quarrel 96 = .ok (.getfield 69, 3) := by decide +kernel
theorem dX12_quarrel_99 : decode cX12_quarrel 99 = .ok (.iload 6, 2) := by decide +kernel
theorem dX12_quarrel_101 : decode cX12_quarrel 101 = .ok (.iaload, 1) := by decide +kernel
theorem dX12_quarrel_102 : decode cX12_quarrel 102 = .ok (.aload_n 0, 1) := by decide +kernel
theorem dX12_quarrel_103 : decode cX12_quarrel 103 = .ok (.getfield 69, 3) := by decide +kernel
theorem dX12_quarrel_106 : decode cX12_quarrel 106 = .ok (.iload 4, 2) := by decide +kernel
theorem dX12_quarrel_108 : decode cX12_quarrel 108 = .ok (.iaload, 1) := by decide +kernel
theorem dX12_quarrel_109 : decode cX12_quarrel 109 = .ok (.if_icmp .ne 7, 3) := by decide +kernel
theorem dX12_quarrel_112 : decode cX12_quarrel 112 = .ok (.iconst 1, 1) := by decide +kernel
theorem dX12_quarrel_113 : decode cX12_quarrel 113 = .ok (.goto 4, 3) := by decide +kernel
theorem dX12_quarrel_116 : decode cX12_quarrel 116 = .ok (.iconst 0, 1) := by decide +kernel
theorem dX12_quarrel_117 : decode cX12_quarrel 117 = .ok (.istore 7, 2) := by decide +kernel
theorem dX12_quarrel_119 : decode cX12_quarrel 119 = .ok (.iload 7, 2) := by decide +kernel
theorem dX12_quarrel_121 : decode cX12_quarrel 121 = .ok (.ifCond .eq 37, 3) := by decide +kernel
theorem dX12_quarrel_124 : decode cX12_quarrel 124 = .ok (.aload_n 0, 1) := by decide +kernel
theorem dX12_quarrel_125 : decode cX12_quarrel 125 = .ok (.getfield 72, 3) := by decide +kernel
theorem dX12_quarrel_128 : decode cX12_quarrel 128 = .ok (.iconst 4, 1) := by decide +kernel
theorem dX12_quarrel_129 : decode cX12_quarrel 129 = .ok (.iload 5, 2) := by decide +kernel
theorem dX12_quarrel_131 : decode cX12_quarrel 131 = .ok (.imul, 1) := by decide +kernel
theorem dX12_quarrel_132 : decode cX12_quarrel 132 = .ok (.iload_n 1, 1) := by decide +kernel
theorem dX12_quarrel_133 : decode cX12_quarrel 133 = .ok (.iadd, 1) := by decide +kernel
theorem dX12_quarrel_134 : decode cX12_quarrel 134 = .ok (.iaload, 1) := by decide +kernel
theorem dX12_quarrel_135 : decode cX12_quarrel 135 = .ok (.aload_n 0, 1) := by decide +kernel
theorem dX12_quarrel_136 : decode cX12_quarrel 136 = .ok (.getfield 72, 3) := by decide +kernel
theorem dX12_quarrel_139 : decode cX12_quarrel 139 = .ok (.iconst 4, 1) := by decide +kernel
theorem dX12_quarrel_140 : decode cX12_quarrel 140 = .ok (.iload 6, 2) := by decide +kernel
theorem dX12_quarrel_142 : decode cX12_quarrel 142 = .ok (.imul, 1) := by decide +kernel
theorem dX12_quarrel_143 : decode cX12_quarrel 143 = .ok (.iload_n 1, 1) := by decide +kernel
theorem dX12_quarrel_144 : decode cX12_quarrel 144 = .ok (.iadd, 1) := by decide +kernel
theorem dX12_quarrel_145 : decode cX12_quarrel 145 = .ok (.iaload, 1) := by decide +kernel
theorem dX12_quarrel_146 : decode cX12_quarrel 146 = .ok (.if_icmp .eq 12, 3) := by decide +kernel
theorem dX12_quarrel_149 : decode cX12_quarrel 149 = .ok (.bipush 100, 2) := by decide +kernel
theorem dX12_quarrel_151 : decode cX12_quarrel 151 = .ok (.iload 5, 2) := by decide +kernel
theorem dX12_quarrel_153 : decode cX12_quarrel 153 = .ok (.imul, 1) := by decide +kernel
theorem dX12_quarrel_154 : decode cX12_quarrel 154 = .ok (.iload 6, 2) := by decide +kernel
theorem dX12_quarrel_156 : decode cX12_quarrel 156 = .ok (.iadd, 1) := by decide +kernel
theorem dX12_quarrel_157 : decode cX12_quarrel 157 = .ok (.ireturn, 1) := by decide +kernel
theorem dX12_quarrel_158 : decode cX12_quarrel 158 = .ok (.iinc 6 1, 3) := by decide +kernel
theorem dX12_quarrel_161 : decode cX12_quarrel 161 = .ok (.goto (-116), 3) := by decide +kernel
theorem dX12_quarrel_164 : decode cX12_quarrel 164 = .ok (.iinc 5 1, 3) := by decide +kernel
theorem dX12_quarrel_167 : decode cX12_quarrel 167 = .ok (.goto (-144), 3) := by decide +kernel
theorem dX12_quarrel_170 : decode cX12_quarrel 170 = .ok (.bipush (-9), 2) := by decide +kernel
theorem dX12_quarrel_172 : decode cX12_quarrel 172 = .ok (.ireturn, 1) := by decide +kernel
theorem dX12_isSlip_0 : decode cX12_isSlip 0 = .ok (.iload_n 1, 1) := by decide +kernel
theorem dX12_isSlip_1 : decode cX12_isSlip 1 = .ok (.iconst 0, 1) := by decide +kernel
theorem dX12_isSlip_2 : decode cX12_isSlip 2 = .ok (.aload_n 0, 1) := by decide +kernel
theorem dX12_isSlip_3 : decode cX12_isSlip 3 = .ok (.getfield 286, 3) := by decide +kernel
theorem dX12_isSlip_6 : decode cX12_isSlip 6 = .ok (.iconst 1, 1) := by decide +kernel
theorem dX12_isSlip_7 : decode cX12_isSlip 7 = .ok (.isub, 1) := by decide +kernel
theorem dX12_isSlip_8 : decode cX12_isSlip 8 = .ok (.invokestatic 168, 3) := by decide +kernel
theorem dX12_isSlip_11 : decode cX12_isSlip 11 = .ok (.ireturn, 1) := by decide +kernel
theorem dX12_loadOf_0 : decode cX12_loadOf 0 = .ok (.aload_n 0, 1) := by decide +kernel
theorem dX12_loadOf_1 : decode cX12_loadOf 1 = .ok (.iload_n 1, 1) := by decide +kernel
theorem dX12_loadOf_2 : decode cX12_loadOf 2 = .ok (.invokevirtual 251, 3) := by decide +kernel
theorem dX12_loadOf_5 : decode cX12_loadOf 5 = .ok (.istore_n 2, 1) := by decide +kernel
theorem dX12_loadOf_6 : decode cX12_loadOf 6 = .ok (.iconst 0, 1) := by decide +kernel
theorem dX12_loadOf_7 : decode cX12_loadOf 7 = .ok (.istore_n 3, 1) := by decide +kernel
theorem dX12_loadOf_8 : decode cX12_loadOf 8 = .ok (.iload_n 3, 1) := by decide +kernel
theorem dX12_loadOf_9 : decode cX12_loadOf 9 = .ok (.aload_n 0, 1) := by decide +kernel
theorem dX12_loadOf_10 : decode cX12_loadOf 10 = .ok (.getfield 286, 3) := by decide +kernel
theorem dX12_loadOf_13 : decode cX12_loadOf 13 = .ok (.if_icmp .ge 37, 3) := by decide +kernel
theorem dX12_loadOf_16 : decode cX12_loadOf 16 = .ok (.iload_n 2, 1) := by decide +kernel
theorem dX12_loadOf_17 : decode cX12_loadOf 17 = .ok (.aload_n 0, 1) := by decide +kernel
theorem dX12_loadOf_18 : decode cX12_loadOf 18 = .ok (.getfield 81, 3) := by decide +kernel
theorem dX12_loadOf_21 : decode cX12_loadOf 21 = .ok (.iload_n 3, 1) := by decide +kernel
theorem dX12_loadOf_22 : decode cX12_loadOf 22 = .ok (.iaload, 1) := by decide +kernel
theorem dX12_loadOf_23 : decode cX12_loadOf 23 = .ok (.iload_n 1, 1) := by decide +kernel
theorem dX12_loadOf_24 : decode cX12_loadOf 24 = .ok (.if_icmp .ne 17, 3) := by decide +kernel
theorem dX12_loadOf_27 : decode cX12_loadOf 27 = .ok (.aload_n 0, 1) := by decide +kernel
theorem dX12_loadOf_28 : decode cX12_loadOf 28 = .ok (.getfield 78, 3) := by decide +kernel
theorem dX12_loadOf_31 : decode cX12_loadOf 31 = .ok (.iload_n 3, 1) := by decide +kernel
theorem dX12_loadOf_32 : decode cX12_loadOf 32 = .ok (.iaload, 1) := by decide +kernel
theorem dX12_loadOf_33 : decode cX12_loadOf 33 = .ok (.iconst 2, 1) := by decide +kernel
theorem dX12_loadOf_34 : decode cX12_loadOf 34 = .ok (.if_icmp .ge 7, 3) := by decide +kernel
theorem dX12_loadOf_37 : decode cX12_loadOf 37 = .ok (.iconst 1, 1) := by decide +kernel
theorem dX12_loadOf_38 : decode cX12_loadOf 38 = .ok (.goto 4, 3) := by decide +kernel
theorem dX12_loadOf_41 : decode cX12_loadOf 41 = .ok (.iconst 0, 1) := by decide +kernel
