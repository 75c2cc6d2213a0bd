theorem dX0_init_0 : decode cX0_init 0 = .ok (.aload_n 0, 1) := by decide +kernel
theorem dX0_init_1 : decode cX0_init 1 = .ok (.invokespecial 3, 3) := by decide +kernel
theorem dX0_init_4 : decode cX0_init 4 = .ok (.aload_n 0, 1) := by decide +kernel
theorem dX0_init_5 : decode cX0_init 5 = .ok (.iconst 0, 1) := by decide +kernel
theorem dX0_init_6 : decode cX0_init 6 = .ok (.putfield 9, 3) := by decide +kernel
theorem dX0_init_9 : decode cX0_init 9 = .ok (.aload_n 0, 1) := by decide +kernel
theorem dX0_init_10 : decode cX0_init 10 = .ok (.iconst 0, 1) := by decide +kernel
theorem dX0_init_11 : decode cX0_init 11 = .ok (.putfield 15, 3) := by decide +kernel
theorem dX0_init_14 : decode cX0_init 14 = .ok (.aload_n 0, 1) := by decide +kernel
theorem dX0_init_15 : decode cX0_init 15 = .ok (.iconst 0, 1) := by decide +kernel
theorem dX0_init_16 : decode cX0_init 16 = .ok (.putfield 18, 3) := by decide +kernel
theorem dX0_init_19 : decode cX0_init 19 = .ok (.aload_n 0, 1) := by decide +kernel
theorem dX0_init_20 : decode cX0_init 20 = .ok (.iconst 0, 1) := by decide +kernel
theorem dX0_init_21 : decode cX0_init 21 = .ok (.putfield 21, 3) := by decide +kernel
theorem dX0_init_24 : decode cX0_init 24 = .ok (.aload_n 0, 1) := by decide +kernel
theorem dX0_init_25 : decode cX0_init 25 = .ok (.iconst 0, 1) := by decide +kernel
theorem dX0_init_26 : decode cX0_init 26 = .ok (.putfield 24, 3) := by decide +kernel
theorem dX0_init_29 : decode cX0_init 29 = .ok (.aload_n 0, 1) := by decide +kernel
theorem dX0_init_30 : decode cX0_init 30 = .ok (.aconst_null, 1) := by decide +kernel
theorem dX0_init_31 : decode cX0_init 31 = .ok (.putfield 27, 3) := by decide +kernel
theorem dX0_init_34 : decode cX0_init 34 = .ok (.aload_n 0, 1) := by decide +kernel
theorem dX0_init_35 : decode cX0_init 35 = .ok (.aconst_null, 1) := by decide +kernel
theorem dX0_init_36 : decode cX0_init 36 = .ok (.putfield 31, 3) := by decide +kernel
theorem dX0_init_39 : decode cX0_init 39 = .ok (.aload_n 0, 1) := by decide +kernel
theorem dX0_init_40 : decode cX0_init 40 = .ok (.iload_n 1, 1) := by decide +kernel
theorem dX0_init_41 : decode cX0_init 41 = .ok (.putfield 35, 3) := by decide +kernel
theorem dX0_init_44 : decode cX0_init 44 = .ok (.aload_n 0, 1) := by decide +kernel
theorem dX0_init_45 : decode cX0_init 45 = .ok (.iload_n 2, 1) := by decide +kernel
theorem dX0_init_46 : decode cX0_init 46 = .ok (.putfield 38, 3) := by decide +kernel
theorem dX0_init_49 : decode cX0_init 49 = .ok (.aload_n 0, 1) := by decide +kernel
theorem dX0_init_50 : decode cX0_init 50 = .ok (.iload_n 3, 1) := by decide +kernel
theorem dX0_init_51 : decode cX0_init 51 = .ok (.putfield 41, 3) := by decide +kernel
theorem dX0_init_54 : decode cX0_init 54 = .ok (.aload_n 0, 1) := by decide +kernel
theorem dX0_init_55 : decode cX0_init 55 = .ok (.iload 4, 2) := by decide +kernel
theorem dX0_init_57 : decode cX0_init 57 = .ok (.putfield 44, 3) := by decide +kernel
theorem dX0_init_60 : decode cX0_init 60 = .ok (.return_, 1) := by decide +kernel
theorem dX0_floor_0 : decode cX0_floor 0 = .ok (.aload_n 0, 1) := by decide +kernel
theorem dX0_floor_1 : decode cX0_floor 1 = .ok (.getfield 41, 3) := by decide +kernel
theorem dX0_floor_4 : decode cX0_floor 4 = .ok (.iconst 2, 1) := by decide +kernel
theorem dX0_floor_5 : decode cX0_floor 5 = .ok (.idiv, 1) := by decide +kernel
theorem dX0_floor_6 : decode cX0_floor 6 = .ok (.ireturn, 1) := by decide +kernel
theorem dX0_isHad_0 : decode cX0_isHad 0 = .ok (.aload_n 0, 1) := by decide +kernel
theorem dX0_isHad_1 : decode cX0_isHad 1 = .ok (.getfield 9, 3) := by decide +kernel
theorem dX0_isHad_4 : decode cX0_isHad 4 = .ok (.iconst 1, 1) := by decide +kernel
theorem dX0_isHad_5 : decode cX0_isHad 5 = .ok (.if_icmp .eq 11, 3) := by decide +kernel
theorem dX0_isHad_8 : decode cX0_isHad 8 = .ok (.aload_n 0, 1) := by decide +kernel
theorem dX0_isHad_9 : decode cX0_isHad 9 = .ok (.getfield 9, 3) := by decide +kernel
theorem dX0_isHad_12 : decode cX0_isHad 12 = .ok (.iconst 2, 1) := by decide +kernel
theorem dX0_isHad_13 : decode cX0_isHad 13 = .ok (.if_icmp .ne 7, 3) := by decide +kernel
theorem dX0_isHad_16 : decode cX0_isHad 16 = .ok (.iconst 1, 1) := by decide +kernel
theorem dX0_isHad_17 : decode cX0_isHad 17 = .ok (.goto 4, 3) := by decide +kernel
theorem dX0_isHad_20 : decode cX0_isHad 20 = .ok (.iconst 0, 1) := by decide +kernel
theorem dX0_isHad_21 : decode cX0_isHad 21 = .ok (.ireturn, 1) := by decide +kernel
theorem dX0_comeTo_0 : decode cX0_comeTo 0 = .ok (.aload_n 0, 1) := by decide +kernel
theorem dX0_comeTo_1 : decode cX0_comeTo 1 = .ok (.iload_n 1, 1) := by decide +kernel
theorem dX0_comeTo_2 : decode cX0_comeTo 2 = .ok (.putfield 9, 3) := by decide +kernel
theorem dX0_comeTo_5 : decode cX0_comeTo 5 = .ok (.aload_n 0, 1) := by decide +kernel
theorem dX0_comeTo_6 : decode cX0_comeTo 6 = .ok (.iload_n 2, 1) := by decide +kernel
theorem dX0_comeTo_7 : decode cX0_comeTo 7 = .ok (.putfield 18, 3) := by decide +kernel
theorem dX0_comeTo_10 : decode cX0_comeTo 10 = .ok (.aload_n 0, 1) := by decide +kernel
theorem dX0_comeTo_11 : decode cX0_comeTo 11 = .ok (.aload_n 0, 1) := by decide +kernel
theorem dX0_comeTo_12 : decode cX0_comeTo 12 = .ok (.iload_n 1, 1) := by decide +kernel
theorem dX0_comeTo_13 : decode cX0_comeTo 13 = .ok (.invokevirtual 48, 3) := by decide +kernel
theorem dX0_comeTo_16 : decode cX0_comeTo 16 = .ok (.putfield 15, 3) := by decide +kernel
theorem dX0_comeTo_19 : decode cX0_comeTo 19 = .ok (.return_, 1) := by decide +kernel
theorem dX0_comeHome_0 : decode cX0_comeHome 0 = .ok (.aload_n 0, 1) := by decide +kernel
theorem dX0_comeHome_1 : decode cX0_comeHome 1 = .ok (.iconst 0, 1) := by decide +kernel
theorem dX0_comeHome_2 : decode cX0_comeHome 2 = .ok (.iconst 0, 1) := by decide +kernel
theorem dX0_comeHome_3 : decode cX0_comeHome 3 = .ok (.invokevirtual 52, 3) := by decide +kernel
theorem dX0_comeHome_6 : decode cX0_comeHome 6 = .ok (.return_, 1) := by decide +kernel
theorem dX0_believedAt_0 : decode cX0_believedAt 0 = .ok (.iload_n 1, 1) := by decide +kernel
theorem dX0_believedAt_1 : decode cX0_believedAt 1 = .ok (.tableswitch 48 1 6 #[39, 39, 41, 48, 39, 43], 39) := by decide +kernel
theorem dX0_believedAt_40 : decode cX0_believedAt 40 = .ok (.iconst 1, 1) := by decide +kernel
theorem dX0_believedAt_41 : decode cX0_believedAt 41 = .ok (.ireturn, 1) := by decide +kernel
theorem dX0_believedAt_42 : decode cX0_believedAt 42 = .ok (.iconst 2, 1) := by decide +kernel
theorem dX0_believedAt_43 : decode cX0_believedAt 43 = .ok (.ireturn, 1) := by decide +kernel
theorem dX0_believedAt_44 : decode cX0_believedAt 44 = .ok (.aload_n 0, 1) := by decide +kernel
theorem dX0_believedAt_45 : decode cX0_believedAt 45 = .ok (.getfield 15, 3) := by decide +kernel
theorem dX0_believedAt_48 : decode cX0_believedAt 48 = .ok (.ireturn, 1) := by decide +kernel
theorem dX0_believedAt_49 : decode cX0_believedAt 49 = .ok (.iconst 0, 1) := by decide +kernel
theorem dX0_believedAt_50 : decode cX0_believedAt 50 = .ok (.ireturn, 1) := by decide +kernel
theorem dX0_endHad_0 : decode cX0_endHad 0 = .ok (.aload_n 0, 1) := by decide +kernel
theorem dX0_endHad_1 : decode cX0_endHad 1 = .ok (.getfield 31, 3) := by decide +kernel
theorem dX0_endHad_4 : decode cX0_endHad 4 = .ok (.ifnull 16, 3) := by decide +kernel
theorem dX0_endHad_7 : decode cX0_endHad 7 = .ok (.aload_n 0, 1) := by decide +kernel
theorem dX0_endHad_8 : decode cX0_endHad 8 = .ok (.getfield 31, 3) := by decide +kernel
theorem dX0_endHad_11 : decode cX0_endHad 11 = .ok (.iload_n 1, 1) := by decide +kernel
theorem dX0_endHad_12 : decode cX0_endHad 12 = .ok (.putfield 56, 3) := by decide +kernel
theorem dX0_endHad_15 : decode cX0_endHad 15 = .ok (.aload_n 0, 1) := by decide +kernel
theorem dX0_endHad_16 : decode cX0_endHad 16 = .ok (.aconst_null, 1) := by decide +kernel
theorem dX0_endHad_17 : decode cX0_endHad 17 = .ok (.putfield 31, 3) := by decide +kernel
theorem dX0_endHad_20 : decode cX0_endHad 20 = .ok (.return_, 1) := by decide +kernel
theorem dX0_tells_0 : decode cX0_tells 0 = .ok (.iload_n 1, 1) := by decide +kernel
theorem dX0_tells_1 : decode cX0_tells 1 = .ok (.tableswitch 59 0 3 #[31, 36, 41, 46], 31) := by decide +kernel
theorem dX0_tells_32 : decode cX0_tells 32 = .ok (.aload_n 0, 1) := by decide +kernel
theorem dX0_tells_33 : decode cX0_tells 33 = .ok (.getfield 9, 3) := by decide +kernel
theorem dX0_tells_36 : decode cX0_tells 36 = .ok (.ireturn, 1) := by decide +kernel
theorem dX0_tells_37 : decode cX0_tells 37 = .ok (.aload_n 0, 1) := by decide +kernel
theorem dX0_tells_38 : decode cX0_tells 38 = .ok (.getfield 38, 3) := by decide +kernel
theorem dX0_tells_41 : decode cX0_tells 41 = .ok (.ireturn, 1) := by decide +kernel
theorem dX0_tells_42 : decode cX0_tells 42 = .ok (.aload_n 0, 1) := by decide +kernel
theorem dX0_tells_43 : decode cX0_tells 43 = .ok (.getfield 41, 3) := by decide +kernel
theorem dX0_tells_46 : decode cX0_tells 46 = .ok (.ireturn, 1) := by decide +kernel
theorem dX0_tells_47 : decode cX0_tells 47 = .ok (.aload_n 0, 1) := by decide +kernel
theorem dX0_tells_48 : decode cX0_tells 48 = .ok (.getfield 44, 3) := by decide +kernel
theorem dX0_tells_51 : decode cX0_tells 51 = .ok (.ifCond .eq 7, 3) := by decide +kernel
theorem dX0_tells_54 : decode cX0_tells 54 = .ok (.iconst 1, 1) := by decide +kernel
theorem dX0_tells_55 : decode cX0_tells 55 = .ok (.goto 4, 3) := by decide +kernel
theorem dX0_tells_58 : decode cX0_tells 58 = .ok (.iconst 0, 1) := by decide +kernel
theorem dX0_tells_59 : decode cX0_tells 59 = .ok (.ireturn, 1) := by decide +kernel
theorem dX0_tells_60 : decode cX0_tells 60 = .ok (.aload_n 0, 1) := by decide +kernel
theorem dX0_tells_61 : decode cX0_tells 61 = .ok (.getfield 15, 3) := by decide +kernel
theorem dX0_tells_64 : decode cX0_tells 64 = .ok (.ireturn, 1) := by decide +kernel
theorem dX1_init_0 : decode cX1_init 0 = .ok (.aload_n 0, 1) := by decide +kernel
theorem dX1_init_1 : decode cX1_init 1 = .ok (.invokespecial 3, 3) := by decide +kernel
theorem dX1_init_4 : decode cX1_init 4 = .ok (.aload_n 0, 1) := by decide +kernel
theorem dX1_init_5 : decode cX1_init 5 = .ok (.new 9, 3) := by decide +kernel
theorem dX1_init_8 : decode cX1_init 8 = .ok (.dup, 1) := by decide +kernel
theorem dX1_init_9 : decode cX1_init 9 = .ok (.invokespecial 11, 3) := by decide +kernel
theorem dX1_init_12 : decode cX1_init 12 = .ok (.putfield 12, 3) := by decide +kernel
theorem dX1_init_15 : decode cX1_init 15 = .ok (.aload_n 0, 1) := by decide +kernel
theorem dX1_init_16 : decode cX1_init 16 = .ok (.iconst 0, 1) := by decide +kernel
theorem dX1_init_17 : decode cX1_init 17 = .ok (.putfield 18, 3) := by decide +kernel
theorem dX1_init_20 : decode cX1_init 20 = .ok (.aload_n 0, 1) := by decide +kernel
theorem dX1_init_21 : decode cX1_init 21 = .ok (.sipush 300, 3) := by decide +kernel
theorem dX1_init_24 : decode cX1_init 24 = .ok (.newarray .int, 2) := by decide +kernel
theorem dX1_init_26 : decode cX1_init 26 = .ok (.putfield 22, 3) := by decide +kernel
theorem dX1_init_29 : decode cX1_init 29 = .ok (.aload_n 0, 1) := by decide +kernel
theorem dX1_init_30 : decode cX1_init 30 = .ok (.sipush 300, 3) := by decide +kernel
theorem dX1_init_33 : decode cX1_init 33 = .ok (.newarray .int, 2) := by decide +kernel
theorem dX1_init_35 : decode cX1_init 35 = .ok (.putfield 26, 3) := by decide +kernel
theorem dX1_init_38 : decode cX1_init 38 = .ok (.return_, 1) := by decide +kernel
theorem dX1_hasLine_0 : decode cX1_hasLine 0 = .ok (.iload_n 1, 1) := by decide +kernel
theorem dX1_hasLine_1 : decode cX1_hasLine 1 = .ok (.ifCond .lt 18, 3) := by decide +kernel
theorem dX1_hasLine_4 : decode cX1_hasLine 4 = .ok (.iload_n 1, 1) := by decide +kernel
theorem dX1_hasLine_5 : decode cX1_hasLine 5 = .ok (.aload_n 0, 1) := by decide +kernel
theorem dX1_hasLine_6 : decode cX1_hasLine 6 = .ok (.getfield 12, 3) := by decide +kernel
theorem dX1_hasLine_9 : decode cX1_hasLine 9 = .ok (.invokevirtual 29, 3) := by decide +kernel
theorem dX1_hasLine_12 : decode cX1_hasLine 12 = .ok (.if_icmp .ge 7, 3) := by decide +kernel
theorem dX1_hasLine_15 : decode cX1_hasLine 15 = .ok (.iconst 1, 1) := by decide +kernel
theorem dX1_hasLine_16 : decode cX1_hasLine 16 = .ok (.goto 4, 3) := by decide +kernel
theorem dX1_hasLine_19 : decode cX1_hasLine 19 = .ok (.iconst 0, 1) := by decide +kernel
theorem dX1_hasLine_20 : decode cX1_hasLine 20 = .ok (.ireturn, 1) := by decide +kernel
theorem dX1_isPastedOver_0 : decode cX1_isPastedOver 0 = .ok (.aload_n 0, 1) := by decide +kernel
theorem dX1_isPastedOver_1 : decode cX1_isPastedOver 1 = .ok (.iload_n 1, 1) := by decide +kernel
theorem dX1_isPastedOver_2 : decode cX1_isPastedOver 2 = .ok (.invokevirtual 33, 3) := by decide +kernel
theorem dX1_isPastedOver_5 : decode cX1_isPastedOver 5 = .ok (.ifCond .eq 26, 3) := by decide +kernel
theorem dX1_isPastedOver_8 : decode cX1_isPastedOver 8 = .ok (.aload_n 0, 1) := by decide +kernel
theorem dX1_isPastedOver_9 : decode cX1_isPastedOver 9 = .ok (.getfield 12, 3) := by decide +kernel
theorem dX1_isPastedOver_12 : decode cX1_isPastedOver 12 = .ok (.iload_n 1, 1) := by decide +kernel
theorem dX1_isPastedOver_13 : decode cX1_isPastedOver 13 = .ok (.invokevirtual 37, 3) := by decide +kernel
theorem dX1_isPastedOver_16 : decode cX1_isPastedOver 16 = .ok (.checkcast 41, 3) := by decide +kernel
theorem dX1_isPastedOver_19 : decode cX1_isPastedOver 19 = .ok (.getfield 43, 3) := by decide +kernel
theorem dX1_isPastedOver_22 : decode cX1_isPastedOver 22 = .ok (.bipush (-9), 2) := by decide +kernel
theorem dX1_isPastedOver_24 : decode cX1_isPastedOver 24 = .ok (.if_icmp .eq 7, 3) := by decide +kernel
theorem dX1_isPastedOver_27 : decode cX1_isPastedOver 27 = .ok (.iconst 1, 1) := by decide +kernel
theorem dX1_isPastedOver_28 : decode cX1_isPastedOver 28 = .ok (.goto 4, 3) := by decide +kernel
theorem dX1_isPastedOver_31 : decode cX1_isPastedOver 31 = .ok (.iconst 0, 1) := by decide +kernel
theorem dX1_isPastedOver_32 : decode cX1_isPastedOver 32 = .ok (.ireturn, 1) := by decide +kernel
theorem dX1_paste_0 : decode cX1_paste 0 = .ok (.aload_n 0, 1) := by decide +kernel
theorem dX1_paste_1 : decode cX1_paste 1 = .ok (.aload_n 1, 1) := by decide +kernel
theorem dX1_paste_2 : decode cX1_paste 2 = .ok (.getfield 46, 3) := by decide +kernel
theorem dX1_paste_5 : decode cX1_paste 5 = .ok (.invokevirtual 33, 3) := by decide +kernel
theorem dX1_paste_8 : decode cX1_paste 8 = .ok (.ifCond .eq 24, 3) := by decide +kernel
theorem dX1_paste_11 : decode cX1_paste 11 = .ok (.aload_n 0, 1) := by decide +kernel
theorem dX1_paste_12 : decode cX1_paste 12 = .ok (.getfield 12, 3) := by decide +kernel
theorem dX1_paste_15 : decode cX1_paste 15 = .ok (.aload_n 1, 1) := by decide +kernel
theorem dX1_paste_16 : decode cX1_paste 16 = .ok (.getfield 46, 3) := by decide +kernel
theorem dX1_paste_19 : decode cX1_paste 19 = .ok (.invokevirtual 37, 3) := by decide +kernel
theorem dX1_paste_22 : decode cX1_paste 22 = .ok (.checkcast 41, 3) := by decide +kernel
theorem dX1_paste_25 : decode cX1_paste 25 = .ok (.aload_n 1, 1) := by decide +kernel
theorem dX1_paste_26 : decode cX1_paste 26 = .ok (.getfield 49, 3) := by decide +kernel
theorem dX1_paste_29 : decode cX1_paste 29 = .ok (.putfield 43, 3) := by decide +kernel
theorem dX1_paste_32 : decode cX1_paste 32 = .ok (.aload_n 0, 1) := by decide +kernel
theorem dX1_paste_33 : decode cX1_paste 33 = .ok (.getfield 12, 3) := by decide +kernel
theorem dX1_paste_36 : decode cX1_paste 36 = .ok (.aload_n 1, 1) := by decide +kernel
theorem dX1_paste_37 : decode cX1_paste 37 = .ok (.invokevirtual 52, 3) := by decide +kernel
theorem dX1_paste_40 : decode cX1_paste 40 = .ok (.pop, 1) := by decide +kernel
theorem dX1_paste_41 : decode cX1_paste 41 = .ok (.aload_n 0, 1) := by decide +kernel
theorem dX1_paste_42 : decode cX1_paste 42 = .ok (.getfield 12, 3) := by decide +kernel
theorem dX1_paste_45 : decode cX1_paste 45 = .ok (.invokevirtual 29, 3) := by decide +kernel
theorem dX1_paste_48 : decode cX1_paste 48 = .ok (.iconst 1, 1) := by decide +kernel
theorem dX1_paste_49 : decode cX1_paste 49 = .ok (.isub, 1) := by decide +kernel
theorem dX1_paste_50 : decode cX1_paste 50 = .ok (.ireturn, 1) := by decide +kernel
theorem dX1_follow_0 : decode cX1_follow 0 = .ok (.aload_n 0, 1) := by decide +kernel
theorem dX1_follow_1 : decode cX1_follow 1 = .ok (.getfield 22, 3) := by decide +kernel
theorem dX1_follow_4 : decode cX1_follow 4 = .ok (.iconst 0, 1) := by decide +kernel
theorem dX1_follow_5 : decode cX1_follow 5 = .ok (.iload_n 2, 1) := by decide +kernel
theorem dX1_follow_6 : decode cX1_follow 6 = .ok (.iastore, 1) := by decide +kernel
theorem dX1_follow_7 : decode cX1_follow 7 = .ok (.aload_n 0, 1) := by decide +kernel
theorem dX1_follow_8 : decode cX1_follow 8 = .ok (.iconst 1, 1) := by decide +kernel
theorem dX1_follow_9 : decode cX1_follow 9 = .ok (.putfield 18, 3) := by decide +kernel
theorem dX1_follow_12 : decode cX1_follow 12 = .ok (.iload_n 1, 1) := by decide +kernel
theorem dX1_follow_13 : decode cX1_follow 13 = .ok (.istore 4, 2) := by decide +kernel
theorem dX1_follow_15 : decode cX1_follow 15 = .ok (.iload 4, 2) := by decide +kernel
theorem dX1_follow_17 : decode cX1_follow 17 = .ok (.iconst 3, 1) := by decide +kernel
theorem dX1_follow_18 : decode cX1_follow 18 = .ok (.if_icmp .ge 16, 3) := by decide +kernel
theorem dX1_follow_21 : decode cX1_follow 21 = .ok (.aload_n 0, 1) := by decide +kernel
theorem dX1_follow_22 : decode cX1_follow 22 = .ok (.iload 4, 2) := by decide +kernel
theorem dX1_follow_24 : decode cX1_follow 24 = .ok (.iload_n 3, 1) := by decide +kernel
theorem dX1_follow_25 : decode cX1_follow 25 = .ok (.invokevirtual 56, 3) := by decide +kernel
theorem dX1_follow_28 : decode cX1_follow 28 = .ok (.iinc 4 1, 3) := by decide +kernel
theorem dX1_follow_31 : decode cX1_follow 31 = .ok (.goto (-16), 3) := by decide +kernel
theorem dX1_follow_34 : decode cX1_follow 34 = .ok (.return_, 1) := by decide +kernel
theorem dX1_turnAll_0 : decode cX1_turnAll 0 = .ok (.aload_n 0, 1) := by decide +kernel
theorem dX1_turnAll_1 : decode cX1_turnAll 1 = .ok (.getfield 22, 3) := by decide +kernel
theorem dX1_turnAll_4 : decode cX1_turnAll 4 = .ok (.astore_n 3, 1) := by decide +kernel
theorem dX1_turnAll_5 : decode cX1_turnAll 5 = .ok (.aload_n 0, 1) := by decide +kernel
theorem dX1_turnAll_6 : decode cX1_turnAll 6 = .ok (.getfield 18, 3) := by decide +kernel
theorem dX1_turnAll_9 : decode cX1_turnAll 9 = .ok (.istore 4, 2) := by decide +kernel
theorem dX1_turnAll_11 : decode cX1_turnAll 11 = .ok (.aload_n 0, 1) := by decide +kernel
theorem dX1_turnAll_12 : decode cX1_turnAll 12 = .ok (.aload_n 0, 1) := by decide +kernel
theorem dX1_turnAll_13 : decode cX1_turnAll 13 = .ok (.getfield 26, 3) := by decide +kernel
theorem dX1_turnAll_16 : decode cX1_turnAll 16 = .ok (.putfield 22, 3) := by decide +kernel
theorem dX1_turnAll_19 : decode cX1_turnAll 19 = .ok (.aload_n 0, 1) := by decide +kernel
theorem dX1_turnAll_20 : decode cX1_turnAll 20 = .ok (.aload_n 3, 1) := by decide +kernel
theorem dX1_turnAll_21 : decode cX1_turnAll 21 = .ok (.putfield 26, 3) := by decide +kernel
theorem dX1_turnAll_24 : decode cX1_turnAll 24 = .ok (.aload_n 0, 1) := by decide +kernel
theorem dX1_turnAll_25 : decode cX1_turnAll 25 = .ok (.iconst 0, 1) := by decide +kernel
theorem dX1_turnAll_26 : decode cX1_turnAll 26 = .ok (.putfield 18, 3) := by decide +kernel
theorem dX1_turnAll_29 : decode cX1_turnAll 29 = .ok (.iconst 0, 1) := by decide +kernel
theorem dX1_turnAll_30 : decode cX1_turnAll 30 = .ok (.istore 5, 2) := by decide +kernel
theorem dX1_turnAll_32 : decode cX1_turnAll 32 = .ok (.iload 5, 2) := by decide +kernel
theorem dX1_turnAll_34 : decode cX1_turnAll 34 = .ok (.aload_n 0, 1) := by decide +kernel
theorem dX1_turnAll_35 : decode cX1_turnAll 35 = .ok (.getfield 12, 3) := by decide +kernel
theorem dX1_turnAll_38 : decode cX1_turnAll 38 = .ok (.invokevirtual 29, 3) := by decide +kernel
theorem dX1_turnAll_41 : decode cX1_turnAll 41 = .ok (.if_icmp .ge 75, 3) := by decide +kernel
theorem dX1_turnAll_44 : decode cX1_turnAll 44 = .ok (.aload_n 0, 1) := by decide +kernel
theorem dX1_turnAll_45 : decode cX1_turnAll 45 = .ok (.getfield 12, 3) := by decide +kernel
theorem dX1_turnAll_48 : decode cX1_turnAll 48 = .ok (.iload 5, 2) := by decide +kernel
theorem dX1_turnAll_50 : decode cX1_turnAll 50 = .ok (.invokevirtual 37, 3) := by decide +kernel
theorem dX1_turnAll_53 : decode cX1_turnAll 53 = .ok (.checkcast 41, 3) := by decide +kernel
theorem dX1_turnAll_56 : decode cX1_turnAll 56 = .ok (.astore 6, 2) := by decide +kernel
theorem dX1_turnAll_58 : decode cX1_turnAll 58 = .ok (.iconst 0, 1) := by decide +kernel
theorem dX1_turnAll_59 : decode cX1_turnAll 59 = .ok (.istore 7, 2) := by decide +kernel
theorem dX1_turnAll_61 : decode cX1_turnAll 61 = .ok (.iload 7, 2) := by decide +kernel
theorem dX1_turnAll_63 : decode cX1_turnAll 63 = .ok (.iload 4, 2) := by decide +kernel
theorem dX1_turnAll_65 : decode cX1_turnAll 65 = .ok (.if_icmp .ge 45, 3) := by decide +kernel
theorem dX1_turnAll_68 : decode cX1_turnAll 68 = .ok (.iload 7, 2) := by decide +kernel
theorem dX1_turnAll_70 : decode cX1_turnAll 70 = .ok (.sipush 300, 3) := by decide +kernel
theorem dX1_turnAll_73 : decode cX1_turnAll 73 = .ok (.if_icmp .ge 37, 3) := by decide +kernel
theorem dX1_turnAll_76 : decode cX1_turnAll 76 = .ok (.aload 6, 2) := by decide +kernel
theorem dX1_turnAll_78 : decode cX1_turnAll 78 = .ok (.iload_n 1, 1) := by decide +kernel
theorem dX1_turnAll_79 : decode cX1_turnAll 79 = .ok (.aload_n 3, 1) := by decide +kernel
theorem dX1_turnAll_80 : decode cX1_turnAll 80 = .ok (.iload 7, 2) := by decide +kernel
theorem dX1_turnAll_82 : decode cX1_turnAll 82 = .ok (.iaload, 1) := by decide +kernel
theorem dX1_turnAll_83 : decode cX1_turnAll 83 = .ok (.iload_n 2, 1) := by decide +kernel
theorem dX1_turnAll_84 : decode cX1_turnAll 84 = .ok (.invokevirtual 60, 3) := by decide +kernel
theorem dX1_turnAll_87 : decode cX1_turnAll 87 = .ok (.ifCond .eq 17, 3) := by decide +kernel
theorem dX1_turnAll_90 : decode cX1_turnAll 90 = .ok (.aload_n 0, 1) := by decide +kernel
theorem dX1_turnAll_91 : decode cX1_turnAll 91 = .ok (.aload_n 3, 1) := by decide +kernel
theorem dX1_turnAll_92 : decode cX1_turnAll 92 = .ok (.iload 7, 2) := by decide +kernel
theorem dX1_turnAll_94 : decode cX1_turnAll 94 = .ok (.iaload, 1) := by decide +kernel
theorem dX1_turnAll_95 : decode cX1_turnAll 95 = .ok (.aload 6, 2) := by decide +kernel
theorem dX1_turnAll_97 : decode cX1_turnAll 97 = .ok (.getfield 64, 3) := by decide +kernel
theorem dX1_turnAll_100 : decode cX1_turnAll 100 = .ok (.iadd, 1) := by decide +kernel
theorem dX1_turnAll_101 : decode cX1_turnAll 101 = .ok (.invokevirtual 67, 3) := by decide +kernel
theorem dX1_turnAll_104 : decode cX1_turnAll 104 = .ok (.iinc 7 1, 3) := by decide +kernel
theorem dX1_turnAll_107 : decode cX1_turnAll 107 = .ok (.goto (-46), 3) := by decide +kernel
theorem dX1_turnAll_110 : decode cX1_turnAll 110 = .ok (.iinc 5 1, 3) := by decide +kernel
theorem dX1_turnAll_113 : decode cX1_turnAll 113 = .ok (.goto (-81), 3) := by decide +kernel
theorem dX1_turnAll_116 : decode cX1_turnAll 116 = .ok (.return_, 1) := by decide +kernel
theorem dX1_include_0 : decode cX1_include 0 = .ok (.aload_n 0, 1) := by decide +kernel
theorem dX1_include_1 : decode cX1_include 1 = .ok (.getfield 18, 3) := by decide +kernel
theorem dX1_include_4 : decode cX1_include 4 = .ok (.istore_n 2, 1) := by decide +kernel
theorem dX1_include_5 : decode cX1_include 5 = .ok (.iload_n 2, 1) := by decide +kernel
theorem dX1_include_6 : decode cX1_include 6 = .ok (.ifCond .le 21, 3) := by decide +kernel
theorem dX1_include_9 : decode cX1_include 9 = .ok (.aload_n 0, 1) := by decide +kernel
theorem dX1_include_10 : decode cX1_include 10 = .ok (.getfield 22, 3) := by decide +kernel
theorem dX1_include_13 : decode cX1_include 13 = .ok (.iload_n 2, 1) := by decide +kernel
theorem dX1_include_14 : decode cX1_include 14 = .ok (.iconst 1, 1) := by decide +kernel
theorem dX1_include_15 : decode cX1_include 15 = .ok (.isub, 1) := by decide +kernel
theorem dX1_include_16 : decode cX1_include 16 = .ok (.iaload, 1) := by decide +kernel
theorem dX1_include_17 : decode cX1_include 17 = .ok (.iload_n 1, 1) := by decide +kernel
theorem dX1_include_18 : decode cX1_include 18 = .ok (.if_icmp .le 9, 3) := by decide +kernel
theorem dX1_include_21 : decode cX1_include 21 = .ok (.iinc 2 (-1), 3) := by decide +kernel
theorem dX1_include_24 : decode cX1_include 24 = .ok (.goto (-19), 3) := by decide +kernel
theorem dX1_include_27 : decode cX1_include 27 = .ok (.iload_n 2, 1) := by decide +kernel
theorem dX1_include_28 : decode cX1_include 28 = .ok (.ifCond .le 19, 3) := by decide +kernel
theorem dX1_include_31 : decode cX1_include 31 = .ok (.aload_n 0, 1) := by decide +kernel
theorem dX1_include_32 : decode cX1_include 32 = .ok (.getfield 22, 3) := by decide +kernel
theorem dX1_include_35 : decode cX1_include 35 = .ok (.iload_n 2, 1) := by decide +kernel
theorem dX1_include_36 : decode cX1_include 36 = .ok (.iconst 1, 1) := by decide +kernel
theorem dX1_include_37 : decode cX1_include 37 = .ok (.isub, 1) := by decide +kernel
theorem dX1_include_38 : decode cX1_include 38 = .ok (.iaload, 1) := by decide +kernel
theorem dX1_include_39 : decode cX1_include 39 = .ok (.iload_n 1, 1) := by decide +kernel
theorem dX1_include_40 : decode cX1_include 40 = .ok (.if_icmp .ne 7, 3) := by decide +kernel
theorem dX1_include_43 : decode cX1_include 43 = .ok (.iconst 1, 1) := by decide +kernel
theorem dX1_include_44 : decode cX1_include 44 = .ok (.goto 4, 3) := by decide +kernel
theorem dX1_include_47 : decode cX1_include 47 = .ok (.iconst 0, 1) := by decide +kernel
theorem dX1_include_48 : decode cX1_include 48 = .ok (.istore_n 3, 1) := by decide +kernel
theorem dX1_include_49 : decode cX1_include 49 = .ok (.iload_n 3, 1) := by decide +kernel
theorem dX1_include_50 : decode cX1_include 50 = .ok (.ifCond .ne 13, 3) := by decide +kernel
theorem dX1_include_53 : decode cX1_include 53 = .ok (.aload_n 0, 1) := by decide +kernel
theorem dX1_include_54 : decode cX1_include 54 = .ok (.getfield 18, 3) := by decide +kernel
theorem dX1_include_57 : decode cX1_include 57 = .ok (.sipush 300, 3) := by decide +kernel
theorem dX1_include_60 : decode cX1_include 60 = .ok (.if_icmp .lt 4, 3) := by decide +kernel
theorem dX1_include_63 : decode cX1_include 63 = .ok (.return_, 1) := by decide +kernel
theorem dX1_include_64 : decode cX1_include 64 = .ok (.aload_n 0, 1) := by decide +kernel
theorem dX1_include_65 : decode cX1_include 65 = .ok (.getfield 22, 3) := by decide +kernel
theorem dX1_include_68 : decode cX1_include 68 = .ok (.iload_n 2, 1) := by decide +kernel
theorem dX1_include_69 : decode cX1_include 69 = .ok (.aload_n 0, 1) := by decide +kernel
theorem dX1_include_70 : decode cX1_include 70 = .ok (.getfield 22, 3) := by decide +kernel
theorem dX1_include_73 : decode cX1_include 73 = .ok (.iload_n 2, 1) := by decide +kernel
theorem dX1_include_74 : decode cX1_include 74 = .ok (.iconst 1, 1) := by decide +kernel
theorem dX1_include_75 : decode cX1_include 75 = .ok (.iadd, 1) := by decide +kernel
theorem dX1_include_76 : decode cX1_include 76 = .ok (.aload_n 0, 1) := by decide +kernel
theorem dX1_include_77 : decode cX1_include 77 = .ok (.getfield 18, 3) := by decide +kernel
theorem dX1_include_80 : decode cX1_include 80 = .ok (.iload_n 2, 1) := by decide +kernel
theorem dX1_include_81 : decode cX1_include 81 = .ok (.isub, 1) := by decide +kernel
theorem dX1_include_82 : decode cX1_include 82 = .ok (.invokestatic 71, 3) := by decide +kernel
theorem dX1_include_85 : decode cX1_include 85 = .ok (.aload_n 0, 1) := by decide +kernel
theorem dX1_include_86 : decode cX1_include 86 = .ok (.getfield 22, 3) := by decide +kernel
theorem dX1_include_89 : decode cX1_include 89 = .ok (.iload_n 2, 1) := by decide +kernel
theorem dX1_include_90 : decode cX1_include 90 = .ok (.iload_n 1, 1) := by decide +kernel
theorem dX1_include_91 : decode cX1_include 91 = .ok (.iastore, 1) := by decide +kernel
theorem dX1_include_92 : decode cX1_include 92 = .ok (.aload_n 0, 1) := by decide +kernel
theorem dX1_include_93 : decode cX1_include 93 = .ok (.dup, 1) := by decide +kernel
theorem dX1_include_94 : decode cX1_include 94 = .ok (.getfield 18, 3) := by decide +kernel
theorem dX1_include_97 : decode cX1_include 97 = .ok (.iconst 1, 1) := by decide +kernel
theorem dX1_include_98 : decode cX1_include 98 = .ok (.iadd, 1) := by decide +kernel
theorem dX1_include_99 : decode cX1_include 99 = .ok (.putfield 18, 3) := by decide +kernel
theorem dX1_include_102 : decode cX1_include 102 = .ok (.return_, 1) := by decide +kernel
theorem dX2_init_0 : decode cX2_init 0 = .ok (.aload_n 0, 1) := by decide +kernel
theorem dX2_init_1 : decode cX2_init 1 = .ok (.invokespecial 1, 3) := by decide +kernel
theorem dX2_init_4 : decode cX2_init 4 = .ok (.aload_n 0, 1) := by decide +kernel
theorem dX2_init_5 : decode cX2_init 5 = .ok (.iload_n 1, 1) := by decide +kernel
theorem dX2_init_6 : decode cX2_init 6 = .ok (.putfield 7, 3) := by decide +kernel
theorem dX2_init_9 : decode cX2_init 9 = .ok (.aload_n 0, 1) := by decide +kernel
theorem dX2_init_10 : decode cX2_init 10 = .ok (.iload_n 2, 1) := by decide +kernel
theorem dX2_init_11 : decode cX2_init 11 = .ok (.putfield 13, 3) := by decide +kernel
theorem dX2_init_14 : decode cX2_init 14 = .ok (.return_, 1) := by decide +kernel
theorem dX3_init_0 : decode cX3_init 0 = .ok (.aload_n 0, 1) := by decide +kernel
theorem dX3_init_1 : decode cX3_init 1 = .ok (.invokespecial 3, 3) := by decide +kernel
theorem dX3_init_4 : decode cX3_init 4 = .ok (.aload_n 0, 1) := by decide +kernel
theorem dX3_init_5 : decode cX3_init 5 = .ok (.bipush (-9), 2) := by decide +kernel
theorem dX3_init_7 : decode cX3_init 7 = .ok (.putfield 9, 3) := by decide +kernel
theorem dX3_init_10 : decode cX3_init 10 = .ok (.aload_n 0, 1) := by decide +kernel
theorem dX3_init_11 : decode cX3_init 11 = .ok (.iload_n 1, 1) := by decide +kernel
theorem dX3_init_12 : decode cX3_init 12 = .ok (.putfield 15, 3) := by decide +kernel
theorem dX3_init_15 : decode cX3_init 15 = .ok (.aload_n 0, 1) := by decide +kernel
theorem dX3_init_16 : decode cX3_init 16 = .ok (.iload_n 2, 1) := by decide +kernel
theorem dX3_init_17 : decode cX3_init 17 = .ok (.putfield 18, 3) := by decide +kernel
theorem dX3_init_20 : decode cX3_init 20 = .ok (.aload_n 0, 1) := by decide +kernel
theorem dX3_init_21 : decode cX3_init 21 = .ok (.iload_n 3, 1) := by decide +kernel
theorem dX3_init_22 : decode cX3_init 22 = .ok (.putfield 21, 3) := by decide +kernel
theorem dX3_init_25 : decode cX3_init 25 = .ok (.return_, 1) := by decide +kernel
theorem dX3_touches_0 : decode cX3_touches 0 = .ok (.aload_n 0, 1) := by decide +kernel
theorem dX3_touches_1 : decode cX3_touches 1 = .ok (.getfield 21, 3) := by decide +kernel
theorem dX3_touches_4 : decode cX3_touches 4 = .ok (.iload_n 2, 1) := by decide +kernel
theorem dX3_touches_5 : decode cX3_touches 5 = .ok (.if_icmp .gt 24, 3) := by decide +kernel
theorem dX3_touches_8 : decode cX3_touches 8 = .ok (.aload_n 0, 1) := by decide +kernel
theorem dX3_touches_9 : decode cX3_touches 9 = .ok (.getfield 9, 3) := by decide +kernel
theorem dX3_touches_12 : decode cX3_touches 12 = .ok (.bipush (-9), 2) := by decide +kernel
theorem dX3_touches_14 : decode cX3_touches 14 = .ok (.if_icmp .eq 11, 3) := by decide +kernel
theorem dX3_touches_17 : decode cX3_touches 17 = .ok (.aload_n 0, 1) := by decide +kernel
theorem dX3_touches_18 : decode cX3_touches 18 = .ok (.getfield 9, 3) := by decide +kernel
theorem dX3_touches_21 : decode cX3_touches 21 = .ok (.iload_n 1, 1) := by decide +kernel
theorem dX3_touches_22 : decode cX3_touches 22 = .ok (.if_icmp .lt 7, 3) := by decide +kernel
theorem dX3_touches_25 : decode cX3_touches 25 = .ok (.iconst 1, 1) := by decide +kernel
theorem dX3_touches_26 : decode cX3_touches 26 = .ok (.goto 4, 3) := by decide +kernel
theorem dX3_touches_29 : decode cX3_touches 29 = .ok (.iconst 0, 1) := by decide +kernel
theorem dX3_touches_30 : decode cX3_touches 30 = .ok (.ireturn, 1) := by decide +kernel
theorem dX4_init_0 : decode cX4_init 0 = .ok (.aload_n 0, 1) := by decide +kernel
theorem dX4_init_1 : decode cX4_init 1 = .ok (.invokespecial 3, 3) := by decide +kernel
theorem dX4_init_4 : decode cX4_init 4 = .ok (.aload_n 0, 1) := by decide +kernel
theorem dX4_init_5 : decode cX4_init 5 = .ok (.bipush (-9), 2) := by decide +kernel
theorem dX4_init_7 : decode cX4_init 7 = .ok (.putfield 9, 3) := by decide +kernel
theorem dX4_init_10 : decode cX4_init 10 = .ok (.aload_n 0, 1) := by decide +kernel
theorem dX4_init_11 : decode cX4_init 11 = .ok (.iload_n 1, 1) := by decide +kernel
theorem dX4_init_12 : decode cX4_init 12 = .ok (.putfield 15, 3) := by decide +kernel
theorem dX4_init_15 : decode cX4_init 15 = .ok (.aload_n 0, 1) := by decide +kernel
theorem dX4_init_16 : decode cX4_init 16 = .ok (.iload_n 2, 1) := by decide +kernel
theorem dX4_init_17 : decode cX4_init 17 = .ok (.putfield 18, 3) := by decide +kernel
theorem dX4_init_20 : decode cX4_init 20 = .ok (.aload_n 0, 1) := by decide +kernel
theorem dX4_init_21 : decode cX4_init 21 = .ok (.iload_n 3, 1) := by decide +kernel
theorem dX4_init_22 : decode cX4_init 22 = .ok (.putfield 21, 3) := by decide +kernel
theorem dX4_init_25 : decode cX4_init 25 = .ok (.aload_n 0, 1) := by decide +kernel
theorem dX4_init_26 : decode cX4_init 26 = .ok (.iload 4, 2) := by decide +kernel
theorem dX4_init_28 : decode cX4_init 28 = .ok (.putfield 24, 3) := by decide +kernel
theorem dX4_init_31 : decode cX4_init 31 = .ok (.aload_n 0, 1) := by decide +kernel
theorem dX4_init_32 : decode cX4_init 32 = .ok (.iload 5, 2) := by decide +kernel
theorem dX4_init_34 : decode cX4_init 34 = .ok (.putfield 27, 3) := by decide +kernel
theorem dX4_init_37 : decode cX4_init 37 = .ok (.aload_n 0, 1) := by decide +kernel
theorem dX4_init_38 : decode cX4_init 38 = .ok (.iload 6, 2) := by decide +kernel
theorem dX4_init_40 : decode cX4_init 40 = .ok (.putfield 30, 3) := by decide +kernel
theorem dX4_init_43 : decode cX4_init 43 = .ok (.return_, 1) := by decide +kernel
theorem dX4_turns_0 : decode cX4_turns 0 = .ok (.aload_n 0, 1) := by decide +kernel
theorem dX4_turns_1 : decode cX4_turns 1 = .ok (.getfield 30, 3) := by decide +kernel
theorem dX4_turns_4 : decode cX4_turns 4 = .ok (.iload_n 3, 1) := by decide +kernel
theorem dX4_turns_5 : decode cX4_turns 5 = .ok (.if_icmp .gt 24, 3) := by decide +kernel
theorem dX4_turns_8 : decode cX4_turns 8 = .ok (.aload_n 0, 1) := by decide +kernel
theorem dX4_turns_9 : decode cX4_turns 9 = .ok (.getfield 9, 3) := by decide +kernel
theorem dX4_turns_12 : decode cX4_turns 12 = .ok (.bipush (-9), 2) := by decide +kernel
theorem dX4_turns_14 : decode cX4_turns 14 = .ok (.if_icmp .eq 11, 3) := by decide +kernel
theorem dX4_turns_17 : decode cX4_turns 17 = .ok (.aload_n 0, 1) := by decide +kernel
theorem dX4_turns_18 : decode cX4_turns 18 = .ok (.getfield 9, 3) := by decide +kernel
theorem dX4_turns_21 : decode cX4_turns 21 = .ok (.iload_n 3, 1) := by decide +kernel
theorem dX4_turns_22 : decode cX4_turns 22 = .ok (.if_icmp .le 7, 3) := by decide +kernel
theorem dX4_turns_25 : decode cX4_turns 25 = .ok (.iconst 1, 1) := by decide +kernel
theorem dX4_turns_26 : decode cX4_turns 26 = .ok (.goto 4, 3) := by decide +kernel
theorem dX4_turns_29 : decode cX4_turns 29 = .ok (.iconst 0, 1) := by decide +kernel
theorem dX4_turns_30 : decode cX4_turns 30 = .ok (.istore 4, 2) := by decide +kernel
theorem dX4_turns_32 : decode cX4_turns 32 = .ok (.iload 4, 2) := by decide +kernel
theorem dX4_turns_34 : decode cX4_turns 34 = .ok (.ifCond .eq 43, 3) := by decide +kernel
theorem dX4_turns_37 : decode cX4_turns 37 = .ok (.aload_n 0, 1) := by decide +kernel
theorem dX4_turns_38 : decode cX4_turns 38 = .ok (.getfield 15, 3) := by decide +kernel
theorem dX4_turns_41 : decode cX4_turns 41 = .ok (.iload_n 1, 1) := by decide +kernel
theorem dX4_turns_42 : decode cX4_turns 42 = .ok (.if_icmp .ne 35, 3) := by decide +kernel
theorem dX4_turns_45 : decode cX4_turns 45 = .ok (.iload_n 2, 1) := by decide +kernel
theorem dX4_turns_46 : decode cX4_turns 46 = .ok (.aload_n 0, 1) := by decide +kernel
theorem dX4_turns_47 : decode cX4_turns 47 = .ok (.getfield 18, 3) := by decide +kernel
theorem dX4_turns_50 : decode cX4_turns 50 = .ok (.if_icmp .lt 27, 3) := by decide +kernel
theorem dX4_turns_53 : decode cX4_turns 53 = .ok (.iload_n 2, 1) := by decide +kernel
theorem dX4_turns_54 : decode cX4_turns 54 = .ok (.aload_n 0, 1) := by decide +kernel
theorem dX4_turns_55 : decode cX4_turns 55 = .ok (.getfield 21, 3) := by decide +kernel
theorem dX4_turns_58 : decode cX4_turns 58 = .ok (.if_icmp .gt 19, 3) := by decide +kernel
theorem dX4_turns_61 : decode cX4_turns 61 = .ok (.iload_n 2, 1) := by decide +kernel
theorem dX4_turns_62 : decode cX4_turns 62 = .ok (.aload_n 0, 1) := by decide +kernel
theorem dX4_turns_63 : decode cX4_turns 63 = .ok (.getfield 24, 3) := by decide +kernel
theorem dX4_turns_66 : decode cX4_turns 66 = .ok (.iadd, 1) := by decide +kernel
theorem dX4_turns_67 : decode cX4_turns 67 = .ok (.invokestatic 33, 3) := by decide +kernel
theorem dX4_turns_70 : decode cX4_turns 70 = .ok (.ifCond .eq 7, 3) := by decide +kernel
theorem dX4_turns_73 : decode cX4_turns 73 = .ok (.iconst 1, 1) := by decide +kernel
theorem dX4_turns_74 : decode cX4_turns 74 = .ok (.goto 4, 3) := by decide +kernel
theorem dX4_turns_77 : decode cX4_turns 77 = .ok (.iconst 0, 1) := by decide +kernel
theorem dX4_turns_78 : decode cX4_turns 78 = .ok (.ireturn, 1) := by decide +kernel
theorem dX5_init_0 : decode cX5_init 0 = .ok (.aload_n 0, 1) := by decide +kernel
theorem dX5_init_1 : decode cX5_init 1 = .ok (.invokespecial 1, 3) := by decide +kernel
theorem dX5_init_4 : decode cX5_init 4 = .ok (.aload_n 0, 1) := by decide +kernel
theorem dX5_init_5 : decode cX5_init 5 = .ok (.iload_n 1, 1) := by decide +kernel
theorem dX5_init_6 : decode cX5_init 6 = .ok (.putfield 7, 3) := by decide +kernel
theorem dX5_init_9 : decode cX5_init 9 = .ok (.aload_n 0, 1) := by decide +kernel
theorem dX5_init_10 : decode cX5_init 10 = .ok (.iload_n 2, 1) := by decide +kernel
theorem dX5_init_11 : decode cX5_init 11 = .ok (.putfield 13, 3) := by decide +kernel
theorem dX5_init_14 : decode cX5_init 14 = .ok (.aload_n 0, 1) := by decide +kernel
theorem dX5_init_15 : decode cX5_init 15 = .ok (.iload_n 3, 1) := by decide +kernel
theorem dX5_init_16 : decode cX5_init 16 = .ok (.putfield 16, 3) := by decide +kernel
theorem dX5_init_19 : decode cX5_init 19 = .ok (.return_, 1) := by decide +kernel
theorem dX6_init_0 : decode cX6_init 0 = .ok (.aload_n 0, 1) := by decide +kernel
theorem dX6_init_1 : decode cX6_init 1 = .ok (.invokespecial 3, 3) := by decide +kernel
theorem dX6_init_4 : decode cX6_init 4 = .ok (.aload_n 0, 1) := by decide +kernel
theorem dX6_init_5 : decode cX6_init 5 = .ok (.iconst 0, 1) := by decide +kernel
theorem dX6_init_6 : decode cX6_init 6 = .ok (.putfield 9, 3) := by decide +kernel
theorem dX6_init_9 : decode cX6_init 9 = .ok (.aload_n 0, 1) := by decide +kernel
theorem dX6_init_10 : decode cX6_init 10 = .ok (.bipush 12, 2) := by decide +kernel
theorem dX6_init_12 : decode cX6_init 12 = .ok (.newarray .int, 2) := by decide +kernel
theorem dX6_init_14 : decode cX6_init 14 = .ok (.putfield 15, 3) := by decide +kernel
theorem dX6_init_17 : decode cX6_init 17 = .ok (.aload_n 0, 1) := by decide +kernel
theorem dX6_init_18 : decode cX6_init 18 = .ok (.bipush 9, 2) := by decide +kernel
theorem dX6_init_20 : decode cX6_init 20 = .ok (.bipush 13, 2) := by decide +kernel
theorem dX6_init_22 : decode cX6_init 22 = .ok (.multianewarray 19 2, 4) := by decide +kernel
theorem dX6_init_26 : decode cX6_init 26 = .ok (.putfield 21, 3) := by decide +kernel
theorem dX6_init_29 : decode cX6_init 29 = .ok (.aload_n 0, 1) := by decide +kernel
theorem dX6_init_30 : decode cX6_init 30 = .ok (.bipush 8, 2) := by decide +kernel
theorem dX6_init_32 : decode cX6_init 32 = .ok (.bipush 13, 2) := by decide +kernel
theorem dX6_init_34 : decode cX6_init 34 = .ok (.multianewarray 19 2, 4) := by decide +kernel
theorem dX6_init_38 : decode cX6_init 38 = .ok (.putfield 24, 3) := by decide +kernel
theorem dX6_init_41 : decode cX6_init 41 = .ok (.return_, 1) := by decide +kernel
theorem dX6_carry_0 : decode cX6_carry 0 = .ok (.iconst 0, 1) := by decide +kernel
theorem dX6_carry_1 : decode cX6_carry 1 = .ok (.istore 4, 2) := by decide +kernel
theorem dX6_carry_3 : decode cX6_carry 3 = .ok (.iload 4, 2) := by decide +kernel
theorem dX6_carry_5 : decode cX6_carry 5 = .ok (.aload_n 1, 1) := by decide +kernel
theorem dX6_carry_6 : decode cX6_carry 6 = .ok (.getfield 27, 3) := by decide +kernel
theorem dX6_carry_9 : decode cX6_carry 9 = .ok (.if_icmp .gt 41, 3) := by decide +kernel
theorem dX6_carry_12 : decode cX6_carry 12 = .ok (.iload 4, 2) := by decide +kernel
theorem dX6_carry_14 : decode cX6_carry 14 = .ok (.bipush 12, 2) := by decide +kernel
theorem dX6_carry_16 : decode cX6_carry 16 = .ok (.if_icmp .gt 34, 3) := by decide +kernel
theorem dX6_carry_19 : decode cX6_carry 19 = .ok (.aload_n 0, 1) := by decide +kernel
theorem dX6_carry_20 : decode cX6_carry 20 = .ok (.getfield 21, 3) := by decide +kernel
theorem dX6_carry_23 : decode cX6_carry 23 = .ok (.bipush 8, 2) := by decide +kernel
theorem dX6_carry_25 : decode cX6_carry 25 = .ok (.aaload, 1) := by decide +kernel
theorem dX6_carry_26 : decode cX6_carry 26 = .ok (.iload 4, 2) := by decide +kernel
theorem dX6_carry_28 : decode cX6_carry 28 = .ok (.iload 4, 2) := by decide +kernel
theorem dX6_carry_30 : decode cX6_carry 30 = .ok (.aload_n 1, 1) := by decide +kernel
theorem dX6_carry_31 : decode cX6_carry 31 = .ok (.getfield 27, 3) := by decide +kernel
theorem dX6_carry_34 : decode cX6_carry 34 = .ok (.if_icmp .ne 7, 3) := by decide +kernel
theorem dX6_carry_37 : decode cX6_carry 37 = .ok (.iconst 0, 1) := by decide +kernel
theorem dX6_carry_38 : decode cX6_carry 38 = .ok (.goto 5, 3) := by decide +kernel
theorem dX6_carry_41 : decode cX6_carry 41 = .ok (.ldc 32, 2) := by decide +kernel
theorem dX6_carry_43 : decode cX6_carry 43 = .ok (.iastore, 1) := by decide +kernel
theorem dX6_carry_44 : decode cX6_carry 44 = .ok (.iinc 4 1, 3) := by decide +kernel
theorem dX6_carry_47 : decode cX6_carry 47 = .ok (.goto (-44), 3) := by decide +kernel
theorem dX6_carry_50 : decode cX6_carry 50 = .ok (.bipush 7, 2) := by decide +kernel
theorem dX6_carry_52 : decode cX6_carry 52 = .ok (.istore 4, 2) := by decide +kernel
theorem dX6_carry_54 : decode cX6_carry 54 = .ok (.iload 4, 2) := by decide +kernel
theorem dX6_carry_56 : decode cX6_carry 56 = .ok (.ifCond .lt 51, 3) := by decide +kernel
theorem dX6_carry_59 : decode cX6_carry 59 = .ok (.iconst 0, 1) := by decide +kernel
theorem dX6_carry_60 : decode cX6_carry 60 = .ok (.istore 5, 2) := by decide +kernel
theorem dX6_carry_62 : decode cX6_carry 62 = .ok (.iload 5, 2) := by decide +kernel
theorem dX6_carry_64 : decode cX6_carry 64 = .ok (.aload_n 1, 1) := by decide +kernel
theorem dX6_carry_65 : decode cX6_carry 65 = .ok (.getfield 27, 3) := by decide +kernel
theorem dX6_carry_68 : decode cX6_carry 68 = .ok (.if_icmp .gt 33, 3) := by decide +kernel
theorem dX6_carry_71 : decode cX6_carry 71 = .ok (.iload 5, 2) := by decide +kernel
theorem dX6_carry_73 : decode cX6_carry 73 = .ok (.bipush 12, 2) := by decide +kernel
theorem dX6_carry_75 : decode cX6_carry 75 = .ok (.if_icmp .gt 26, 3) := by decide +kernel
theorem dX6_carry_78 : decode cX6_carry 78 = .ok (.aload_n 0, 1) := by decide +kernel
theorem dX6_carry_79 : decode cX6_carry 79 = .ok (.iload 4, 2) := by decide +kernel
theorem dX6_carry_81 : decode cX6_carry 81 = .ok (.iload 5, 2) := by decide +kernel
theorem dX6_carry_83 : decode cX6_carry 83 = .ok (.aload_n 3, 1) := by decide +kernel
theorem dX6_carry_84 : decode cX6_carry 84 = .ok (.getfield 33, 3) := by decide +kernel
theorem dX6_carry_87 : decode cX6_carry 87 = .ok (.iload 4, 2) := by decide +kernel
theorem dX6_carry_89 : decode cX6_carry 89 = .ok (.iaload, 1) := by decide +kernel
theorem dX6_carry_90 : decode cX6_carry 90 = .ok (.aload_n 1, 1) := by decide +kernel
theorem dX6_carry_91 : decode cX6_carry 91 = .ok (.aload_n 2, 1) := by decide +kernel
theorem dX6_carry_92 : decode cX6_carry 92 = .ok (.invokevirtual 36, 3) := by decide +kernel
theorem dX6_carry_95 : decode cX6_carry 95 = .ok (.iinc 5 1, 3) := by decide +kernel
theorem dX6_carry_98 : decode cX6_carry 98 = .ok (.goto (-36), 3) := by decide +kernel
theorem dX6_carry_101 : decode cX6_carry 101 = .ok (.iinc 4 (-1), 3) := by decide +kernel
theorem dX6_carry_104 : decode cX6_carry 104 = .ok (.goto (-50), 3) := by decide +kernel
theorem dX6_carry_107 : decode cX6_carry 107 = .ok (.aload_n 0, 1) := by decide +kernel
theorem dX6_carry_108 : decode cX6_carry 108 = .ok (.getfield 21, 3) := by decide +kernel
theorem dX6_carry_111 : decode cX6_carry 111 = .ok (.iconst 0, 1) := by decide +kernel
theorem dX6_carry_112 : decode cX6_carry 112 = .ok (.aaload, 1) := by decide +kernel
theorem dX6_carry_113 : decode cX6_carry 113 = .ok (.iconst 0, 1) := by decide +kernel
theorem dX6_carry_114 : decode cX6_carry 114 = .ok (.iaload, 1) := by decide +kernel
theorem dX6_carry_115 : decode cX6_carry 115 = .ok (.ldc 32, 2) := by decide +kernel
theorem dX6_carry_117 : decode cX6_carry 117 = .ok (.if_icmp .lt 6, 3) := by decide +kernel
theorem dX6_carry_120 : decode cX6_carry 120 = .ok (.bipush (-9), 2) := by decide +kernel
theorem dX6_carry_122 : decode cX6_carry 122 = .ok (.ireturn, 1) := by decide +kernel
theorem dX6_carry_123 : decode cX6_carry 123 = .ok (.aload_n 0, 1) := by decide +kernel
theorem dX6_carry_124 : decode cX6_carry 124 = .ok (.aload_n 1, 1) := by decide +kernel
theorem dX6_carry_125 : decode cX6_carry 125 = .ok (.getfield 27, 3) := by decide +kernel
theorem dX6_carry_128 : decode cX6_carry 128 = .ok (.invokevirtual 40, 3) := by decide +kernel
theorem dX6_carry_131 : decode cX6_carry 131 = .ok (.aload_n 0, 1) := by decide +kernel
theorem dX6_carry_132 : decode cX6_carry 132 = .ok (.getfield 21, 3) := by decide +kernel
theorem dX6_carry_135 : decode cX6_carry 135 = .ok (.iconst 0, 1) := by decide +kernel
theorem dX6_carry_136 : decode cX6_carry 136 = .ok (.aaload, 1) := by decide +kernel
theorem dX6_carry_137 : decode cX6_carry 137 = .ok (.iconst 0, 1) := by decide +kernel
theorem dX6_carry_138 : decode cX6_carry 138 = .ok (.iaload, 1) := by decide +kernel
theorem dX6_carry_139 : decode cX6_carry 139 = .ok (.ireturn, 1) := by decide +kernel
theorem dX6_fill_0 : decode cX6_fill 0 = .ok (.iconst 0, 1) := by decide +kernel
theorem dX6_fill_1 : decode cX6_fill 1 = .ok (.istore 6, 2) := by decide +kernel
theorem dX6_fill_3 : decode cX6_fill 3 = .ok (.iconst 0, 1) := by decide +kernel
theorem dX6_fill_4 : decode cX6_fill 4 = .ok (.istore 7, 2) := by decide +kernel
theorem dX6_fill_6 : decode cX6_fill 6 = .ok (.aload_n 0, 1) := by decide +kernel
theorem dX6_fill_7 : decode cX6_fill 7 = .ok (.getfield 21, 3) := by decide +kernel
theorem dX6_fill_10 : decode cX6_fill 10 = .ok (.iload_n 1, 1) := by decide +kernel
theorem dX6_fill_11 : decode cX6_fill 11 = .ok (.aaload, 1) := by decide +kernel
theorem dX6_fill_12 : decode cX6_fill 12 = .ok (.iload_n 2, 1) := by decide +kernel
theorem dX6_fill_13 : decode cX6_fill 13 = .ok (.ldc 32, 2) := by decide +kernel
theorem dX6_fill_15 : decode cX6_fill 15 = .ok (.iastore, 1) := by decide +kernel
theorem dX6_fill_16 : decode cX6_fill 16 = .ok (.iload_n 2, 1) := by decide +kernel
theorem dX6_fill_17 : decode cX6_fill 17 = .ok (.istore 8, 2) := by decide +kernel
theorem dX6_fill_19 : decode cX6_fill 19 = .ok (.iload 8, 2) := by decide +kernel
theorem dX6_fill_21 : decode cX6_fill 21 = .ok (.aload 4, 2) := by decide +kernel
theorem dX6_fill_23 : decode cX6_fill 23 = .ok (.getfield 27, 3) := by decide +kernel
theorem dX6_fill_26 : decode cX6_fill 26 = .ok (.if_icmp .gt 113, 3) := by decide +kernel
theorem dX6_fill_29 : decode cX6_fill 29 = .ok (.iload 8, 2) := by decide +kernel
theorem dX6_fill_31 : decode cX6_fill 31 = .ok (.bipush 12, 2) := by decide +kernel
theorem dX6_fill_33 : decode cX6_fill 33 = .ok (.if_icmp .gt 106, 3) := by decide +kernel
theorem dX6_fill_36 : decode cX6_fill 36 = .ok (.iload 6, 2) := by decide +kernel
theorem dX6_fill_38 : decode cX6_fill 38 = .ok (.iload_n 3, 1) := by decide +kernel
theorem dX6_fill_39 : decode cX6_fill 39 = .ok (.if_icmp .gt 100, 3) := by decide +kernel
theorem dX6_fill_42 : decode cX6_fill 42 = .ok (.iload 7, 2) := by decide +kernel
theorem dX6_fill_44 : decode cX6_fill 44 = .ok (.aload_n 0, 1) := by decide +kernel
theorem dX6_fill_45 : decode cX6_fill 45 = .ok (.getfield 21, 3) := by decide +kernel
theorem dX6_fill_48 : decode cX6_fill 48 = .ok (.iload_n 1, 1) := by decide +kernel
theorem dX6_fill_49 : decode cX6_fill 49 = .ok (.iconst 1, 1) := by decide +kernel
theorem dX6_fill_50 : decode cX6_fill 50 = .ok (.iadd, 1) := by decide +kernel
theorem dX6_fill_51 : decode cX6_fill 51 = .ok (.aaload, 1) := by decide +kernel
theorem dX6_fill_52 : decode cX6_fill 52 = .ok (.iload 8, 2) := by decide +kernel
theorem dX6_fill_54 : decode cX6_fill 54 = .ok (.iaload, 1) := by decide +kernel
theorem dX6_fill_55 : decode cX6_fill 55 = .ok (.iadd, 1) := by decide +kernel
theorem dX6_fill_56 : decode cX6_fill 56 = .ok (.istore 9, 2) := by decide +kernel
theorem dX6_fill_58 : decode cX6_fill 58 = .ok (.iload 9, 2) := by decide +kernel
theorem dX6_fill_60 : decode cX6_fill 60 = .ok (.aload_n 0, 1) := by decide +kernel
theorem dX6_fill_61 : decode cX6_fill 61 = .ok (.getfield 21, 3) := by decide +kernel
theorem dX6_fill_64 : decode cX6_fill 64 = .ok (.iload_n 1, 1) := by decide +kernel
theorem dX6_fill_65 : decode cX6_fill 65 = .ok (.aaload, 1) := by decide +kernel
theorem dX6_fill_66 : decode cX6_fill 66 = .ok (.iload_n 2, 1) := by decide +kernel
theorem dX6_fill_67 : decode cX6_fill 67 = .ok (.iaload, 1) := by decide +kernel
theorem dX6_fill_68 : decode cX6_fill 68 = .ok (.if_icmp .gt 23, 3) := by decide +kernel
theorem dX6_fill_71 : decode cX6_fill 71 = .ok (.aload_n 0, 1) := by decide +kernel
theorem dX6_fill_72 : decode cX6_fill 72 = .ok (.getfield 21, 3) := by decide +kernel
theorem dX6_fill_75 : decode cX6_fill 75 = .ok (.iload_n 1, 1) := by decide +kernel
theorem dX6_fill_76 : decode cX6_fill 76 = .ok (.aaload, 1) := by decide +kernel
theorem dX6_fill_77 : decode cX6_fill 77 = .ok (.iload_n 2, 1) := by decide +kernel
theorem dX6_fill_78 : decode cX6_fill 78 = .ok (.iload 9, 2) := by decide +kernel
theorem dX6_fill_80 : decode cX6_fill 80 = .ok (.iastore, 1) := by decide +kernel
theorem dX6_fill_81 : decode cX6_fill 81 = .ok (.aload_n 0, 1) := by decide +kernel
theorem dX6_fill_82 : decode cX6_fill 82 = .ok (.getfield 24, 3) := by decide +kernel
theorem dX6_fill_85 : decode cX6_fill 85 = .ok (.iload_n 1, 1) := by decide +kernel
theorem dX6_fill_86 : decode cX6_fill 86 = .ok (.aaload, 1) := by decide +kernel
theorem dX6_fill_87 : decode cX6_fill 87 = .ok (.iload_n 2, 1) := by decide +kernel
theorem dX6_fill_88 : decode cX6_fill 88 = .ok (.iload 8, 2) := by decide +kernel
theorem dX6_fill_90 : decode cX6_fill 90 = .ok (.iastore, 1) := by decide +kernel
theorem dX6_fill_91 : decode cX6_fill 91 = .ok (.iload 6, 2) := by decide +kernel
theorem dX6_fill_93 : decode cX6_fill 93 = .ok (.aload 4, 2) := by decide +kernel
theorem dX6_fill_95 : decode cX6_fill 95 = .ok (.getfield 33, 3) := by decide +kernel
theorem dX6_fill_98 : decode cX6_fill 98 = .ok (.iload 8, 2) := by decide +kernel
theorem dX6_fill_100 : decode cX6_fill 100 = .ok (.iaload, 1) := by decide +kernel
theorem dX6_fill_101 : decode cX6_fill 101 = .ok (.iadd, 1) := by decide +kernel
theorem dX6_fill_102 : decode cX6_fill 102 = .ok (.istore 6, 2) := by decide +kernel
theorem dX6_fill_104 : decode cX6_fill 104 = .ok (.iload 7, 2) := by decide +kernel
theorem dX6_fill_106 : decode cX6_fill 106 = .ok (.aload 5, 2) := by decide +kernel
theorem dX6_fill_108 : decode cX6_fill 108 = .ok (.getfield 33, 3) := by decide +kernel
theorem dX6_fill_111 : decode cX6_fill 111 = .ok (.iload 8, 2) := by decide +kernel
theorem dX6_fill_113 : decode cX6_fill 113 = .ok (.iaload, 1) := by decide +kernel
theorem dX6_fill_114 : decode cX6_fill 114 = .ok (.iload_n 1, 1) := by decide +kernel
theorem dX6_fill_115 : decode cX6_fill 115 = .ok (.if_icmp .ne 7, 3) := by decide +kernel
theorem dX6_fill_118 : decode cX6_fill 118 = .ok (.iconst 0, 1) := by decide +kernel
theorem dX6_fill_119 : decode cX6_fill 119 = .ok (.goto 11, 3) := by decide +kernel
theorem dX6_fill_122 : decode cX6_fill 122 = .ok (.aload 4, 2) := by decide +kernel
theorem dX6_fill_124 : decode cX6_fill 124 = .ok (.getfield 33, 3) := by decide +kernel
theorem dX6_fill_127 : decode cX6_fill 127 = .ok (.iload 8, 2) := by decide +kernel
theorem dX6_fill_129 : decode cX6_fill 129 = .ok (.iaload, 1) := by decide +kernel
theorem dX6_fill_130 : decode cX6_fill 130 = .ok (.iadd, 1) := by decide +kernel
theorem dX6_fill_131 : decode cX6_fill 131 = .ok (.istore 7, 2) := by decide +kernel
theorem dX6_fill_133 : decode cX6_fill 133 = .ok (.iinc 8 1, 3) := by decide +kernel
theorem dX6_fill_136 : decode cX6_fill 136 = .ok (.goto (-117), 3) := by decide +kernel
theorem dX6_fill_139 : decode cX6_fill 139 = .ok (.return_, 1) := by decide +kernel
theorem dX6_settle_0 : decode cX6_settle 0 = .ok (.aload_n 0, 1) := by decide +kernel
theorem dX6_settle_1 : decode cX6_settle 1 = .ok (.iload_n 1, 1) := by decide +kernel
theorem dX6_settle_2 : decode cX6_settle 2 = .ok (.putfield 9, 3) := by decide +kernel
theorem dX6_settle_5 : decode cX6_settle 5 = .ok (.iconst 0, 1) := by decide +kernel
theorem dX6_settle_6 : decode cX6_settle 6 = .ok (.istore_n 2, 1) := by decide +kernel
theorem dX6_settle_7 : decode cX6_settle 7 = .ok (.iconst 0, 1) := by decide +kernel
theorem dX6_settle_8 : decode cX6_settle 8 = .ok (.istore_n 3, 1) := by decide +kernel
theorem dX6_settle_9 : decode cX6_settle 9 = .ok (.iload_n 3, 1) := by decide +kernel
theorem dX6_settle_10 : decode cX6_settle 10 = .ok (.bipush 8, 2) := by decide +kernel
theorem dX6_settle_12 : decode cX6_settle 12 = .ok (.if_icmp .ge 53, 3) := by decide +kernel
theorem dX6_settle_15 : decode cX6_settle 15 = .ok (.aload_n 0, 1) := by decide +kernel
theorem dX6_settle_16 : decode cX6_settle 16 = .ok (.getfield 24, 3) := by decide +kernel
theorem dX6_settle_19 : decode cX6_settle 19 = .ok (.iload_n 3, 1) := by decide +kernel
theorem dX6_settle_20 : decode cX6_settle 20 = .ok (.aaload, 1) := by decide +kernel
theorem dX6_settle_21 : decode cX6_settle 21 = .ok (.iload_n 2, 1) := by decide +kernel
theorem dX6_settle_22 : decode cX6_settle 22 = .ok (.iaload, 1) := by decide +kernel
theorem dX6_settle_23 : decode cX6_settle 23 = .ok (.istore 4, 2) := by decide +kernel
theorem dX6_settle_25 : decode cX6_settle 25 = .ok (.iload_n 2, 1) := by decide +kernel
theorem dX6_settle_26 : decode cX6_settle 26 = .ok (.istore 5, 2) := by decide +kernel
theorem dX6_settle_28 : decode cX6_settle 28 = .ok (.iload 5, 2) := by decide +kernel
theorem dX6_settle_30 : decode cX6_settle 30 = .ok (.iload 4, 2) := by decide +kernel
theorem dX6_settle_32 : decode cX6_settle 32 = .ok (.if_icmp .ge 24, 3) := by decide +kernel
theorem dX6_settle_35 : decode cX6_settle 35 = .ok (.iload 5, 2) := by decide +kernel
theorem dX6_settle_37 : decode cX6_settle 37 = .ok (.bipush 12, 2) := by decide +kernel
theorem dX6_settle_39 : decode cX6_settle 39 = .ok (.if_icmp .ge 17, 3) := by decide +kernel
theorem dX6_settle_42 : decode cX6_settle 42 = .ok (.aload_n 0, 1) := by decide +kernel
theorem dX6_settle_43 : decode cX6_settle 43 = .ok (.getfield 15, 3) := by decide +kernel
theorem dX6_settle_46 : decode cX6_settle 46 = .ok (.iload 5, 2) := by decide +kernel
theorem dX6_settle_48 : decode cX6_settle 48 = .ok (.iload_n 3, 1) := by decide +kernel
theorem dX6_settle_49 : decode cX6_settle 49 = .ok (.iastore, 1) := by decide +kernel
theorem dX6_settle_50 : decode cX6_settle 50 = .ok (.iinc 5 1, 3) := by decide +kernel
theorem dX6_settle_53 : decode cX6_settle 53 = .ok (.goto (-25), 3) := by decide +kernel
theorem dX6_settle_56 : decode cX6_settle 56 = .ok (.iload 4, 2) := by decide +kernel
theorem dX6_settle_58 : decode cX6_settle 58 = .ok (.istore_n 2, 1) := by decide +kernel
theorem dX6_settle_59 : decode cX6_settle 59 = .ok (.iinc 3 1, 3) := by decide +kernel
theorem dX6_settle_62 : decode cX6_settle 62 = .ok (.goto (-53), 3) := by decide +kernel
theorem dX6_settle_65 : decode cX6_settle 65 = .ok (.return_, 1) := by decide +kernel
theorem dX7_init_0 : decode cX7_init 0 = .ok (.aload_n 0, 1) := by decide +kernel
theorem dX7_init_1 : decode cX7_init 1 = .ok (.invokespecial 3, 3) := by decide +kernel
theorem dX7_init_4 : decode cX7_init 4 = .ok (.aload_n 0, 1) := by decide +kernel
theorem dX7_init_5 : decode cX7_init 5 = .ok (.iconst 3, 1) := by decide +kernel
theorem dX7_init_6 : decode cX7_init 6 = .ok (.newarray .int, 2) := by decide +kernel
theorem dX7_init_8 : decode cX7_init 8 = .ok (.putfield 9, 3) := by decide +kernel
theorem dX7_init_11 : decode cX7_init 11 = .ok (.aload_n 0, 1) := by decide +kernel
theorem dX7_init_12 : decode cX7_init 12 = .ok (.iconst 3, 1) := by decide +kernel
theorem dX7_init_13 : decode cX7_init 13 = .ok (.newarray .int, 2) := by decide +kernel
theorem dX7_init_15 : decode cX7_init 15 = .ok (.putfield 15, 3) := by decide +kernel
theorem dX7_init_18 : decode cX7_init 18 = .ok (.aload_n 0, 1) := by decide +kernel
theorem dX7_init_19 : decode cX7_init 19 = .ok (.bipush 24, 2) := by decide +kernel
theorem dX7_init_21 : decode cX7_init 21 = .ok (.newarray .int, 2) := by decide +kernel
theorem dX7_init_23 : decode cX7_init 23 = .ok (.putfield 18, 3) := by decide +kernel
theorem dX7_init_26 : decode cX7_init 26 = .ok (.aload_n 0, 1) := by decide +kernel
theorem dX7_init_27 : decode cX7_init 27 = .ok (.iconst 0, 1) := by decide +kernel
theorem dX7_init_28 : decode cX7_init 28 = .ok (.putfield 21, 3) := by decide +kernel
theorem dX7_init_31 : decode cX7_init 31 = .ok (.aload_n 0, 1) := by decide +kernel
theorem dX7_init_32 : decode cX7_init 32 = .ok (.iconst 0, 1) := by decide +kernel
theorem dX7_init_33 : decode cX7_init 33 = .ok (.putfield 25, 3) := by decide +kernel
theorem dX7_init_36 : decode cX7_init 36 = .ok (.aload_n 0, 1) := by decide +kernel
theorem dX7_init_37 : decode cX7_init 37 = .ok (.bipush 24, 2) := by decide +kernel
theorem dX7_init_39 : decode cX7_init 39 = .ok (.newarray .int, 2) := by decide +kernel
theorem dX7_init_41 : decode cX7_init 41 = .ok (.putfield 28, 3) := by decide +kernel
theorem dX7_init_44 : decode cX7_init 44 = .ok (.aload_n 0, 1) := by decide +kernel
theorem dX7_init_45 : decode cX7_init 45 = .ok (.bipush 24, 2) := by decide +kernel
theorem dX7_init_47 : decode cX7_init 47 = .ok (.newarray .int, 2) := by decide +kernel
theorem dX7_init_49 : decode cX7_init 49 = .ok (.putfield 31, 3) := by decide +kernel
theorem dX7_init_52 : decode cX7_init 52 = .ok (.aload_n 0, 1) := by decide +kernel
theorem dX7_init_53 : decode cX7_init 53 = .ok (.iconst 3, 1) := by decide +kernel
theorem dX7_init_54 : decode cX7_init 54 = .ok (.newarray .int, 2) := by decide +kernel
theorem dX7_init_56 : decode cX7_init 56 = .ok (.putfield 34, 3) := by decide +kernel
theorem dX7_init_59 : decode cX7_init 59 = .ok (.aload_n 0, 1) := by decide +kernel
theorem dX7_init_60 : decode cX7_init 60 = .ok (.bipush 24, 2) := by decide +kernel
theorem dX7_init_62 : decode cX7_init 62 = .ok (.newarray .int, 2) := by decide +kernel
theorem dX7_init_64 : decode cX7_init 64 = .ok (.putfield 37, 3) := by decide +kernel
theorem dX7_init_67 : decode cX7_init 67 = .ok (.return_, 1) := by decide +kernel
theorem dX7_queue_0 : decode cX7_queue 0 = .ok (.aload_n 0, 1) := by decide +kernel
theorem dX7_queue_1 : decode cX7_queue 1 = .ok (.getfield 21, 3) := by decide +kernel
theorem dX7_queue_4 : decode cX7_queue 4 = .ok (.bipush 24, 2) := by decide +kernel
theorem dX7_queue_6 : decode cX7_queue 6 = .ok (.if_icmp .lt 4, 3) := by decide +kernel
theorem dX7_queue_9 : decode cX7_queue 9 = .ok (.return_, 1) := by decide +kernel
theorem dX7_queue_10 : decode cX7_queue 10 = .ok (.aload_n 0, 1) := by decide +kernel
theorem dX7_queue_11 : decode cX7_queue 11 = .ok (.getfield 21, 3) := by decide +kernel
theorem dX7_queue_14 : decode cX7_queue 14 = .ok (.istore_n 2, 1) := by decide +kernel
theorem dX7_queue_15 : decode cX7_queue 15 = .ok (.iload_n 2, 1) := by decide +kernel
theorem dX7_queue_16 : decode cX7_queue 16 = .ok (.ifCond .le 40, 3) := by decide +kernel
theorem dX7_queue_19 : decode cX7_queue 19 = .ok (.aload_n 0, 1) := by decide +kernel
theorem dX7_queue_20 : decode cX7_queue 20 = .ok (.getfield 28, 3) := by decide +kernel
theorem dX7_queue_23 : decode cX7_queue 23 = .ok (.aload_n 0, 1) := by decide +kernel
theorem dX7_queue_24 : decode cX7_queue 24 = .ok (.getfield 31, 3) := by decide +kernel
theorem dX7_queue_27 : decode cX7_queue 27 = .ok (.iload_n 2, 1) := by decide +kernel
theorem dX7_queue_28 : decode cX7_queue 28 = .ok (.iconst 1, 1) := by decide +kernel
theorem dX7_queue_29 : decode cX7_queue 29 = .ok (.isub, 1) := by decide +kernel
theorem dX7_queue_30 : decode cX7_queue 30 = .ok (.iaload, 1) := by decide +kernel
theorem dX7_queue_31 : decode cX7_queue 31 = .ok (.iaload, 1) := by decide +kernel
theorem dX7_queue_32 : decode cX7_queue 32 = .ok (.iload_n 1, 1) := by decide +kernel
theorem dX7_queue_33 : decode cX7_queue 33 = .ok (.if_icmp .le 23, 3) := by decide +kernel
theorem dX7_queue_36 : decode cX7_queue 36 = .ok (.aload_n 0, 1) := by decide +kernel
theorem dX7_queue_37 : decode cX7_queue 37 = .ok (.getfield 31, 3) := by decide +kernel
theorem dX7_queue_40 : decode cX7_queue 40 = .ok (.iload_n 2, 1) := by decide +kernel
theorem dX7_queue_41 : decode cX7_queue 41 = .ok (.aload_n 0, 1) := by decide +kernel
theorem dX7_queue_42 : decode cX7_queue 42 = .ok (.getfield 31, 3) := by decide +kernel
theorem dX7_queue_45 : decode cX7_queue 45 = .ok (.iload_n 2, 1) := by decide +kernel
theorem dX7_queue_46 : decode cX7_queue 46 = .ok (.iconst 1, 1) := by decide +kernel
theorem dX7_queue_47 : decode cX7_queue 47 = .ok (.isub, 1) := by decide +kernel
theorem dX7_queue_48 : decode cX7_queue 48 = .ok (.iaload, 1) := by decide +kernel
theorem dX7_queue_49 : decode cX7_queue 49 = .ok (.iastore, 1) := by decide +kernel
theorem dX7_queue_50 : decode cX7_queue 50 = .ok (.iinc 2 (-1), 3) := by decide +kernel
theorem dX7_queue_53 : decode cX7_queue 53 = .ok (.goto (-38), 3) := by decide +kernel
theorem dX7_queue_56 : decode cX7_queue 56 = .ok (.aload_n 0, 1) := by decide +kernel
theorem dX7_queue_57 : decode cX7_queue 57 = .ok (.getfield 31, 3) := by decide +kernel
theorem dX7_queue_60 : decode cX7_queue 60 = .ok (.iload_n 2, 1) := by decide +kernel
theorem dX7_queue_61 : decode cX7_queue 61 = .ok (.aload_n 0, 1) := by decide +kernel
theorem dX7_queue_62 : decode cX7_queue 62 = .ok (.getfield 21, 3) := by decide +kernel
theorem dX7_queue_65 : decode cX7_queue 65 = .ok (.iastore, 1) := by decide +kernel
theorem dX7_queue_66 : decode cX7_queue 66 = .ok (.aload_n 0, 1) := by decide +kernel
theorem dX7_queue_67 : decode cX7_queue 67 = .ok (.getfield 28, 3) := by decide +kernel
theorem dX7_queue_70 : decode cX7_queue 70 = .ok (.aload_n 0, 1) := by decide +kernel
theorem dX7_queue_71 : decode cX7_queue 71 = .ok (.getfield 21, 3) := by decide +kernel
theorem dX7_queue_74 : decode cX7_queue 74 = .ok (.iload_n 1, 1) := by decide +kernel
theorem dX7_queue_75 : decode cX7_queue 75 = .ok (.iastore, 1) := by decide +kernel
theorem dX7_queue_76 : decode cX7_queue 76 = .ok (.aload_n 0, 1) := by decide +kernel
theorem dX7_queue_77 : decode cX7_queue 77 = .ok (.dup, 1) := by decide +kernel
theorem dX7_queue_78 : decode cX7_queue 78 = .ok (.getfield 21, 3) := by decide +kernel
theorem dX7_queue_81 : decode cX7_queue 81 = .ok (.iconst 1, 1) := by decide +kernel
theorem dX7_queue_82 : decode cX7_queue 82 = .ok (.iadd, 1) := by decide +kernel
theorem dX7_queue_83 : decode cX7_queue 83 = .ok (.putfield 21, 3) := by decide +kernel
theorem dX7_queue_86 : decode cX7_queue 86 = .ok (.return_, 1) := by decide +kernel
theorem dX7_begin_0 : decode cX7_begin 0 = .ok (.iconst 0, 1) := by decide +kernel
theorem dX7_begin_1 : decode cX7_begin 1 = .ok (.istore_n 1, 1) := by decide +kernel
theorem dX7_begin_2 : decode cX7_begin 2 = .ok (.iload_n 1, 1) := by decide +kernel
theorem dX7_begin_3 : decode cX7_begin 3 = .ok (.iconst 3, 1) := by decide +kernel
theorem dX7_begin_4 : decode cX7_begin 4 = .ok (.if_icmp .ge 21, 3) := by decide +kernel
theorem dX7_begin_7 : decode cX7_begin 7 = .ok (.aload_n 0, 1) := by decide +kernel
theorem dX7_begin_8 : decode cX7_begin 8 = .ok (.getfield 34, 3) := by decide +kernel
theorem dX7_begin_11 : decode cX7_begin 11 = .ok (.iload_n 1, 1) := by decide +kernel
theorem dX7_begin_12 : decode cX7_begin 12 = .ok (.aload_n 0, 1) := by decide +kernel
theorem dX7_begin_13 : decode cX7_begin 13 = .ok (.getfield 15, 3) := by decide +kernel
theorem dX7_begin_16 : decode cX7_begin 16 = .ok (.iload_n 1, 1) := by decide +kernel
theorem dX7_begin_17 : decode cX7_begin 17 = .ok (.iaload, 1) := by decide +kernel
theorem dX7_begin_18 : decode cX7_begin 18 = .ok (.iastore, 1) := by decide +kernel
theorem dX7_begin_19 : decode cX7_begin 19 = .ok (.iinc 1 1, 3) := by decide +kernel
theorem dX7_begin_22 : decode cX7_begin 22 = .ok (.goto (-20), 3) := by decide +kernel
theorem dX7_begin_25 : decode cX7_begin 25 = .ok (.return_, 1) := by decide +kernel
theorem dX7_endOf_0 : decode cX7_endOf 0 = .ok (.aload_n 0, 1) := by decide +kernel
theorem dX7_endOf_1 : decode cX7_endOf 1 = .ok (.getfield 34, 3) := by decide +kernel
theorem dX7_endOf_4 : decode cX7_endOf 4 = .ok (.iload_n 1, 1) := by decide +kernel
theorem dX7_endOf_5 : decode cX7_endOf 5 = .ok (.iaload, 1) := by decide +kernel
theorem dX7_endOf_6 : decode cX7_endOf 6 = .ok (.aload_n 0, 1) := by decide +kernel
theorem dX7_endOf_7 : decode cX7_endOf 7 = .ok (.getfield 28, 3) := by decide +kernel
theorem dX7_endOf_10 : decode cX7_endOf 10 = .ok (.iload_n 2, 1) := by decide +kernel
theorem dX7_endOf_11 : decode cX7_endOf 11 = .ok (.iaload, 1) := by decide +kernel
theorem dX7_endOf_12 : decode cX7_endOf 12 = .ok (.aload_n 0, 1) := by decide +kernel
theorem dX7_endOf_13 : decode cX7_endOf 13 = .ok (.getfield 9, 3) := by decide +kernel
theorem dX7_endOf_16 : decode cX7_endOf 16 = .ok (.iload_n 1, 1) := by decide +kernel
theorem dX7_endOf_17 : decode cX7_endOf 17 = .ok (.iaload, 1) := by decide +kernel
theorem dX7_endOf_18 : decode cX7_endOf 18 = .ok (.invokestatic 40, 3) := by decide +kernel
theorem dX7_endOf_21 : decode cX7_endOf 21 = .ok (.iadd, 1) := by decide +kernel
theorem dX7_endOf_22 : decode cX7_endOf 22 = .ok (.ireturn, 1) := by decide +kernel
theorem dX7_foretold_0 : decode cX7_foretold 0 = .ok (.aload_n 0, 1) := by decide +kernel
theorem dX7_foretold_1 : decode cX7_foretold 1 = .ok (.invokevirtual 44, 3) := by decide +kernel
theorem dX7_foretold_4 : decode cX7_foretold 4 = .ok (.iconst 0, 1) := by decide +kernel
theorem dX7_foretold_5 : decode cX7_foretold 5 = .ok (.istore_n 2, 1) := by decide +kernel
theorem dX7_foretold_6 : decode cX7_foretold 6 = .ok (.iconst 0, 1) := by decide +kernel
theorem dX7_foretold_7 : decode cX7_foretold 7 = .ok (.istore_n 3, 1) := by decide +kernel
theorem dX7_foretold_8 : decode cX7_foretold 8 = .ok (.iload_n 3, 1) := by decide +kernel
theorem dX7_foretold_9 : decode cX7_foretold 9 = .ok (.iload_n 1, 1) := by decide +kernel
theorem dX7_foretold_10 : decode cX7_foretold 10 = .ok (.if_icmp .gt 72, 3) := by decide +kernel
theorem dX7_foretold_13 : decode cX7_foretold 13 = .ok (.iload_n 3, 1) := by decide +kernel
theorem dX7_foretold_14 : decode cX7_foretold 14 = .ok (.aload_n 0, 1) := by decide +kernel
theorem dX7_foretold_15 : decode cX7_foretold 15 = .ok (.getfield 21, 3) := by decide +kernel
theorem dX7_foretold_18 : decode cX7_foretold 18 = .ok (.if_icmp .ge 64, 3) := by decide +kernel
theorem dX7_foretold_21 : decode cX7_foretold 21 = .ok (.iconst 0, 1) := by decide +kernel
theorem dX7_foretold_22 : decode cX7_foretold 22 = .ok (.istore 4, 2) := by decide +kernel
theorem dX7_foretold_24 : decode cX7_foretold 24 = .ok (.iconst 1, 1) := by decide +kernel
theorem dX7_foretold_25 : decode cX7_foretold 25 = .ok (.istore 5, 2) := by decide +kernel
theorem dX7_foretold_27 : decode cX7_foretold 27 = .ok (.iload 5, 2) := by decide +kernel
theorem dX7_foretold_29 : decode cX7_foretold 29 = .ok (.iconst 3, 1) := by decide +kernel
theorem dX7_foretold_30 : decode cX7_foretold 30 = .ok (.if_icmp .ge 30, 3) := by decide +kernel
theorem dX7_foretold_33 : decode cX7_foretold 33 = .ok (.aload_n 0, 1) := by decide +kernel
theorem dX7_foretold_34 : decode cX7_foretold 34 = .ok (.iload 5, 2) := by decide +kernel
theorem dX7_foretold_36 : decode cX7_foretold 36 = .ok (.iload_n 3, 1) := by decide +kernel
theorem dX7_foretold_37 : decode cX7_foretold 37 = .ok (.invokevirtual 47, 3) := by decide +kernel
theorem dX7_foretold_40 : decode cX7_foretold 40 = .ok (.aload_n 0, 1) := by decide +kernel
theorem dX7_foretold_41 : decode cX7_foretold 41 = .ok (.iload 4, 2) := by decide +kernel
theorem dX7_foretold_43 : decode cX7_foretold 43 = .ok (.iload_n 3, 1) := by decide +kernel
theorem dX7_foretold_44 : decode cX7_foretold 44 = .ok (.invokevirtual 47, 3) := by decide +kernel
theorem dX7_foretold_47 : decode cX7_foretold 47 = .ok (.if_icmp .ge 7, 3) := by decide +kernel
theorem dX7_foretold_50 : decode cX7_foretold 50 = .ok (.iload 5, 2) := by decide +kernel
theorem dX7_foretold_52 : decode cX7_foretold 52 = .ok (.istore 4, 2) := by decide +kernel
theorem dX7_foretold_54 : decode cX7_foretold 54 = .ok (.iinc 5 1, 3) := by decide +kernel
theorem dX7_foretold_57 : decode cX7_foretold 57 = .ok (.goto (-30), 3) := by decide +kernel
theorem dX7_foretold_60 : decode cX7_foretold 60 = .ok (.aload_n 0, 1) := by decide +kernel
theorem dX7_foretold_61 : decode cX7_foretold 61 = .ok (.iload 4, 2) := by decide +kernel
theorem dX7_foretold_63 : decode cX7_foretold 63 = .ok (.iload_n 3, 1) := by decide +kernel
theorem dX7_foretold_64 : decode cX7_foretold 64 = .ok (.invokevirtual 47, 3) := by decide +kernel
theorem dX7_foretold_67 : decode cX7_foretold 67 = .ok (.istore_n 2, 1) := by decide +kernel
theorem dX7_foretold_68 : decode cX7_foretold 68 = .ok (.aload_n 0, 1) := by decide +kernel
theorem dX7_foretold_69 : decode cX7_foretold 69 = .ok (.getfield 34, 3) := by decide +kernel
theorem dX7_foretold_72 : decode cX7_foretold 72 = .ok (.iload 4, 2) := by decide +kernel
theorem dX7_foretold_74 : decode cX7_foretold 74 = .ok (.iload_n 2, 1) := by decide +kernel
theorem dX7_foretold_75 : decode cX7_foretold 75 = .ok (.iastore, 1) := by decide +kernel
theorem dX7_foretold_76 : decode cX7_foretold 76 = .ok (.iinc 3 1, 3) := by decide +kernel
theorem dX7_foretold_79 : decode cX7_foretold 79 = .ok (.goto (-71), 3) := by decide +kernel
theorem dX7_foretold_82 : decode cX7_foretold 82 = .ok (.iload_n 2, 1) := by decide +kernel
theorem dX7_foretold_83 : decode cX7_foretold 83 = .ok (.ireturn, 1) := by decide +kernel
theorem dX7_sumOf_0 : decode cX7_sumOf 0 = .ok (.aload_n 0, 1) := by decide +kernel
theorem dX7_sumOf_1 : decode cX7_sumOf 1 = .ok (.invokevirtual 44, 3) := by decide +kernel
theorem dX7_sumOf_4 : decode cX7_sumOf 4 = .ok (.iconst 0, 1) := by decide +kernel
theorem dX7_sumOf_5 : decode cX7_sumOf 5 = .ok (.istore_n 2, 1) := by decide +kernel
theorem dX7_sumOf_6 : decode cX7_sumOf 6 = .ok (.iconst 0, 1) := by decide +kernel
theorem dX7_sumOf_7 : decode cX7_sumOf 7 = .ok (.istore_n 3, 1) := by decide +kernel
theorem dX7_sumOf_8 : decode cX7_sumOf 8 = .ok (.iload_n 3, 1) := by decide +kernel
theorem dX7_sumOf_9 : decode cX7_sumOf 9 = .ok (.aload_n 0, 1) := by decide +kernel
theorem dX7_sumOf_10 : decode cX7_sumOf 10 = .ok (.getfield 21, 3) := by decide +kernel
theorem dX7_sumOf_13 : decode cX7_sumOf 13 = .ok (.if_icmp .ge 68, 3) := by decide +kernel
theorem dX7_sumOf_16 : decode cX7_sumOf 16 = .ok (.aload_n 0, 1) := by decide +kernel
theorem dX7_sumOf_17 : decode cX7_sumOf 17 = .ok (.getfield 31, 3) := by decide +kernel
theorem dX7_sumOf_20 : decode cX7_sumOf 20 = .ok (.iload_n 3, 1) := by decide +kernel
theorem dX7_sumOf_21 : decode cX7_sumOf 21 = .ok (.iaload, 1) := by decide +kernel
theorem dX7_sumOf_22 : decode cX7_sumOf 22 = .ok (.istore 4, 2) := by decide +kernel
theorem dX7_sumOf_24 : decode cX7_sumOf 24 = .ok (.iload 4, 2) := by decide +kernel
theorem dX7_sumOf_26 : decode cX7_sumOf 26 = .ok (.aload_n 1, 1) := by decide +kernel
theorem dX7_sumOf_27 : decode cX7_sumOf 27 = .ok (.arraylength, 1) := by decide +kernel
theorem dX7_sumOf_28 : decode cX7_sumOf 28 = .ok (.if_icmp .ge 10, 3) := by decide +kernel
theorem dX7_sumOf_31 : decode cX7_sumOf 31 = .ok (.aload_n 1, 1) := by decide +kernel
theorem dX7_sumOf_32 : decode cX7_sumOf 32 = .ok (.iload 4, 2) := by decide +kernel
theorem dX7_sumOf_34 : decode cX7_sumOf 34 = .ok (.iaload, 1) := by decide +kernel
theorem dX7_sumOf_35 : decode cX7_sumOf 35 = .ok (.goto 5, 3) := by decide +kernel
theorem dX7_sumOf_38 : decode cX7_sumOf 38 = .ok (.bipush (-9), 2) := by decide +kernel
theorem dX7_sumOf_40 : decode cX7_sumOf 40 = .ok (.istore 5, 2) := by decide +kernel
theorem dX7_sumOf_42 : decode cX7_sumOf 42 = .ok (.iload 5, 2) := by decide +kernel
theorem dX7_sumOf_44 : decode cX7_sumOf 44 = .ok (.invokestatic 50, 3) := by decide +kernel
theorem dX7_sumOf_47 : decode cX7_sumOf 47 = .ok (.ifCond .eq 28, 3) := by decide +kernel
theorem dX7_sumOf_50 : decode cX7_sumOf 50 = .ok (.aload_n 0, 1) := by decide +kernel
theorem dX7_sumOf_51 : decode cX7_sumOf 51 = .ok (.getfield 34, 3) := by decide +kernel
theorem dX7_sumOf_54 : decode cX7_sumOf 54 = .ok (.iload 5, 2) := by decide +kernel
theorem dX7_sumOf_56 : decode cX7_sumOf 56 = .ok (.aload_n 0, 1) := by decide +kernel
theorem dX7_sumOf_57 : decode cX7_sumOf 57 = .ok (.iload 5, 2) := by decide +kernel
theorem dX7_sumOf_59 : decode cX7_sumOf 59 = .ok (.iload 4, 2) := by decide +kernel
theorem dX7_sumOf_61 : decode cX7_sumOf 61 = .ok (.invokevirtual 47, 3) := by decide +kernel
theorem dX7_sumOf_64 : decode cX7_sumOf 64 = .ok (.iastore, 1) := by decide +kernel
theorem dX7_sumOf_65 : decode cX7_sumOf 65 = .ok (.iload_n 2, 1) := by decide +kernel
theorem dX7_sumOf_66 : decode cX7_sumOf 66 = .ok (.aload_n 0, 1) := by decide +kernel
theorem dX7_sumOf_67 : decode cX7_sumOf 67 = .ok (.getfield 34, 3) := by decide +kernel
theorem dX7_sumOf_70 : decode cX7_sumOf 70 = .ok (.iload 5, 2) := by decide +kernel
theorem dX7_sumOf_72 : decode cX7_sumOf 72 = .ok (.iaload, 1) := by decide +kernel
theorem dX7_sumOf_73 : decode cX7_sumOf 73 = .ok (.iadd, 1) := by decide +kernel
theorem dX7_sumOf_74 : decode cX7_sumOf 74 = .ok (.istore_n 2, 1) := by decide +kernel
theorem dX7_sumOf_75 : decode cX7_sumOf 75 = .ok (.iinc 3 1, 3) := by decide +kernel
theorem dX7_sumOf_78 : decode cX7_sumOf 78 = .ok (.goto (-70), 3) := by decide +kernel
theorem dX7_sumOf_81 : decode cX7_sumOf 81 = .ok (.iload_n 2, 1) := by decide +kernel
theorem dX7_sumOf_82 : decode cX7_sumOf 82 = .ok (.ireturn, 1) := by decide +kernel
theorem dX7_workOut_0 : decode cX7_workOut 0 = .ok (.aload_n 0, 1) := by decide +kernel
theorem dX7_workOut_1 : decode cX7_workOut 1 = .ok (.invokevirtual 44, 3) := by decide +kernel
theorem dX7_workOut_4 : decode cX7_workOut 4 = .ok (.aload_n 0, 1) := by decide +kernel
theorem dX7_workOut_5 : decode cX7_workOut 5 = .ok (.ldc 54, 2) := by decide +kernel
theorem dX7_workOut_7 : decode cX7_workOut 7 = .ok (.putfield 25, 3) := by decide +kernel
theorem dX7_workOut_10 : decode cX7_workOut 10 = .ok (.aload_n 0, 1) := by decide +kernel
theorem dX7_workOut_11 : decode cX7_workOut 11 = .ok (.iconst 0, 1) := by decide +kernel
theorem dX7_workOut_12 : decode cX7_workOut 12 = .ok (.iconst 0, 1) := by decide +kernel
theorem dX7_workOut_13 : decode cX7_workOut 13 = .ok (.invokevirtual 55, 3) := by decide +kernel
theorem dX7_workOut_16 : decode cX7_workOut 16 = .ok (.return_, 1) := by decide +kernel
theorem dX7_give_0 : decode cX7_give 0 = .ok (.iload_n 2, 1) := by decide +kernel
theorem dX7_give_1 : decode cX7_give 1 = .ok (.aload_n 0, 1) := by decide +kernel
theorem dX7_give_2 : decode cX7_give 2 = .ok (.getfield 25, 3) := by decide +kernel
theorem dX7_give_5 : decode cX7_give 5 = .ok (.if_icmp .le 4, 3) := by decide +kernel
theorem dX7_give_8 : decode cX7_give 8 = .ok (.return_, 1) := by decide +kernel
theorem dX7_give_9 : decode cX7_give 9 = .ok (.iload_n 1, 1) := by decide +kernel
theorem dX7_give_10 : decode cX7_give 10 = .ok (.aload_n 0, 1) := by decide +kernel
theorem dX7_give_11 : decode cX7_give 11 = .ok (.getfield 21, 3) := by decide +kernel
theorem dX7_give_14 : decode cX7_give 14 = .ok (.if_icmp .ge 9, 3) := by decide +kernel
theorem dX7_give_17 : decode cX7_give 17 = .ok (.iload_n 1, 1) := by decide +kernel
theorem dX7_give_18 : decode cX7_give 18 = .ok (.bipush 6, 2) := by decide +kernel
theorem dX7_give_20 : decode cX7_give 20 = .ok (.if_icmp .lt 9, 3) := by decide +kernel
theorem dX7_give_23 : decode cX7_give 23 = .ok (.aload_n 0, 1) := by decide +kernel
theorem dX7_give_24 : decode cX7_give 24 = .ok (.iload_n 2, 1) := by decide +kernel
theorem dX7_give_25 : decode cX7_give 25 = .ok (.invokevirtual 59, 3) := by decide +kernel
theorem dX7_give_28 : decode cX7_give 28 = .ok (.return_, 1) := by decide +kernel
theorem dX7_give_29 : decode cX7_give 29 = .ok (.aload_n 0, 1) := by decide +kernel
theorem dX7_give_30 : decode cX7_give 30 = .ok (.getfield 31, 3) := by decide +kernel
theorem dX7_give_33 : decode cX7_give 33 = .ok (.iload_n 1, 1) := by decide +kernel
theorem dX7_give_34 : decode cX7_give 34 = .ok (.iaload, 1) := by decide +kernel
theorem dX7_give_35 : decode cX7_give 35 = .ok (.istore_n 3, 1) := by decide +kernel
theorem dX7_give_36 : decode cX7_give 36 = .ok (.iconst 0, 1) := by decide +kernel
theorem dX7_give_37 : decode cX7_give 37 = .ok (.istore 4, 2) := by decide +kernel
theorem dX7_give_39 : decode cX7_give 39 = .ok (.iload 4, 2) := by decide +kernel
theorem dX7_give_41 : decode cX7_give 41 = .ok (.iconst 3, 1) := by decide +kernel
theorem dX7_give_42 : decode cX7_give 42 = .ok (.if_icmp .ge 65, 3) := by decide +kernel
theorem dX7_give_45 : decode cX7_give 45 = .ok (.aload_n 0, 1) := by decide +kernel
theorem dX7_give_46 : decode cX7_give 46 = .ok (.getfield 34, 3) := by decide +kernel
theorem dX7_give_49 : decode cX7_give 49 = .ok (.iload 4, 2) := by decide +kernel
theorem dX7_give_51 : decode cX7_give 51 = .ok (.iaload, 1) := by decide +kernel
theorem dX7_give_52 : decode cX7_give 52 = .ok (.istore 5, 2) := by decide +kernel
theorem dX7_give_54 : decode cX7_give 54 = .ok (.aload_n 0, 1) := by decide +kernel
theorem dX7_give_55 : decode cX7_give 55 = .ok (.getfield 37, 3) := by decide +kernel
theorem dX7_give_58 : decode cX7_give 58 = .ok (.iload_n 3, 1) := by decide +kernel
theorem dX7_give_59 : decode cX7_give 59 = .ok (.iload 4, 2) := by decide +kernel
theorem dX7_give_61 : decode cX7_give 61 = .ok (.iastore, 1) := by decide +kernel
theorem dX7_give_62 : decode cX7_give 62 = .ok (.aload_n 0, 1) := by decide +kernel
theorem dX7_give_63 : decode cX7_give 63 = .ok (.getfield 34, 3) := by decide +kernel
theorem dX7_give_66 : decode cX7_give 66 = .ok (.iload 4, 2) := by decide +kernel
theorem dX7_give_68 : decode cX7_give 68 = .ok (.aload_n 0, 1) := by decide +kernel
theorem dX7_give_69 : decode cX7_give 69 = .ok (.iload 4, 2) := by decide +kernel
theorem dX7_give_71 : decode cX7_give 71 = .ok (.iload_n 3, 1) := by decide +kernel
theorem dX7_give_72 : decode cX7_give 72 = .ok (.invokevirtual 47, 3) := by decide +kernel
theorem dX7_give_75 : decode cX7_give 75 = .ok (.iastore, 1) := by decide +kernel
theorem dX7_give_76 : decode cX7_give 76 = .ok (.aload_n 0, 1) := by decide +kernel
theorem dX7_give_77 : decode cX7_give 77 = .ok (.iload_n 1, 1) := by decide +kernel
theorem dX7_give_78 : decode cX7_give 78 = .ok (.iconst 1, 1) := by decide +kernel
theorem dX7_give_79 : decode cX7_give 79 = .ok (.iadd, 1) := by decide +kernel
theorem dX7_give_80 : decode cX7_give 80 = .ok (.iload_n 2, 1) := by decide +kernel
theorem dX7_give_81 : decode cX7_give 81 = .ok (.aload_n 0, 1) := by decide +kernel
theorem dX7_give_82 : decode cX7_give 82 = .ok (.getfield 34, 3) := by decide +kernel
theorem dX7_give_85 : decode cX7_give 85 = .ok (.iload 4, 2) := by decide +kernel
theorem dX7_give_87 : decode cX7_give 87 = .ok (.iaload, 1) := by decide +kernel
theorem dX7_give_88 : decode cX7_give 88 = .ok (.iadd, 1) := by decide +kernel
theorem dX7_give_89 : decode cX7_give 89 = .ok (.invokevirtual 55, 3) := by decide +kernel
theorem dX7_give_92 : decode cX7_give 92 = .ok (.aload_n 0, 1) := by decide +kernel
theorem dX7_give_93 : decode cX7_give 93 = .ok (.getfield 34, 3) := by decide +kernel
theorem dX7_give_96 : decode cX7_give 96 = .ok (.iload 4, 2) := by decide +kernel
theorem dX7_give_98 : decode cX7_give 98 = .ok (.iload 5, 2) := by decide +kernel
theorem dX7_give_100 : decode cX7_give 100 = .ok (.iastore, 1) := by decide +kernel
theorem dX7_give_101 : decode cX7_give 101 = .ok (.iinc 4 1, 3) := by decide +kernel
theorem dX7_give_104 : decode cX7_give 104 = .ok (.goto (-65), 3) := by decide +kernel
theorem dX7_give_107 : decode cX7_give 107 = .ok (.return_, 1) := by decide +kernel
theorem dX7_settle_0 : decode cX7_settle 0 = .ok (.iload_n 1, 1) := by decide +kernel
theorem dX7_settle_1 : decode cX7_settle 1 = .ok (.aload_n 0, 1) := by decide +kernel
theorem dX7_settle_2 : decode cX7_settle 2 = .ok (.getfield 25, 3) := by decide +kernel
theorem dX7_settle_5 : decode cX7_settle 5 = .ok (.if_icmp .lt 10, 3) := by decide +kernel
theorem dX7_settle_8 : decode cX7_settle 8 = .ok (.aload_n 0, 1) := by decide +kernel
theorem dX7_settle_9 : decode cX7_settle 9 = .ok (.invokevirtual 63, 3) := by decide +kernel
theorem dX7_settle_12 : decode cX7_settle 12 = .ok (.ifCond .eq 25, 3) := by decide +kernel
theorem dX7_settle_15 : decode cX7_settle 15 = .ok (.aload_n 0, 1) := by decide +kernel
theorem dX7_settle_16 : decode cX7_settle 16 = .ok (.iload_n 1, 1) := by decide +kernel
theorem dX7_settle_17 : decode cX7_settle 17 = .ok (.putfield 25, 3) := by decide +kernel
theorem dX7_settle_20 : decode cX7_settle 20 = .ok (.aload_n 0, 1) := by decide +kernel
theorem dX7_settle_21 : decode cX7_settle 21 = .ok (.getfield 37, 3) := by decide +kernel
theorem dX7_settle_24 : decode cX7_settle 24 = .ok (.iconst 0, 1) := by decide +kernel
theorem dX7_settle_25 : decode cX7_settle 25 = .ok (.aload_n 0, 1) := by decide +kernel
theorem dX7_settle_26 : decode cX7_settle 26 = .ok (.getfield 18, 3) := by decide +kernel
theorem dX7_settle_29 : decode cX7_settle 29 = .ok (.iconst 0, 1) := by decide +kernel
theorem dX7_settle_30 : decode cX7_settle 30 = .ok (.aload_n 0, 1) := by decide +kernel
theorem dX7_settle_31 : decode cX7_settle 31 = .ok (.getfield 21, 3) := by decide +kernel
theorem dX7_settle_34 : decode cX7_settle 34 = .ok (.invokestatic 67, 3) := by decide +kernel
theorem dX7_settle_37 : decode cX7_settle 37 = .ok (.return_, 1) := by decide +kernel
theorem dX7_isAheadOfBest_0 : decode cX7_isAheadOfBest 0 = .ok (.iconst 0, 1) := by decide +kernel
theorem dX7_isAheadOfBest_1 : decode cX7_isAheadOfBest 1 = .ok (.istore_n 1, 1) := by decide +kernel
theorem dX7_isAheadOfBest_2 : decode cX7_isAheadOfBest 2 = .ok (.iload_n 1, 1) := by decide +kernel
theorem dX7_isAheadOfBest_3 : decode cX7_isAheadOfBest 3 = .ok (.aload_n 0, 1) := by decide +kernel
theorem dX7_isAheadOfBest_4 : decode cX7_isAheadOfBest 4 = .ok (.getfield 21, 3) := by decide +kernel
theorem dX7_isAheadOfBest_7 : decode cX7_isAheadOfBest 7 = .ok (.if_icmp .ge 45, 3) := by decide +kernel
theorem dX7_isAheadOfBest_10 : decode cX7_isAheadOfBest 10 = .ok (.aload_n 0, 1) := by decide +kernel
theorem dX7_isAheadOfBest_11 : decode cX7_isAheadOfBest 11 = .ok (.getfield 37, 3) := by decide +kernel
theorem dX7_isAheadOfBest_14 : decode cX7_isAheadOfBest 14 = .ok (.iload_n 1, 1) := by decide +kernel
theorem dX7_isAheadOfBest_15 : decode cX7_isAheadOfBest 15 = .ok (.iaload, 1) := by decide +kernel
theorem dX7_isAheadOfBest_16 : decode cX7_isAheadOfBest 16 = .ok (.aload_n 0, 1) := by decide +kernel
theorem dX7_isAheadOfBest_17 : decode cX7_isAheadOfBest 17 = .ok (.getfield 18, 3) := by decide +kernel
theorem dX7_isAheadOfBest_20 : decode cX7_isAheadOfBest 20 = .ok (.iload_n 1, 1) := by decide +kernel
theorem dX7_isAheadOfBest_21 : decode cX7_isAheadOfBest 21 = .ok (.iaload, 1) := by decide +kernel
theorem dX7_isAheadOfBest_22 : decode cX7_isAheadOfBest 22 = .ok (.if_icmp .eq 24, 3) := by decide +kernel
theorem dX7_isAheadOfBest_25 : decode cX7_isAheadOfBest 25 = .ok (.aload_n 0, 1) := by decide +kernel
theorem dX7_isAheadOfBest_26 : decode cX7_isAheadOfBest 26 = .ok (.getfield 37, 3) := by decide +kernel
theorem dX7_isAheadOfBest_29 : decode cX7_isAheadOfBest 29 = .ok (.iload_n 1, 1) := by decide +kernel
theorem dX7_isAheadOfBest_30 : decode cX7_isAheadOfBest 30 = .ok (.iaload, 1) := by decide +kernel
theorem dX7_isAheadOfBest_31 : decode cX7_isAheadOfBest 31 = .ok (.aload_n 0, 1) := by decide +kernel
theorem dX7_isAheadOfBest_32 : decode cX7_isAheadOfBest 32 = .ok (.getfield 18, 3) := by decide +kernel
theorem dX7_isAheadOfBest_35 : decode cX7_isAheadOfBest 35 = .ok (.iload_n 1, 1) := by decide +kernel
theorem dX7_isAheadOfBest_36 : decode cX7_isAheadOfBest 36 = .ok (.iaload, 1) := by decide +kernel
theorem dX7_isAheadOfBest_37 : decode cX7_isAheadOfBest 37 = .ok (.if_icmp .ge 7, 3) := by decide +kernel
theorem dX7_isAheadOfBest_40 : decode cX7_isAheadOfBest 40 = .ok (.iconst 1, 1) := by decide +kernel
theorem dX7_isAheadOfBest_41 : decode cX7_isAheadOfBest 41 = .ok (.goto 4, 3) := by decide +kernel
theorem dX7_isAheadOfBest_44 : decode cX7_isAheadOfBest 44 = .ok (.iconst 0, 1) := by decide +kernel
theorem dX7_isAheadOfBest_45 : decode cX7_isAheadOfBest 45 = .ok (.ireturn, 1) := by decide +kernel
theorem dX7_isAheadOfBest_46 : decode cX7_isAheadOfBest 46 = .ok (.iinc 1 1, 3) := by decide +kernel
theorem dX7_isAheadOfBest_49 : decode cX7_isAheadOfBest 49 = .ok (.goto (-47), 3) := by decide +kernel
theorem dX7_isAheadOfBest_52 : decode cX7_isAheadOfBest 52 = .ok (.iconst 0, 1) := by decide +kernel
theorem dX7_isAheadOfBest_53 : decode cX7_isAheadOfBest 53 = .ok (.ireturn, 1) := by decide +kernel
theorem dX8_init_0 : decode cX8_init 0 = .ok (.aload_n 0, 1) := by decide +kernel
theorem dX8_init_1 : decode cX8_init 1 = .ok (.invokespecial 3, 3) := by decide +kernel
theorem dX8_init_4 : decode cX8_init 4 = .ok (.aload_n 0, 1) := by decide +kernel
theorem dX8_init_5 : decode cX8_init 5 = .ok (.iconst (-1), 1) := by decide +kernel
theorem dX8_init_6 : decode cX8_init 6 = .ok (.putfield 9, 3) := by decide +kernel
theorem dX8_init_9 : decode cX8_init 9 = .ok (.aload_n 0, 1) := by decide +kernel
theorem dX8_init_10 : decode cX8_init 10 = .ok (.bipush 40, 2) := by decide +kernel
theorem dX8_init_12 : decode cX8_init 12 = .ok (.newarray .int, 2) := by decide +kernel
theorem dX8_init_14 : decode cX8_init 14 = .ok (.putfield 15, 3) := by decide +kernel
theorem dX8_init_17 : decode cX8_init 17 = .ok (.return_, 1) := by decide +kernel
theorem dX8_isMissing_0 : decode cX8_isMissing 0 = .ok (.aload_n 0, 1) := by decide +kernel
theorem dX8_isMissing_1 : decode cX8_isMissing 1 = .ok (.getfield 9, 3) := by decide +kernel
theorem dX8_isMissing_4 : decode cX8_isMissing 4 = .ok (.ifCond .ge 7, 3) := by decide +kernel
theorem dX8_isMissing_7 : decode cX8_isMissing 7 = .ok (.iconst 1, 1) := by decide +kernel
theorem dX8_isMissing_8 : decode cX8_isMissing 8 = .ok (.goto 4, 3) := by decide +kernel
theorem dX8_isMissing_11 : decode cX8_isMissing 11 = .ok (.iconst 0, 1) := by decide +kernel
theorem dX8_isMissing_12 : decode cX8_isMissing 12 = .ok (.ireturn, 1) := by decide +kernel
theorem dX8_begin_0 : decode cX8_begin 0 = .ok (.aload_n 0, 1) := by decide +kernel
theorem dX8_begin_1 : decode cX8_begin 1 = .ok (.iload_n 1, 1) := by decide +kernel
theorem dX8_begin_2 : decode cX8_begin 2 = .ok (.putfield 9, 3) := by decide +kernel
theorem dX8_begin_5 : decode cX8_begin 5 = .ok (.iconst 0, 1) := by decide +kernel
theorem dX8_begin_6 : decode cX8_begin 6 = .ok (.istore_n 3, 1) := by decide +kernel
theorem dX8_begin_7 : decode cX8_begin 7 = .ok (.iload_n 3, 1) := by decide +kernel
theorem dX8_begin_8 : decode cX8_begin 8 = .ok (.bipush 40, 2) := by decide +kernel
theorem dX8_begin_10 : decode cX8_begin 10 = .ok (.if_icmp .ge 16, 3) := by decide +kernel
theorem dX8_begin_13 : decode cX8_begin 13 = .ok (.aload_n 0, 1) := by decide +kernel
theorem dX8_begin_14 : decode cX8_begin 14 = .ok (.getfield 15, 3) := by decide +kernel
theorem dX8_begin_17 : decode cX8_begin 17 = .ok (.iload_n 3, 1) := by decide +kernel
theorem dX8_begin_18 : decode cX8_begin 18 = .ok (.iload_n 2, 1) := by decide +kernel
theorem dX8_begin_19 : decode cX8_begin 19 = .ok (.iastore, 1) := by decide +kernel
theorem dX8_begin_20 : decode cX8_begin 20 = .ok (.iinc 3 1, 3) := by decide +kernel
theorem dX8_begin_23 : decode cX8_begin 23 = .ok (.goto (-16), 3) := by decide +kernel
theorem dX8_begin_26 : decode cX8_begin 26 = .ok (.return_, 1) := by decide +kernel
theorem dX8_hasPlace_0 : decode cX8_hasPlace 0 = .ok (.iload_n 1, 1) := by decide +kernel
theorem dX8_hasPlace_1 : decode cX8_hasPlace 1 = .ok (.ifCond .lt 21, 3) := by decide +kernel
theorem dX8_hasPlace_4 : decode cX8_hasPlace 4 = .ok (.iload_n 1, 1) := by decide +kernel
theorem dX8_hasPlace_5 : decode cX8_hasPlace 5 = .ok (.aload_n 0, 1) := by decide +kernel
theorem dX8_hasPlace_6 : decode cX8_hasPlace 6 = .ok (.getfield 9, 3) := by decide +kernel
theorem dX8_hasPlace_9 : decode cX8_hasPlace 9 = .ok (.if_icmp .ge 13, 3) := by decide +kernel
theorem dX8_hasPlace_12 : decode cX8_hasPlace 12 = .ok (.iload_n 1, 1) := by decide +kernel
theorem dX8_hasPlace_13 : decode cX8_hasPlace 13 = .ok (.bipush 40, 2) := by decide +kernel
theorem dX8_hasPlace_15 : decode cX8_hasPlace 15 = .ok (.if_icmp .ge 7, 3) := by decide +kernel
theorem dX8_hasPlace_18 : decode cX8_hasPlace 18 = .ok (.iconst 1, 1) := by decide +kernel
theorem dX8_hasPlace_19 : decode cX8_hasPlace 19 = .ok (.goto 4, 3) := by decide +kernel
theorem dX8_hasPlace_22 : decode cX8_hasPlace 22 = .ok (.iconst 0, 1) := by decide +kernel
theorem dX8_hasPlace_23 : decode cX8_hasPlace 23 = .ok (.ireturn, 1) := by decide +kernel
theorem dX8_hasPlaces_0 : decode cX8_hasPlaces 0 = .ok (.iload_n 1, 1) := by decide +kernel
theorem dX8_hasPlaces_1 : decode cX8_hasPlaces 1 = .ok (.ifCond .lt 21, 3) := by decide +kernel
theorem dX8_hasPlaces_4 : decode cX8_hasPlaces 4 = .ok (.iload_n 2, 1) := by decide +kernel
theorem dX8_hasPlaces_5 : decode cX8_hasPlaces 5 = .ok (.ifCond .lt 17, 3) := by decide +kernel
theorem dX8_hasPlaces_8 : decode cX8_hasPlaces 8 = .ok (.iload_n 1, 1) := by decide +kernel
theorem dX8_hasPlaces_9 : decode cX8_hasPlaces 9 = .ok (.aload_n 0, 1) := by decide +kernel
theorem dX8_hasPlaces_10 : decode cX8_hasPlaces 10 = .ok (.getfield 9, 3) := by decide +kernel
theorem dX8_hasPlaces_13 : decode cX8_hasPlaces 13 = .ok (.iload_n 2, 1) := by decide +kernel
theorem dX8_hasPlaces_14 : decode cX8_hasPlaces 14 = .ok (.isub, 1) := by decide +kernel
theorem dX8_hasPlaces_15 : decode cX8_hasPlaces 15 = .ok (.if_icmp .gt 7, 3) := by decide +kernel
theorem dX8_hasPlaces_18 : decode cX8_hasPlaces 18 = .ok (.iconst 1, 1) := by decide +kernel
theorem dX8_hasPlaces_19 : decode cX8_hasPlaces 19 = .ok (.goto 4, 3) := by decide +kernel
theorem dX8_hasPlaces_22 : decode cX8_hasPlaces 22 = .ok (.iconst 0, 1) := by decide +kernel
theorem dX8_hasPlaces_23 : decode cX8_hasPlaces 23 = .ok (.ireturn, 1) := by decide +kernel
theorem dX8_isWithin_0 : decode cX8_isWithin 0 = .ok (.iconst 0, 1) := by decide +kernel
theorem dX8_isWithin_1 : decode cX8_isWithin 1 = .ok (.istore_n 3, 1) := by decide +kernel
theorem dX8_isWithin_2 : decode cX8_isWithin 2 = .ok (.iload_n 3, 1) := by decide +kernel
theorem dX8_isWithin_3 : decode cX8_isWithin 3 = .ok (.aload_n 0, 1) := by decide +kernel
theorem dX8_isWithin_4 : decode cX8_isWithin 4 = .ok (.getfield 9, 3) := by decide +kernel
theorem dX8_isWithin_7 : decode cX8_isWithin 7 = .ok (.if_icmp .ge 37, 3) := by decide +kernel
theorem dX8_isWithin_10 : decode cX8_isWithin 10 = .ok (.iload_n 3, 1) := by decide +kernel
theorem dX8_isWithin_11 : decode cX8_isWithin 11 = .ok (.bipush 40, 2) := by decide +kernel
theorem dX8_isWithin_13 : decode cX8_isWithin 13 = .ok (.if_icmp .ge 31, 3) := by decide +kernel
theorem dX8_isWithin_16 : decode cX8_isWithin 16 = .ok (.aload_n 0, 1) := by decide +kernel
theorem dX8_isWithin_17 : decode cX8_isWithin 17 = .ok (.getfield 15, 3) := by decide +kernel
theorem dX8_isWithin_20 : decode cX8_isWithin 20 = .ok (.iload_n 3, 1) := by decide +kernel
theorem dX8_isWithin_21 : decode cX8_isWithin 21 = .ok (.iaload, 1) := by decide +kernel
theorem dX8_isWithin_22 : decode cX8_isWithin 22 = .ok (.iload_n 1, 1) := by decide +kernel
theorem dX8_isWithin_23 : decode cX8_isWithin 23 = .ok (.if_icmp .lt 13, 3) := by decide +kernel
theorem dX8_isWithin_26 : decode cX8_isWithin 26 = .ok (.aload_n 0, 1) := by decide +kernel
theorem dX8_isWithin_27 : decode cX8_isWithin 27 = .ok (.getfield 15, 3) := by decide +kernel
theorem dX8_isWithin_30 : decode cX8_isWithin 30 = .ok (.iload_n 3, 1) := by decide +kernel
theorem dX8_isWithin_31 : decode cX8_isWithin 31 = .ok (.iaload, 1) := by decide +kernel
theorem dX8_isWithin_32 : decode cX8_isWithin 32 = .ok (.iload_n 2, 1) := by decide +kernel
theorem dX8_isWithin_33 : decode cX8_isWithin 33 = .ok (.if_icmp .le 5, 3) := by decide +kernel
theorem dX8_isWithin_36 : decode cX8_isWithin 36 = .ok (.iconst 0, 1) := by decide +kernel
theorem dX8_isWithin_37 : decode cX8_isWithin 37 = .ok (.ireturn, 1) := by decide +kernel
theorem dX8_isWithin_38 : decode cX8_isWithin 38 = .ok (.iinc 3 1, 3) := by decide +kernel
theorem dX8_isWithin_41 : decode cX8_isWithin 41 = .ok (.goto (-39), 3) := by decide +kernel
theorem dX8_isWithin_44 : decode cX8_isWithin 44 = .ok (.iconst 1, 1) := by decide +kernel
theorem dX8_isWithin_45 : decode cX8_isWithin 45 = .ok (.ireturn, 1) := by decide +kernel
theorem dX8_sum_0 : decode cX8_sum 0 = .ok (.lconst 0, 1) := by decide +kernel
theorem dX8_sum_1 : decode cX8_sum 1 = .ok (.lstore_n 1, 1) := by decide +kernel
theorem dX8_sum_2 : decode cX8_sum 2 = .ok (.iconst 0, 1) := by decide +kernel
theorem dX8_sum_3 : decode cX8_sum 3 = .ok (.istore_n 3, 1) := by decide +kernel
theorem dX8_sum_4 : decode cX8_sum 4 = .ok (.iload_n 3, 1) := by decide +kernel
theorem dX8_sum_5 : decode cX8_sum 5 = .ok (.aload_n 0, 1) := by decide +kernel
theorem dX8_sum_6 : decode cX8_sum 6 = .ok (.getfield 9, 3) := by decide +kernel
theorem dX8_sum_9 : decode cX8_sum 9 = .ok (.if_icmp .ge 25, 3) := by decide +kernel
theorem dX8_sum_12 : decode cX8_sum 12 = .ok (.iload_n 3, 1) := by decide +kernel
theorem dX8_sum_13 : decode cX8_sum 13 = .ok (.bipush 40, 2) := by decide +kernel
theorem dX8_sum_15 : decode cX8_sum 15 = .ok (.if_icmp .ge 19, 3) := by decide +kernel
theorem dX8_sum_18 : decode cX8_sum 18 = .ok (.lload_n 1, 1) := by decide +kernel
theorem dX8_sum_19 : decode cX8_sum 19 = .ok (.aload_n 0, 1) := by decide +kernel
theorem dX8_sum_20 : decode cX8_sum 20 = .ok (.getfield 15, 3) := by decide +kernel
theorem dX8_sum_23 : decode cX8_sum 23 = .ok (.iload_n 3, 1) := by decide +kernel
theorem dX8_sum_24 : decode cX8_sum 24 = .ok (.iaload, 1) := by decide +kernel
theorem dX8_sum_25 : decode cX8_sum 25 = .ok (.i2l, 1) := by decide +kernel
theorem dX8_sum_26 : decode cX8_sum 26 = .ok (.ladd, 1) := by decide +kernel
theorem dX8_sum_27 : decode cX8_sum 27 = .ok (.lstore_n 1, 1) := by decide +kernel
theorem dX8_sum_28 : decode cX8_sum 28 = .ok (.iinc 3 1, 3) := by decide +kernel
theorem dX8_sum_31 : decode cX8_sum 31 = .ok (.goto (-27), 3) := by decide +kernel
theorem dX8_sum_34 : decode cX8_sum 34 = .ok (.lload_n 1, 1) := by decide +kernel
theorem dX8_sum_35 : decode cX8_sum 35 = .ok (.lreturn, 1) := by decide +kernel
theorem dX9_init_0 : decode cX9_init 0 = .ok (.aload_n 0, 1) := by decide +kernel
theorem dX9_init_1 : decode cX9_init 1 = .ok (.invokespecial 1, 3) := by decide +kernel
theorem dX9_init_4 : decode cX9_init 4 = .ok (.aload_n 0, 1) := by decide +kernel
theorem dX9_init_5 : decode cX9_init 5 = .ok (.iconst 4, 1) := by decide +kernel
theorem dX9_init_6 : decode cX9_init 6 = .ok (.newarray .int, 2) := by decide +kernel
theorem dX9_init_8 : decode cX9_init 8 = .ok (.dup, 1) := by decide +kernel
theorem dX9_init_9 : decode cX9_init 9 = .ok (.iconst 0, 1) := by decide +kernel
theorem dX9_init_10 : decode cX9_init 10 = .ok (.iconst (-1), 1) := by decide +kernel
theorem dX9_init_11 : decode cX9_init 11 = .ok (.iastore, 1) := by decide +kernel
theorem dX9_init_12 : decode cX9_init 12 = .ok (.dup, 1) := by decide +kernel
theorem dX9_init_13 : decode cX9_init 13 = .ok (.iconst 1, 1) := by decide +kernel
theorem dX9_init_14 : decode cX9_init 14 = .ok (.iconst (-1), 1) := by decide +kernel
theorem dX9_init_15 : decode cX9_init 15 = .ok (.iastore, 1) := by decide +kernel
theorem dX9_init_16 : decode cX9_init 16 = .ok (.dup, 1) := by decide +kernel
theorem dX9_init_17 : decode cX9_init 17 = .ok (.iconst 2, 1) := by decide +kernel
theorem dX9_init_18 : decode cX9_init 18 = .ok (.iconst (-1), 1) := by decide +kernel
theorem dX9_init_19 : decode cX9_init 19 = .ok (.iastore, 1) := by decide +kernel
theorem dX9_init_20 : decode cX9_init 20 = .ok (.dup, 1) := by decide +kernel
theorem dX9_init_21 : decode cX9_init 21 = .ok (.iconst 3, 1) := by decide +kernel
theorem dX9_init_22 : decode cX9_init 22 = .ok (.iconst (-1), 1) := by decide +kernel
theorem dX9_init_23 : decode cX9_init 23 = .ok (.iastore, 1) := by decide +kernel
theorem dX9_init_24 : decode cX9_init 24 = .ok (.putfield 7, 3) := by decide +kernel
theorem dX9_init_27 : decode cX9_init 27 = .ok (.aload_n 0, 1) := by decide +kernel
theorem dX9_init_28 : decode cX9_init 28 = .ok (.iload_n 1, 1) := by decide +kernel
theorem dX9_init_29 : decode cX9_init 29 = .ok (.putfield 13, 3) := by decide +kernel
theorem dX9_init_32 : decode cX9_init 32 = .ok (.aload_n 0, 1) := by decide +kernel
theorem dX9_init_33 : decode cX9_init 33 = .ok (.iload_n 2, 1) := by decide +kernel
theorem dX9_init_34 : decode cX9_init 34 = .ok (.putfield 17, 3) := by decide +kernel
theorem dX9_init_37 : decode cX9_init 37 = .ok (.return_, 1) := by decide +kernel
theorem dX9_tellsFrom_0 : decode cX9_tellsFrom 0 = .ok (.aload_n 0, 1) := by decide +kernel
theorem dX9_tellsFrom_1 : decode cX9_tellsFrom 1 = .ok (.getfield 17, 3) := by decide +kernel
theorem dX9_tellsFrom_4 : decode cX9_tellsFrom 4 = .ok (.iload_n 2, 1) := by decide +kernel
theorem dX9_tellsFrom_5 : decode cX9_tellsFrom 5 = .ok (.if_icmp .ne 24, 3) := by decide +kernel
theorem dX9_tellsFrom_8 : decode cX9_tellsFrom 8 = .ok (.aload_n 0, 1) := by decide +kernel
theorem dX9_tellsFrom_9 : decode cX9_tellsFrom 9 = .ok (.getfield 13, 3) := by decide +kernel
theorem dX9_tellsFrom_12 : decode cX9_tellsFrom 12 = .ok (.iload_n 3, 1) := by decide +kernel
theorem dX9_tellsFrom_13 : decode cX9_tellsFrom 13 = .ok (.if_icmp .gt 16, 3) := by decide +kernel
theorem dX9_tellsFrom_16 : decode cX9_tellsFrom 16 = .ok (.aload_n 0, 1) := by decide +kernel
theorem dX9_tellsFrom_17 : decode cX9_tellsFrom 17 = .ok (.getfield 7, 3) := by decide +kernel
theorem dX9_tellsFrom_20 : decode cX9_tellsFrom 20 = .ok (.iload_n 1, 1) := by decide +kernel
theorem dX9_tellsFrom_21 : decode cX9_tellsFrom 21 = .ok (.iaload, 1) := by decide +kernel
theorem dX9_tellsFrom_22 : decode cX9_tellsFrom 22 = .ok (.ifCond .lt 7, 3) := by decide +kernel
theorem dX9_tellsFrom_25 : decode cX9_tellsFrom 25 = .ok (.iconst 1, 1) := by decide +kernel
theorem dX9_tellsFrom_26 : decode cX9_tellsFrom 26 = .ok (.goto 4, 3) := by decide +kernel
theorem dX9_tellsFrom_29 : decode cX9_tellsFrom 29 = .ok (.iconst 0, 1) := by decide +kernel
theorem dX9_tellsFrom_30 : decode cX9_tellsFrom 30 = .ok (.ireturn, 1) := by decide +kernel
theorem dX10_init_0 : decode cX10_init 0 = .ok (.aload_n 0, 1) := by decide +kernel
theorem dX10_init_1 : decode cX10_init 1 = .ok (.invokespecial 3, 3) := by decide +kernel
theorem dX10_init_4 : decode cX10_init 4 = .ok (.aload_n 0, 1) := by decide +kernel
theorem dX10_init_5 : decode cX10_init 5 = .ok (.iconst 0, 1) := by decide +kernel
theorem dX10_init_6 : decode cX10_init 6 = .ok (.putfield 9, 3) := by decide +kernel
theorem dX10_init_9 : decode cX10_init 9 = .ok (.aload_n 0, 1) := by decide +kernel
theorem dX10_init_10 : decode cX10_init 10 = .ok (.bipush (-9), 2) := by decide +kernel
theorem dX10_init_12 : decode cX10_init 12 = .ok (.putfield 15, 3) := by decide +kernel
theorem dX10_init_15 : decode cX10_init 15 = .ok (.aload_n 0, 1) := by decide +kernel
theorem dX10_init_16 : decode cX10_init 16 = .ok (.iload_n 1, 1) := by decide +kernel
theorem dX10_init_17 : decode cX10_init 17 = .ok (.putfield 18, 3) := by decide +kernel
theorem dX10_init_20 : decode cX10_init 20 = .ok (.aload_n 0, 1) := by decide +kernel
theorem dX10_init_21 : decode cX10_init 21 = .ok (.aload_n 2, 1) := by decide +kernel
theorem dX10_init_22 : decode cX10_init 22 = .ok (.putfield 21, 3) := by decide +kernel
theorem dX10_init_25 : decode cX10_init 25 = .ok (.aload_n 0, 1) := by decide +kernel
theorem dX10_init_26 : decode cX10_init 26 = .ok (.iload_n 3, 1) := by decide +kernel
theorem dX10_init_27 : decode cX10_init 27 = .ok (.putfield 25, 3) := by decide +kernel
theorem dX10_init_30 : decode cX10_init 30 = .ok (.aload_n 0, 1) := by decide +kernel
theorem dX10_init_31 : decode cX10_init 31 = .ok (.iload 4, 2) := by decide +kernel
theorem dX10_init_33 : decode cX10_init 33 = .ok (.putfield 28, 3) := by decide +kernel
theorem dX10_init_36 : decode cX10_init 36 = .ok (.return_, 1) := by decide +kernel
theorem dX10_end_0 : decode cX10_end 0 = .ok (.aload_n 0, 1) := by decide +kernel
theorem dX10_end_1 : decode cX10_end 1 = .ok (.iload_n 1, 1) := by decide +kernel
theorem dX10_end_2 : decode cX10_end 2 = .ok (.putfield 9, 3) := by decide +kernel
theorem dX10_end_5 : decode cX10_end 5 = .ok (.aload_n 0, 1) := by decide +kernel
theorem dX10_end_6 : decode cX10_end 6 = .ok (.iload_n 2, 1) := by decide +kernel
theorem dX10_end_7 : decode cX10_end 7 = .ok (.putfield 15, 3) := by decide +kernel
theorem dX10_end_10 : decode cX10_end 10 = .ok (.return_, 1) := by decide +kernel
theorem dX10_tells_0 : decode cX10_tells 0 = .ok (.iload_n 1, 1) := by decide +kernel
theorem dX10_tells_1 : decode cX10_tells 1 = .ok (.tableswitch 54 0 3 #[31, 36, 41, 49], 31) := by decide +kernel
theorem dX10_tells_32 : decode cX10_tells 32 = .ok (.aload_n 0, 1) := by decide +kernel
theorem dX10_tells_33 : decode cX10_tells 33 = .ok (.getfield 9, 3) := by decide +kernel
theorem dX10_tells_36 : decode cX10_tells 36 = .ok (.ireturn, 1) := by decide +kernel
theorem dX10_tells_37 : decode cX10_tells 37 = .ok (.aload_n 0, 1) := by decide +kernel
theorem dX10_tells_38 : decode cX10_tells 38 = .ok (.getfield 18, 3) := by decide +kernel
theorem dX10_tells_41 : decode cX10_tells 41 = .ok (.ireturn, 1) := by decide +kernel
theorem dX10_tells_42 : decode cX10_tells 42 = .ok (.aload_n 0, 1) := by decide +kernel
theorem dX10_tells_43 : decode cX10_tells 43 = .ok (.getfield 21, 3) := by decide +kernel
theorem dX10_tells_46 : decode cX10_tells 46 = .ok (.getfield 31, 3) := by decide +kernel
theorem dX10_tells_49 : decode cX10_tells 49 = .ok (.ireturn, 1) := by decide +kernel
theorem dX10_tells_50 : decode cX10_tells 50 = .ok (.aload_n 0, 1) := by decide +kernel
theorem dX10_tells_51 : decode cX10_tells 51 = .ok (.getfield 25, 3) := by decide +kernel
theorem dX10_tells_54 : decode cX10_tells 54 = .ok (.ireturn, 1) := by decide +kernel
theorem dX10_tells_55 : decode cX10_tells 55 = .ok (.aload_n 0, 1) := by decide +kernel
theorem dX10_tells_56 : decode cX10_tells 56 = .ok (.getfield 15, 3) := by decide +kernel
theorem dX10_tells_59 : decode cX10_tells 59 = .ok (.ireturn, 1) := by decide +kernel
theorem dX11_init_0 : decode cX11_init 0 = .ok (.aload_n 0, 1) := by decide +kernel
theorem dX11_init_1 : decode cX11_init 1 = .ok (.invokespecial 1, 3) := by decide +kernel
theorem dX11_init_4 : decode cX11_init 4 = .ok (.aload_n 0, 1) := by decide +kernel
theorem dX11_init_5 : decode cX11_init 5 = .ok (.bipush 6, 2) := by decide +kernel
theorem dX11_init_7 : decode cX11_init 7 = .ok (.anewarray 9, 3) := by decide +kernel
theorem dX11_init_10 : decode cX11_init 10 = .ok (.putfield 11, 3) := by decide +kernel
theorem dX11_init_13 : decode cX11_init 13 = .ok (.aload_n 0, 1) := by decide +kernel
theorem dX11_init_14 : decode cX11_init 14 = .ok (.iconst 4, 1) := by decide +kernel
theorem dX11_init_15 : decode cX11_init 15 = .ok (.anewarray 9, 3) := by decide +kernel
theorem dX11_init_18 : decode cX11_init 18 = .ok (.putfield 15, 3) := by decide +kernel
theorem dX11_init_21 : decode cX11_init 21 = .ok (.aload_n 0, 1) := by decide +kernel
theorem dX11_init_22 : decode cX11_init 22 = .ok (.new 18, 3) := by decide +kernel
theorem dX11_init_25 : decode cX11_init 25 = .ok (.dup, 1) := by decide +kernel
theorem dX11_init_26 : decode cX11_init 26 = .ok (.invokespecial 20, 3) := by decide +kernel
theorem dX11_init_29 : decode cX11_init 29 = .ok (.putfield 21, 3) := by decide +kernel
theorem dX11_init_32 : decode cX11_init 32 = .ok (.aload_n 0, 1) := by decide +kernel
theorem dX11_init_33 : decode cX11_init 33 = .ok (.new 18, 3) := by decide +kernel
theorem dX11_init_36 : decode cX11_init 36 = .ok (.dup, 1) := by decide +kernel
theorem dX11_init_37 : decode cX11_init 37 = .ok (.invokespecial 20, 3) := by decide +kernel
theorem dX11_init_40 : decode cX11_init 40 = .ok (.putfield 25, 3) := by decide +kernel
theorem dX11_init_43 : decode cX11_init 43 = .ok (.aload_n 0, 1) := by decide +kernel
theorem dX11_init_44 : decode cX11_init 44 = .ok (.new 18, 3) := by decide +kernel
theorem dX11_init_47 : decode cX11_init 47 = .ok (.dup, 1) := by decide +kernel
theorem dX11_init_48 : decode cX11_init 48 = .ok (.invokespecial 20, 3) := by decide +kernel
theorem dX11_init_51 : decode cX11_init 51 = .ok (.putfield 28, 3) := by decide +kernel
theorem dX11_init_54 : decode cX11_init 54 = .ok (.aload_n 0, 1) := by decide +kernel
theorem dX11_init_55 : decode cX11_init 55 = .ok (.new 18, 3) := by decide +kernel
theorem dX11_init_58 : decode cX11_init 58 = .ok (.dup, 1) := by decide +kernel
theorem dX11_init_59 : decode cX11_init 59 = .ok (.invokespecial 20, 3) := by decide +kernel
theorem dX11_init_62 : decode cX11_init 62 = .ok (.putfield 31, 3) := by decide +kernel
theorem dX11_init_65 : decode cX11_init 65 = .ok (.aload_n 0, 1) := by decide +kernel
theorem dX11_init_66 : decode cX11_init 66 = .ok (.new 18, 3) := by decide +kernel
theorem dX11_init_69 : decode cX11_init 69 = .ok (.dup, 1) := by decide +kernel
theorem dX11_init_70 : decode cX11_init 70 = .ok (.invokespecial 20, 3) := by decide +kernel
theorem dX11_init_73 : decode cX11_init 73 = .ok (.putfield 34, 3) := by decide +kernel
theorem dX11_init_76 : decode cX11_init 76 = .ok (.aload_n 0, 1) := by decide +kernel
theorem dX11_init_77 : decode cX11_init 77 = .ok (.new 18, 3) := by decide +kernel
theorem dX11_init_80 : decode cX11_init 80 = .ok (.dup, 1) := by decide +kernel
theorem dX11_init_81 : decode cX11_init 81 = .ok (.invokespecial 20, 3) := by decide +kernel
theorem dX11_init_84 : decode cX11_init 84 = .ok (.putfield 37, 3) := by decide +kernel
theorem dX11_init_87 : decode cX11_init 87 = .ok (.aload_n 0, 1) := by decide +kernel
theorem dX11_init_88 : decode cX11_init 88 = .ok (.new 40, 3) := by decide +kernel
theorem dX11_init_91 : decode cX11_init 91 = .ok (.dup, 1) := by decide +kernel
theorem dX11_init_92 : decode cX11_init 92 = .ok (.invokespecial 42, 3) := by decide +kernel
theorem dX11_init_95 : decode cX11_init 95 = .ok (.putfield 43, 3) := by decide +kernel
theorem dX11_init_98 : decode cX11_init 98 = .ok (.aload_n 0, 1) := by decide +kernel
theorem dX11_init_99 : decode cX11_init 99 = .ok (.new 47, 3) := by decide +kernel
theorem dX11_init_102 : decode cX11_init 102 = .ok (.dup, 1) := by decide +kernel
theorem dX11_init_103 : decode cX11_init 103 = .ok (.invokespecial 49, 3) := by decide +kernel
theorem dX11_init_106 : decode cX11_init 106 = .ok (.putfield 50, 3) := by decide +kernel
theorem dX11_init_109 : decode cX11_init 109 = .ok (.aload_n 0, 1) := by decide +kernel
theorem dX11_init_110 : decode cX11_init 110 = .ok (.new 54, 3) := by decide +kernel
theorem dX11_init_113 : decode cX11_init 113 = .ok (.dup, 1) := by decide +kernel
theorem dX11_init_114 : decode cX11_init 114 = .ok (.invokespecial 56, 3) := by decide +kernel
theorem dX11_init_117 : decode cX11_init 117 = .ok (.putfield 57, 3) := by decide +kernel
theorem dX11_init_120 : decode cX11_init 120 = .ok (.aload_n 0, 1) := by decide +kernel
theorem dX11_init_121 : decode cX11_init 121 = .ok (.iconst 3, 1) := by decide +kernel
theorem dX11_init_122 : decode cX11_init 122 = .ok (.newarray .int, 2) := by decide +kernel
theorem dX11_init_124 : decode cX11_init 124 = .ok (.dup, 1) := by decide +kernel
theorem dX11_init_125 : decode cX11_init 125 = .ok (.iconst 0, 1) := by decide +kernel
theorem dX11_init_126 : decode cX11_init 126 = .ok (.iconst 1, 1) := by decide +kernel
theorem dX11_init_127 : decode cX11_init 127 = .ok (.iastore, 1) := by decide +kernel
theorem dX11_init_128 : decode cX11_init 128 = .ok (.dup, 1) := by decide +kernel
theorem dX11_init_129 : decode cX11_init 129 = .ok (.iconst 1, 1) := by decide +kernel
theorem dX11_init_130 : decode cX11_init 130 = .ok (.iconst 1, 1) := by decide +kernel
theorem dX11_init_131 : decode cX11_init 131 = .ok (.iastore, 1) := by decide +kernel
theorem dX11_init_132 : decode cX11_init 132 = .ok (.dup, 1) := by decide +kernel
theorem dX11_init_133 : decode cX11_init 133 = .ok (.iconst 2, 1) := by decide +kernel
theorem dX11_init_134 : decode cX11_init 134 = .ok (.iconst 1, 1) := by decide +kernel
theorem dX11_init_135 : decode cX11_init 135 = .ok (.iastore, 1) := by decide +kernel
theorem dX11_init_136 : decode cX11_init 136 = .ok (.putfield 61, 3) := by decide +kernel
theorem dX11_init_139 : decode cX11_init 139 = .ok (.aload_n 0, 1) := by decide +kernel
theorem dX11_init_140 : decode cX11_init 140 = .ok (.iconst 3, 1) := by decide +kernel
theorem dX11_init_141 : decode cX11_init 141 = .ok (.newarray .int, 2) := by decide +kernel
theorem dX11_init_143 : decode cX11_init 143 = .ok (.putfield 65, 3) := by decide +kernel
theorem dX11_init_146 : decode cX11_init 146 = .ok (.aload_n 0, 1) := by decide +kernel
theorem dX11_init_147 : decode cX11_init 147 = .ok (.bipush 6, 2) := by decide +kernel
theorem dX11_init_149 : decode cX11_init 149 = .ok (.newarray .int, 2) := by decide +kernel
theorem dX11_init_151 : decode cX11_init 151 = .ok (.putfield 68, 3) := by decide +kernel
theorem dX11_init_154 : decode cX11_init 154 = .ok (.aload_n 0, 1) := by decide +kernel
theorem dX11_init_155 : decode cX11_init 155 = .ok (.iconst 0, 1) := by decide +kernel
theorem dX11_init_156 : decode cX11_init 156 = .ok (.putfield 71, 3) := by decide +kernel
theorem dX11_init_159 : decode cX11_init 159 = .ok (.aload_n 0, 1) := by decide +kernel
theorem dX11_init_160 : decode cX11_init 160 = .ok (.iconst 0, 1) := by decide +kernel
theorem dX11_init_161 : decode cX11_init 161 = .ok (.putfield 75, 3) := by decide +kernel
theorem dX11_init_164 : decode cX11_init 164 = .ok (.aload_n 0, 1) := by decide +kernel
theorem dX11_init_165 : decode cX11_init 165 = .ok (.iconst 0, 1) := by decide +kernel
theorem dX11_init_166 : decode cX11_init 166 = .ok (.putfield 78, 3) := by decide +kernel
theorem dX11_init_169 : decode cX11_init 169 = .ok (.aload_n 0, 1) := by decide +kernel
theorem dX11_init_170 : decode cX11_init 170 = .ok (.lconst 0, 1) := by decide +kernel
theorem dX11_init_171 : decode cX11_init 171 = .ok (.putfield 81, 3) := by decide +kernel
theorem dX11_init_174 : decode cX11_init 174 = .ok (.aload_n 0, 1) := by decide +kernel
theorem dX11_init_175 : decode cX11_init 175 = .ok (.lconst 1, 1) := by decide +kernel
theorem dX11_init_176 : decode cX11_init 176 = .ok (.putfield 85, 3) := by decide +kernel
theorem dX11_init_179 : decode cX11_init 179 = .ok (.aload_n 0, 1) := by decide +kernel
theorem dX11_init_180 : decode cX11_init 180 = .ok (.iconst 0, 1) := by decide +kernel
theorem dX11_init_181 : decode cX11_init 181 = .ok (.putfield 88, 3) := by decide +kernel
theorem dX11_init_184 : decode cX11_init 184 = .ok (.aload_n 0, 1) := by decide +kernel
theorem dX11_init_185 : decode cX11_init 185 = .ok (.iconst 0, 1) := by decide +kernel
theorem dX11_init_186 : decode cX11_init 186 = .ok (.putfield 91, 3) := by decide +kernel
theorem dX11_init_189 : decode cX11_init 189 = .ok (.iconst 0, 1) := by decide +kernel
theorem dX11_init_190 : decode cX11_init 190 = .ok (.istore_n 1, 1) := by decide +kernel
theorem dX11_init_191 : decode cX11_init 191 = .ok (.iload_n 1, 1) := by decide +kernel
theorem dX11_init_192 : decode cX11_init 192 = .ok (.bipush 6, 2) := by decide +kernel
theorem dX11_init_194 : decode cX11_init 194 = .ok (.if_icmp .ge 22, 3) := by decide +kernel
theorem dX11_init_197 : decode cX11_init 197 = .ok (.aload_n 0, 1) := by decide +kernel
theorem dX11_init_198 : decode cX11_init 198 = .ok (.getfield 11, 3) := by decide +kernel
theorem dX11_init_201 : decode cX11_init 201 = .ok (.iload_n 1, 1) := by decide +kernel
theorem dX11_init_202 : decode cX11_init 202 = .ok (.new 9, 3) := by decide +kernel
theorem dX11_init_205 : decode cX11_init 205 = .ok (.dup, 1) := by decide +kernel
theorem dX11_init_206 : decode cX11_init 206 = .ok (.invokespecial 94, 3) := by decide +kernel
theorem dX11_init_209 : decode cX11_init 209 = .ok (.aastore, 1) := by decide +kernel
theorem dX11_init_210 : decode cX11_init 210 = .ok (.iinc 1 1, 3) := by decide +kernel
theorem dX11_init_213 : decode cX11_init 213 = .ok (.goto (-22), 3) := by decide +kernel
theorem dX11_init_216 : decode cX11_init 216 = .ok (.iconst 0, 1) := by decide +kernel
theorem dX11_init_217 : decode cX11_init 217 = .ok (.istore_n 1, 1) := by decide +kernel
theorem dX11_init_218 : decode cX11_init 218 = .ok (.iload_n 1, 1) := by decide +kernel
theorem dX11_init_219 : decode cX11_init 219 = .ok (.iconst 4, 1) := by decide +kernel
theorem dX11_init_220 : decode cX11_init 220 = .ok (.if_icmp .ge 22, 3) := by decide +kernel
theorem dX11_init_223 : decode cX11_init 223 = .ok (.aload_n 0, 1) := by decide +kernel
theorem dX11_init_224 : decode cX11_init 224 = .ok (.getfield 15, 3) := by decide +kernel
theorem dX11_init_227 : decode cX11_init 227 = .ok (.iload_n 1, 1) := by decide +kernel
theorem dX11_init_228 : decode cX11_init 228 = .ok (.new 9, 3) := by decide +kernel
theorem dX11_init_231 : decode cX11_init 231 = .ok (.dup, 1) := by decide +kernel
theorem dX11_init_232 : decode cX11_init 232 = .ok (.invokespecial 94, 3) := by decide +kernel
theorem dX11_init_235 : decode cX11_init 235 = .ok (.aastore, 1) := by decide +kernel
theorem dX11_init_236 : decode cX11_init 236 = .ok (.iinc 1 1, 3) := by decide +kernel
theorem dX11_init_239 : decode cX11_init 239 = .ok (.goto (-21), 3) := by decide +kernel
theorem dX11_init_242 : decode cX11_init 242 = .ok (.return_, 1) := by decide +kernel
theorem dX11_row_0 : decode cX11_row 0 = .ok (.aload_n 0, 1) := by decide +kernel
theorem dX11_row_1 : decode cX11_row 1 = .ok (.iload_n 1, 1) := by decide +kernel
theorem dX11_row_2 : decode cX11_row 2 = .ok (.invokevirtual 95, 3) := by decide +kernel
theorem dX11_row_5 : decode cX11_row 5 = .ok (.astore_n 3, 1) := by decide +kernel
theorem dX11_row_6 : decode cX11_row 6 = .ok (.aload_n 3, 1) := by decide +kernel
theorem dX11_row_7 : decode cX11_row 7 = .ok (.ifnull 9, 3) := by decide +kernel
theorem dX11_row_10 : decode cX11_row 10 = .ok (.iload_n 2, 1) := by decide +kernel
theorem dX11_row_11 : decode cX11_row 11 = .ok (.bipush 40, 2) := by decide +kernel
theorem dX11_row_13 : decode cX11_row 13 = .ok (.if_icmp .le 5, 3) := by decide +kernel
theorem dX11_row_16 : decode cX11_row 16 = .ok (.iconst (-1), 1) := by decide +kernel
theorem dX11_row_17 : decode cX11_row 17 = .ok (.ireturn, 1) := by decide +kernel
theorem dX11_row_18 : decode cX11_row 18 = .ok (.iload_n 2, 1) := by decide +kernel
theorem dX11_row_19 : decode cX11_row 19 = .ok (.ifCond .ge 9, 3) := by decide +kernel
theorem dX11_row_22 : decode cX11_row 22 = .ok (.aload_n 0, 1) := by decide +kernel
theorem dX11_row_23 : decode cX11_row 23 = .ok (.iconst 5, 1) := by decide +kernel
theorem dX11_row_24 : decode cX11_row 24 = .ok (.invokevirtual 99, 3) := by decide +kernel
theorem dX11_row_27 : decode cX11_row 27 = .ok (.ireturn, 1) := by decide +kernel
theorem dX11_row_28 : decode cX11_row 28 = .ok (.aload_n 3, 1) := by decide +kernel
theorem dX11_row_29 : decode cX11_row 29 = .ok (.iload_n 2, 1) := by decide +kernel
theorem dX11_row_30 : decode cX11_row 30 = .ok (.iconst 0, 1) := by decide +kernel
theorem dX11_row_31 : decode cX11_row 31 = .ok (.invokevirtual 103, 3) := by decide +kernel
theorem dX11_row_34 : decode cX11_row 34 = .ok (.iload_n 2, 1) := by decide +kernel
theorem dX11_row_35 : decode cX11_row 35 = .ok (.ireturn, 1) := by decide +kernel
theorem dX11_lay_0 : decode cX11_lay 0 = .ok (.aload_n 0, 1) := by decide +kernel
theorem dX11_lay_1 : decode cX11_lay 1 = .ok (.iload_n 1, 1) := by decide +kernel
theorem dX11_lay_2 : decode cX11_lay 2 = .ok (.invokevirtual 95, 3) := by decide +kernel
theorem dX11_lay_5 : decode cX11_lay 5 = .ok (.astore 4, 2) := by decide +kernel
theorem dX11_lay_7 : decode cX11_lay 7 = .ok (.aload 4, 2) := by decide +kernel
theorem dX11_lay_9 : decode cX11_lay 9 = .ok (.ifnonnull 5, 3) := by decide +kernel
theorem dX11_lay_12 : decode cX11_lay 12 = .ok (.iconst (-1), 1) := by decide +kernel
theorem dX11_lay_13 : decode cX11_lay 13 = .ok (.ireturn, 1) := by decide +kernel
theorem dX11_lay_14 : decode cX11_lay 14 = .ok (.aload 4, 2) := by decide +kernel
theorem dX11_lay_16 : decode cX11_lay 16 = .ok (.invokevirtual 107, 3) := by decide +kernel
theorem dX11_lay_19 : decode cX11_lay 19 = .ok (.ifCond .eq 9, 3) := by decide +kernel
theorem dX11_lay_22 : decode cX11_lay 22 = .ok (.aload_n 0, 1) := by decide +kernel
theorem dX11_lay_23 : decode cX11_lay 23 = .ok (.iconst 1, 1) := by decide +kernel
theorem dX11_lay_24 : decode cX11_lay 24 = .ok (.invokevirtual 99, 3) := by decide +kernel
theorem dX11_lay_27 : decode cX11_lay 27 = .ok (.ireturn, 1) := by decide +kernel
theorem dX11_lay_28 : decode cX11_lay 28 = .ok (.aload 4, 2) := by decide +kernel
theorem dX11_lay_30 : decode cX11_lay 30 = .ok (.iload_n 2, 1) := by decide +kernel
theorem dX11_lay_31 : decode cX11_lay 31 = .ok (.invokevirtual 111, 3) := by decide +kernel
theorem dX11_lay_34 : decode cX11_lay 34 = .ok (.ifCond .ne 9, 3) := by decide +kernel
theorem dX11_lay_37 : decode cX11_lay 37 = .ok (.aload_n 0, 1) := by decide +kernel
theorem dX11_lay_38 : decode cX11_lay 38 = .ok (.iconst 2, 1) := by decide +kernel
theorem dX11_lay_39 : decode cX11_lay 39 = .ok (.invokevirtual 99, 3) := by decide +kernel
theorem dX11_lay_42 : decode cX11_lay 42 = .ok (.ireturn, 1) := by decide +kernel
theorem dX11_lay_43 : decode cX11_lay 43 = .ok (.aload_n 0, 1) := by decide +kernel
theorem dX11_lay_44 : decode cX11_lay 44 = .ok (.aload 4, 2) := by decide +kernel
theorem dX11_lay_46 : decode cX11_lay 46 = .ok (.getfield 115, 3) := by decide +kernel
theorem dX11_lay_49 : decode cX11_lay 49 = .ok (.iload_n 2, 1) := by decide +kernel
theorem dX11_lay_50 : decode cX11_lay 50 = .ok (.iaload, 1) := by decide +kernel
theorem dX11_lay_51 : decode cX11_lay 51 = .ok (.putfield 78, 3) := by decide +kernel
theorem dX11_lay_54 : decode cX11_lay 54 = .ok (.aload 4, 2) := by decide +kernel
theorem dX11_lay_56 : decode cX11_lay 56 = .ok (.getfield 115, 3) := by decide +kernel
theorem dX11_lay_59 : decode cX11_lay 59 = .ok (.iload_n 2, 1) := by decide +kernel
theorem dX11_lay_60 : decode cX11_lay 60 = .ok (.iload_n 3, 1) := by decide +kernel
theorem dX11_lay_61 : decode cX11_lay 61 = .ok (.iastore, 1) := by decide +kernel
theorem dX11_lay_62 : decode cX11_lay 62 = .ok (.iconst 1, 1) := by decide +kernel
theorem dX11_lay_63 : decode cX11_lay 63 = .ok (.ireturn, 1) := by decide +kernel
theorem dX11_tear_0 : decode cX11_tear 0 = .ok (.aload_n 0, 1) := by decide +kernel
theorem dX11_tear_1 : decode cX11_tear 1 = .ok (.iload_n 1, 1) := by decide +kernel
theorem dX11_tear_2 : decode cX11_tear 2 = .ok (.invokevirtual 95, 3) := by decide +kernel
theorem dX11_tear_5 : decode cX11_tear 5 = .ok (.astore_n 2, 1) := by decide +kernel
theorem dX11_tear_6 : decode cX11_tear 6 = .ok (.aload_n 2, 1) := by decide +kernel
theorem dX11_tear_7 : decode cX11_tear 7 = .ok (.ifnonnull 5, 3) := by decide +kernel
theorem dX11_tear_10 : decode cX11_tear 10 = .ok (.iconst (-1), 1) := by decide +kernel
theorem dX11_tear_11 : decode cX11_tear 11 = .ok (.ireturn, 1) := by decide +kernel
theorem dX11_tear_12 : decode cX11_tear 12 = .ok (.aload_n 2, 1) := by decide +kernel
theorem dX11_tear_13 : decode cX11_tear 13 = .ok (.invokevirtual 107, 3) := by decide +kernel
theorem dX11_tear_16 : decode cX11_tear 16 = .ok (.ifCond .eq 9, 3) := by decide +kernel
theorem dX11_tear_19 : decode cX11_tear 19 = .ok (.aload_n 0, 1) := by decide +kernel
theorem dX11_tear_20 : decode cX11_tear 20 = .ok (.iconst 1, 1) := by decide +kernel
theorem dX11_tear_21 : decode cX11_tear 21 = .ok (.invokevirtual 99, 3) := by decide +kernel
theorem dX11_tear_24 : decode cX11_tear 24 = .ok (.ireturn, 1) := by decide +kernel
theorem dX11_tear_25 : decode cX11_tear 25 = .ok (.aload_n 2, 1) := by decide +kernel
theorem dX11_tear_26 : decode cX11_tear 26 = .ok (.iconst (-1), 1) := by decide +kernel
theorem dX11_tear_27 : decode cX11_tear 27 = .ok (.putfield 118, 3) := by decide +kernel
theorem dX11_tear_30 : decode cX11_tear 30 = .ok (.iconst 1, 1) := by decide +kernel
theorem dX11_tear_31 : decode cX11_tear 31 = .ok (.ireturn, 1) := by decide +kernel
theorem dX11_copy_0 : decode cX11_copy 0 = .ok (.aload_n 0, 1) := by decide +kernel
theorem dX11_copy_1 : decode cX11_copy 1 = .ok (.iload_n 1, 1) := by decide +kernel
theorem dX11_copy_2 : decode cX11_copy 2 = .ok (.invokevirtual 95, 3) := by decide +kernel
theorem dX11_copy_5 : decode cX11_copy 5 = .ok (.astore 6, 2) := by decide +kernel
theorem dX11_copy_7 : decode cX11_copy 7 = .ok (.aload_n 0, 1) := by decide +kernel
theorem dX11_copy_8 : decode cX11_copy 8 = .ok (.iload_n 3, 1) := by decide +kernel
theorem dX11_copy_9 : decode cX11_copy 9 = .ok (.invokevirtual 95, 3) := by decide +kernel
theorem dX11_copy_12 : decode cX11_copy 12 = .ok (.astore 7, 2) := by decide +kernel
theorem dX11_copy_14 : decode cX11_copy 14 = .ok (.aload 6, 2) := by decide +kernel
theorem dX11_copy_16 : decode cX11_copy 16 = .ok (.ifnull 8, 3) := by decide +kernel
theorem dX11_copy_19 : decode cX11_copy 19 = .ok (.aload 7, 2) := by decide +kernel
theorem dX11_copy_21 : decode cX11_copy 21 = .ok (.ifnonnull 5, 3) := by decide +kernel
theorem dX11_copy_24 : decode cX11_copy 24 = .ok (.iconst (-1), 1) := by decide +kernel
theorem dX11_copy_25 : decode cX11_copy 25 = .ok (.ireturn, 1) := by decide +kernel
theorem dX11_copy_26 : decode cX11_copy 26 = .ok (.iload 5, 2) := by decide +kernel
theorem dX11_copy_28 : decode cX11_copy 28 = .ok (.ifCond .ge 9, 3) := by decide +kernel
theorem dX11_copy_31 : decode cX11_copy 31 = .ok (.aload_n 0, 1) := by decide +kernel
theorem dX11_copy_32 : decode cX11_copy 32 = .ok (.iconst 5, 1) := by decide +kernel
theorem dX11_copy_33 : decode cX11_copy 33 = .ok (.invokevirtual 99, 3) := by decide +kernel
theorem dX11_copy_36 : decode cX11_copy 36 = .ok (.ireturn, 1) := by decide +kernel
theorem dX11_copy_37 : decode cX11_copy 37 = .ok (.aload 6, 2) := by decide +kernel
theorem dX11_copy_39 : decode cX11_copy 39 = .ok (.invokevirtual 107, 3) := by decide +kernel
theorem dX11_copy_42 : decode cX11_copy 42 = .ok (.ifCond .ne 11, 3) := by decide +kernel
theorem dX11_copy_45 : decode cX11_copy 45 = .ok (.aload 7, 2) := by decide +kernel
theorem dX11_copy_47 : decode cX11_copy 47 = .ok (.invokevirtual 107, 3) := by decide +kernel
theorem dX11_copy_50 : decode cX11_copy 50 = .ok (.ifCond .eq 9, 3) := by decide +kernel
theorem dX11_copy_53 : decode cX11_copy 53 = .ok (.aload_n 0, 1) := by decide +kernel
theorem dX11_copy_54 : decode cX11_copy 54 = .ok (.iconst 1, 1) := by decide +kernel
theorem dX11_copy_55 : decode cX11_copy 55 = .ok (.invokevirtual 99, 3) := by decide +kernel
theorem dX11_copy_58 : decode cX11_copy 58 = .ok (.ireturn, 1) := by decide +kernel
theorem dX11_copy_59 : decode cX11_copy 59 = .ok (.aload 6, 2) := by decide +kernel
theorem dX11_copy_61 : decode cX11_copy 61 = .ok (.iload_n 2, 1) := by decide +kernel
theorem dX11_copy_62 : decode cX11_copy 62 = .ok (.iload 5, 2) := by decide +kernel
theorem dX11_copy_64 : decode cX11_copy 64 = .ok (.invokevirtual 121, 3) := by decide +kernel
theorem dX11_copy_67 : decode cX11_copy 67 = .ok (.ifCond .eq 15, 3) := by decide +kernel
theorem dX11_copy_70 : decode cX11_copy 70 = .ok (.aload 7, 2) := by decide +kernel
theorem dX11_copy_72 : decode cX11_copy 72 = .ok (.iload 4, 2) := by decide +kernel
theorem dX11_copy_74 : decode cX11_copy 74 = .ok (.iload 5, 2) := by decide +kernel
theorem dX11_copy_76 : decode cX11_copy 76 = .ok (.invokevirtual 121, 3) := by decide +kernel
theorem dX11_copy_79 : decode cX11_copy 79 = .ok (.ifCond .ne 9, 3) := by decide +kernel
theorem dX11_copy_82 : decode cX11_copy 82 = .ok (.aload_n 0, 1) := by decide +kernel
theorem dX11_copy_83 : decode cX11_copy 83 = .ok (.iconst 2, 1) := by decide +kernel
theorem dX11_copy_84 : decode cX11_copy 84 = .ok (.invokevirtual 99, 3) := by decide +kernel
theorem dX11_copy_87 : decode cX11_copy 87 = .ok (.ireturn, 1) := by decide +kernel
theorem dX11_copy_88 : decode cX11_copy 88 = .ok (.aload 6, 2) := by decide +kernel
theorem dX11_copy_90 : decode cX11_copy 90 = .ok (.getfield 115, 3) := by decide +kernel
theorem dX11_copy_93 : decode cX11_copy 93 = .ok (.iload_n 2, 1) := by decide +kernel
theorem dX11_copy_94 : decode cX11_copy 94 = .ok (.aload 7, 2) := by decide +kernel
theorem dX11_copy_96 : decode cX11_copy 96 = .ok (.getfield 115, 3) := by decide +kernel
theorem dX11_copy_99 : decode cX11_copy 99 = .ok (.iload 4, 2) := by decide +kernel
theorem dX11_copy_101 : decode cX11_copy 101 = .ok (.iload 5, 2) := by decide +kernel
theorem dX11_copy_103 : decode cX11_copy 103 = .ok (.invokestatic 125, 3) := by decide +kernel
theorem dX11_copy_106 : decode cX11_copy 106 = .ok (.iconst 1, 1) := by decide +kernel
theorem dX11_copy_107 : decode cX11_copy 107 = .ok (.ireturn, 1) := by decide +kernel
theorem dX11_mean_0 : decode cX11_mean 0 = .ok (.aload_n 0, 1) := by decide +kernel
theorem dX11_mean_1 : decode cX11_mean 1 = .ok (.iload_n 1, 1) := by decide +kernel
theorem dX11_mean_2 : decode cX11_mean 2 = .ok (.invokevirtual 95, 3) := by decide +kernel
theorem dX11_mean_5 : decode cX11_mean 5 = .ok (.astore_n 2, 1) := by decide +kernel
theorem dX11_mean_6 : decode cX11_mean 6 = .ok (.aload_n 2, 1) := by decide +kernel
theorem dX11_mean_7 : decode cX11_mean 7 = .ok (.ifnonnull 5, 3) := by decide +kernel
theorem dX11_mean_10 : decode cX11_mean 10 = .ok (.iconst (-1), 1) := by decide +kernel
theorem dX11_mean_11 : decode cX11_mean 11 = .ok (.ireturn, 1) := by decide +kernel
theorem dX11_mean_12 : decode cX11_mean 12 = .ok (.aload_n 2, 1) := by decide +kernel
theorem dX11_mean_13 : decode cX11_mean 13 = .ok (.invokevirtual 107, 3) := by decide +kernel
theorem dX11_mean_16 : decode cX11_mean 16 = .ok (.ifCond .eq 9, 3) := by decide +kernel
theorem dX11_mean_19 : decode cX11_mean 19 = .ok (.aload_n 0, 1) := by decide +kernel
theorem dX11_mean_20 : decode cX11_mean 20 = .ok (.iconst 1, 1) := by decide +kernel
theorem dX11_mean_21 : decode cX11_mean 21 = .ok (.invokevirtual 99, 3) := by decide +kernel
theorem dX11_mean_24 : decode cX11_mean 24 = .ok (.ireturn, 1) := by decide +kernel
theorem dX11_mean_25 : decode cX11_mean 25 = .ok (.aload_n 2, 1) := by decide +kernel
theorem dX11_mean_26 : decode cX11_mean 26 = .ok (.getfield 118, 3) := by decide +kernel
theorem dX11_mean_29 : decode cX11_mean 29 = .ok (.ifCond .ne 9, 3) := by decide +kernel
theorem dX11_mean_32 : decode cX11_mean 32 = .ok (.aload_n 0, 1) := by decide +kernel
theorem dX11_mean_33 : decode cX11_mean 33 = .ok (.iconst 4, 1) := by decide +kernel
theorem dX11_mean_34 : decode cX11_mean 34 = .ok (.invokevirtual 99, 3) := by decide +kernel
theorem dX11_mean_37 : decode cX11_mean 37 = .ok (.ireturn, 1) := by decide +kernel
theorem dX11_mean_38 : decode cX11_mean 38 = .ok (.aload_n 0, 1) := by decide +kernel
theorem dX11_mean_39 : decode cX11_mean 39 = .ok (.aload_n 2, 1) := by decide +kernel
theorem dX11_mean_40 : decode cX11_mean 40 = .ok (.invokevirtual 131, 3) := by decide +kernel
theorem dX11_mean_43 : decode cX11_mean 43 = .ok (.aload_n 2, 1) := by decide +kernel
theorem dX11_mean_44 : decode cX11_mean 44 = .ok (.getfield 118, 3) := by decide +kernel
theorem dX11_mean_47 : decode cX11_mean 47 = .ok (.i2l, 1) := by decide +kernel
theorem dX11_mean_48 : decode cX11_mean 48 = .ok (.ldiv, 1) := by decide +kernel
theorem dX11_mean_49 : decode cX11_mean 49 = .ok (.l2i, 1) := by decide +kernel
theorem dX11_mean_50 : decode cX11_mean 50 = .ok (.putfield 78, 3) := by decide +kernel
theorem dX11_mean_53 : decode cX11_mean 53 = .ok (.iconst 1, 1) := by decide +kernel
theorem dX11_mean_54 : decode cX11_mean 54 = .ok (.ireturn, 1) := by decide +kernel
theorem dX11_text_0 : decode cX11_text 0 = .ok (.aload_n 0, 1) := by decide +kernel
theorem dX11_text_1 : decode cX11_text 1 = .ok (.iload_n 1, 1) := by decide +kernel
theorem dX11_text_2 : decode cX11_text 2 = .ok (.invokevirtual 135, 3) := by decide +kernel
theorem dX11_text_5 : decode cX11_text 5 = .ok (.astore_n 3, 1) := by decide +kernel
theorem dX11_text_6 : decode cX11_text 6 = .ok (.aload_n 3, 1) := by decide +kernel
theorem dX11_text_7 : decode cX11_text 7 = .ok (.ifnull 9, 3) := by decide +kernel
theorem dX11_text_10 : decode cX11_text 10 = .ok (.iload_n 2, 1) := by decide +kernel
theorem dX11_text_11 : decode cX11_text 11 = .ok (.bipush 40, 2) := by decide +kernel
theorem dX11_text_13 : decode cX11_text 13 = .ok (.if_icmp .le 5, 3) := by decide +kernel
theorem dX11_text_16 : decode cX11_text 16 = .ok (.iconst (-1), 1) := by decide +kernel
theorem dX11_text_17 : decode cX11_text 17 = .ok (.ireturn, 1) := by decide +kernel
theorem dX11_text_18 : decode cX11_text 18 = .ok (.iload_n 2, 1) := by decide +kernel
theorem dX11_text_19 : decode cX11_text 19 = .ok (.ifCond .ge 9, 3) := by decide +kernel
theorem dX11_text_22 : decode cX11_text 22 = .ok (.aload_n 0, 1) := by decide +kernel
theorem dX11_text_23 : decode cX11_text 23 = .ok (.iconst 5, 1) := by decide +kernel
theorem dX11_text_24 : decode cX11_text 24 = .ok (.invokevirtual 99, 3) := by decide +kernel
theorem dX11_text_27 : decode cX11_text 27 = .ok (.ireturn, 1) := by decide +kernel
theorem dX11_text_28 : decode cX11_text 28 = .ok (.aload_n 3, 1) := by decide +kernel
theorem dX11_text_29 : decode cX11_text 29 = .ok (.iload_n 2, 1) := by decide +kernel
theorem dX11_text_30 : decode cX11_text 30 = .ok (.bipush 32, 2) := by decide +kernel
theorem dX11_text_32 : decode cX11_text 32 = .ok (.invokevirtual 103, 3) := by decide +kernel
theorem dX11_text_35 : decode cX11_text 35 = .ok (.iload_n 2, 1) := by decide +kernel
theorem dX11_text_36 : decode cX11_text 36 = .ok (.ireturn, 1) := by decide +kernel
theorem dX11_put_0 : decode cX11_put 0 = .ok (.aload_n 0, 1) := by decide +kernel
theorem dX11_put_1 : decode cX11_put 1 = .ok (.iload_n 1, 1) := by decide +kernel
theorem dX11_put_2 : decode cX11_put 2 = .ok (.invokevirtual 135, 3) := by decide +kernel
theorem dX11_put_5 : decode cX11_put 5 = .ok (.astore 4, 2) := by decide +kernel
theorem dX11_put_7 : decode cX11_put 7 = .ok (.aload 4, 2) := by decide +kernel
theorem dX11_put_9 : decode cX11_put 9 = .ok (.ifnonnull 5, 3) := by decide +kernel
theorem dX11_put_12 : decode cX11_put 12 = .ok (.iconst (-1), 1) := by decide +kernel
theorem dX11_put_13 : decode cX11_put 13 = .ok (.ireturn, 1) := by decide +kernel
theorem dX11_put_14 : decode cX11_put 14 = .ok (.aload 4, 2) := by decide +kernel
theorem dX11_put_16 : decode cX11_put 16 = .ok (.invokevirtual 107, 3) := by decide +kernel
theorem dX11_put_19 : decode cX11_put 19 = .ok (.ifCond .eq 9, 3) := by decide +kernel
theorem dX11_put_22 : decode cX11_put 22 = .ok (.aload_n 0, 1) := by decide +kernel
theorem dX11_put_23 : decode cX11_put 23 = .ok (.iconst 1, 1) := by decide +kernel
theorem dX11_put_24 : decode cX11_put 24 = .ok (.invokevirtual 99, 3) := by decide +kernel
theorem dX11_put_27 : decode cX11_put 27 = .ok (.ireturn, 1) := by decide +kernel
theorem dX11_put_28 : decode cX11_put 28 = .ok (.aload 4, 2) := by decide +kernel
theorem dX11_put_30 : decode cX11_put 30 = .ok (.iload_n 2, 1) := by decide +kernel
theorem dX11_put_31 : decode cX11_put 31 = .ok (.invokevirtual 111, 3) := by decide +kernel
theorem dX11_put_34 : decode cX11_put 34 = .ok (.ifCond .ne 9, 3) := by decide +kernel
theorem dX11_put_37 : decode cX11_put 37 = .ok (.aload_n 0, 1) := by decide +kernel
theorem dX11_put_38 : decode cX11_put 38 = .ok (.iconst 2, 1) := by decide +kernel
theorem dX11_put_39 : decode cX11_put 39 = .ok (.invokevirtual 99, 3) := by decide +kernel
theorem dX11_put_42 : decode cX11_put 42 = .ok (.ireturn, 1) := by decide +kernel
theorem dX11_put_43 : decode cX11_put 43 = .ok (.aload 4, 2) := by decide +kernel
theorem dX11_put_45 : decode cX11_put 45 = .ok (.getfield 115, 3) := by decide +kernel
theorem dX11_put_48 : decode cX11_put 48 = .ok (.iload_n 2, 1) := by decide +kernel
theorem dX11_put_49 : decode cX11_put 49 = .ok (.iaload, 1) := by decide +kernel
theorem dX11_put_50 : decode cX11_put 50 = .ok (.istore 5, 2) := by decide +kernel
theorem dX11_put_52 : decode cX11_put 52 = .ok (.aload 4, 2) := by decide +kernel
theorem dX11_put_54 : decode cX11_put 54 = .ok (.getfield 115, 3) := by decide +kernel
theorem dX11_put_57 : decode cX11_put 57 = .ok (.iload_n 2, 1) := by decide +kernel
theorem dX11_put_58 : decode cX11_put 58 = .ok (.iload_n 3, 1) := by decide +kernel
theorem dX11_put_59 : decode cX11_put 59 = .ok (.i2b, 1) := by decide +kernel
theorem dX11_put_60 : decode cX11_put 60 = .ok (.iastore, 1) := by decide +kernel
theorem dX11_put_61 : decode cX11_put 61 = .ok (.iload 5, 2) := by decide +kernel
theorem dX11_put_63 : decode cX11_put 63 = .ok (.sipush 1000, 3) := by decide +kernel
theorem dX11_put_66 : decode cX11_put 66 = .ok (.iadd, 1) := by decide +kernel
theorem dX11_put_67 : decode cX11_put 67 = .ok (.ireturn, 1) := by decide +kernel
theorem dX11_later_0 : decode cX11_later 0 = .ok (.iload_n 1, 1) := by decide +kernel
theorem dX11_later_1 : decode cX11_later 1 = .ok (.ifCond .lt 14, 3) := by decide +kernel
theorem dX11_later_4 : decode cX11_later 4 = .ok (.iload_n 1, 1) := by decide +kernel
theorem dX11_later_5 : decode cX11_later 5 = .ok (.ldc 138, 2) := by decide +kernel
theorem dX11_later_7 : decode cX11_later 7 = .ok (.aload_n 0, 1) := by decide +kernel
theorem dX11_later_8 : decode cX11_later 8 = .ok (.getfield 71, 3) := by decide +kernel
theorem dX11_later_11 : decode cX11_later 11 = .ok (.isub, 1) := by decide +kernel
theorem dX11_later_12 : decode cX11_later 12 = .ok (.if_icmp .le 5, 3) := by decide +kernel
theorem dX11_later_15 : decode cX11_later 15 = .ok (.iconst (-1), 1) := by decide +kernel
theorem dX11_later_16 : decode cX11_later 16 = .ok (.ireturn, 1) := by decide +kernel
theorem dX11_later_17 : decode cX11_later 17 = .ok (.aload_n 0, 1) := by decide +kernel
theorem dX11_later_18 : decode cX11_later 18 = .ok (.dup, 1) := by decide +kernel
theorem dX11_later_19 : decode cX11_later 19 = .ok (.getfield 71, 3) := by decide +kernel
theorem dX11_later_22 : decode cX11_later 22 = .ok (.iload_n 1, 1) := by decide +kernel
theorem dX11_later_23 : decode cX11_later 23 = .ok (.iadd, 1) := by decide +kernel
theorem dX11_later_24 : decode cX11_later 24 = .ok (.putfield 71, 3) := by decide +kernel
theorem dX11_later_27 : decode cX11_later 27 = .ok (.iconst 0, 1) := by decide +kernel
theorem dX11_later_28 : decode cX11_later 28 = .ok (.istore_n 2, 1) := by decide +kernel
theorem dX11_later_29 : decode cX11_later 29 = .ok (.iload_n 2, 1) := by decide +kernel
theorem dX11_later_30 : decode cX11_later 30 = .ok (.aload_n 0, 1) := by decide +kernel
theorem dX11_later_31 : decode cX11_later 31 = .ok (.getfield 21, 3) := by decide +kernel
theorem dX11_later_34 : decode cX11_later 34 = .ok (.invokevirtual 139, 3) := by decide +kernel
theorem dX11_later_37 : decode cX11_later 37 = .ok (.if_icmp .ge 24, 3) := by decide +kernel
theorem dX11_later_40 : decode cX11_later 40 = .ok (.aload_n 0, 1) := by decide +kernel
theorem dX11_later_41 : decode cX11_later 41 = .ok (.aload_n 0, 1) := by decide +kernel
theorem dX11_later_42 : decode cX11_later 42 = .ok (.getfield 21, 3) := by decide +kernel
theorem dX11_later_45 : decode cX11_later 45 = .ok (.iload_n 2, 1) := by decide +kernel
theorem dX11_later_46 : decode cX11_later 46 = .ok (.invokevirtual 142, 3) := by decide +kernel
theorem dX11_later_49 : decode cX11_later 49 = .ok (.checkcast 146, 3) := by decide +kernel
theorem dX11_later_52 : decode cX11_later 52 = .ok (.invokevirtual 148, 3) := by decide +kernel
theorem dX11_later_55 : decode cX11_later 55 = .ok (.iinc 2 1, 3) := by decide +kernel
theorem dX11_later_58 : decode cX11_later 58 = .ok (.goto (-29), 3) := by decide +kernel
theorem dX11_later_61 : decode cX11_later 61 = .ok (.aload_n 0, 1) := by decide +kernel
theorem dX11_later_62 : decode cX11_later 62 = .ok (.getfield 71, 3) := by decide +kernel
theorem dX11_later_65 : decode cX11_later 65 = .ok (.ireturn, 1) := by decide +kernel
theorem dX11_book_0 : decode cX11_book 0 = .ok (.iload_n 1, 1) := by decide +kernel
theorem dX11_book_1 : decode cX11_book 1 = .ok (.invokestatic 152, 3) := by decide +kernel
theorem dX11_book_4 : decode cX11_book 4 = .ok (.ifCond .eq 10, 3) := by decide +kernel
theorem dX11_book_7 : decode cX11_book 7 = .ok (.iload_n 2, 1) := by decide +kernel
theorem dX11_book_8 : decode cX11_book 8 = .ok (.invokestatic 155, 3) := by decide +kernel
theorem dX11_book_11 : decode cX11_book 11 = .ok (.ifCond .ne 5, 3) := by decide +kernel
theorem dX11_book_14 : decode cX11_book 14 = .ok (.iconst (-1), 1) := by decide +kernel
theorem dX11_book_15 : decode cX11_book 15 = .ok (.ireturn, 1) := by decide +kernel
theorem dX11_book_16 : decode cX11_book 16 = .ok (.aload_n 0, 1) := by decide +kernel
theorem dX11_book_17 : decode cX11_book 17 = .ok (.getfield 21, 3) := by decide +kernel
theorem dX11_book_20 : decode cX11_book 20 = .ok (.invokevirtual 139, 3) := by decide +kernel
theorem dX11_book_23 : decode cX11_book 23 = .ok (.bipush 24, 2) := by decide +kernel
theorem dX11_book_25 : decode cX11_book 25 = .ok (.if_icmp .lt 6, 3) := by decide +kernel
theorem dX11_book_28 : decode cX11_book 28 = .ok (.bipush (-2), 2) := by decide +kernel
theorem dX11_book_30 : decode cX11_book 30 = .ok (.ireturn, 1) := by decide +kernel
theorem dX11_book_31 : decode cX11_book 31 = .ok (.aload_n 0, 1) := by decide +kernel
theorem dX11_book_32 : decode cX11_book 32 = .ok (.iload_n 1, 1) := by decide +kernel
theorem dX11_book_33 : decode cX11_book 33 = .ok (.invokevirtual 158, 3) := by decide +kernel
theorem dX11_book_36 : decode cX11_book 36 = .ok (.ifnull 9, 3) := by decide +kernel
theorem dX11_book_39 : decode cX11_book 39 = .ok (.aload_n 0, 1) := by decide +kernel
theorem dX11_book_40 : decode cX11_book 40 = .ok (.iconst 3, 1) := by decide +kernel
theorem dX11_book_41 : decode cX11_book 41 = .ok (.invokevirtual 99, 3) := by decide +kernel
theorem dX11_book_44 : decode cX11_book 44 = .ok (.ireturn, 1) := by decide +kernel
theorem dX11_book_45 : decode cX11_book 45 = .ok (.aload_n 0, 1) := by decide +kernel
theorem dX11_book_46 : decode cX11_book 46 = .ok (.getfield 21, 3) := by decide +kernel
theorem dX11_book_49 : decode cX11_book 49 = .ok (.invokevirtual 139, 3) := by decide +kernel
theorem dX11_book_52 : decode cX11_book 52 = .ok (.istore 4, 2) := by decide +kernel
theorem dX11_book_54 : decode cX11_book 54 = .ok (.aload_n 0, 1) := by decide +kernel
theorem dX11_book_55 : decode cX11_book 55 = .ok (.getfield 21, 3) := by decide +kernel
theorem dX11_book_58 : decode cX11_book 58 = .ok (.new 146, 3) := by decide +kernel
theorem dX11_book_61 : decode cX11_book 61 = .ok (.dup, 1) := by decide +kernel
theorem dX11_book_62 : decode cX11_book 62 = .ok (.iload 4, 2) := by decide +kernel
theorem dX11_book_64 : decode cX11_book 64 = .ok (.iload_n 1, 1) := by decide +kernel
theorem dX11_book_65 : decode cX11_book 65 = .ok (.iload_n 2, 1) := by decide +kernel
theorem dX11_book_66 : decode cX11_book 66 = .ok (.iload_n 3, 1) := by decide +kernel
theorem dX11_book_67 : decode cX11_book 67 = .ok (.invokespecial 162, 3) := by decide +kernel
theorem dX11_book_70 : decode cX11_book 70 = .ok (.invokevirtual 165, 3) := by decide +kernel
theorem dX11_book_73 : decode cX11_book 73 = .ok (.pop, 1) := by decide +kernel
theorem dX11_book_74 : decode cX11_book 74 = .ok (.iload 4, 2) := by decide +kernel
theorem dX11_book_76 : decode cX11_book 76 = .ok (.ireturn, 1) := by decide +kernel
theorem dX11_told_0 : decode cX11_told 0 = .ok (.aload_n 0, 1) := by decide +kernel
theorem dX11_told_1 : decode cX11_told 1 = .ok (.iload_n 1, 1) := by decide +kernel
theorem dX11_told_2 : decode cX11_told 2 = .ok (.invokevirtual 169, 3) := by decide +kernel
theorem dX11_told_5 : decode cX11_told 5 = .ok (.astore_n 3, 1) := by decide +kernel
theorem dX11_told_6 : decode cX11_told 6 = .ok (.aload_n 3, 1) := by decide +kernel
theorem dX11_told_7 : decode cX11_told 7 = .ok (.ifnull 12, 3) := by decide +kernel
theorem dX11_told_10 : decode cX11_told 10 = .ok (.iload_n 2, 1) := by decide +kernel
theorem dX11_told_11 : decode cX11_told 11 = .ok (.ifCond .lt 8, 3) := by decide +kernel
theorem dX11_told_14 : decode cX11_told 14 = .ok (.iload_n 2, 1) := by decide +kernel
theorem dX11_told_15 : decode cX11_told 15 = .ok (.iconst 4, 1) := by decide +kernel
theorem dX11_told_16 : decode cX11_told 16 = .ok (.if_icmp .le 5, 3) := by decide +kernel
theorem dX11_told_19 : decode cX11_told 19 = .ok (.iconst (-1), 1) := by decide +kernel
theorem dX11_told_20 : decode cX11_told 20 = .ok (.ireturn, 1) := by decide +kernel
theorem dX11_told_21 : decode cX11_told 21 = .ok (.aload_n 0, 1) := by decide +kernel
theorem dX11_told_22 : decode cX11_told 22 = .ok (.aload_n 3, 1) := by decide +kernel
theorem dX11_told_23 : decode cX11_told 23 = .ok (.iload_n 2, 1) := by decide +kernel
theorem dX11_told_24 : decode cX11_told 24 = .ok (.invokevirtual 172, 3) := by decide +kernel
theorem dX11_told_27 : decode cX11_told 27 = .ok (.putfield 78, 3) := by decide +kernel
theorem dX11_told_30 : decode cX11_told 30 = .ok (.iconst 1, 1) := by decide +kernel
theorem dX11_told_31 : decode cX11_told 31 = .ok (.ireturn, 1) := by decide +kernel
theorem dX11_mark_0 : decode cX11_mark 0 = .ok (.aload_n 0, 1) := by decide +kernel
theorem dX11_mark_1 : decode cX11_mark 1 = .ok (.iload_n 1, 1) := by decide +kernel
theorem dX11_mark_2 : decode cX11_mark 2 = .ok (.invokevirtual 169, 3) := by decide +kernel
theorem dX11_mark_5 : decode cX11_mark 5 = .ok (.astore_n 3, 1) := by decide +kernel
theorem dX11_mark_6 : decode cX11_mark 6 = .ok (.aload_n 3, 1) := by decide +kernel
theorem dX11_mark_7 : decode cX11_mark 7 = .ok (.ifnull 13, 3) := by decide +kernel
theorem dX11_mark_10 : decode cX11_mark 10 = .ok (.iload_n 2, 1) := by decide +kernel
theorem dX11_mark_11 : decode cX11_mark 11 = .ok (.ifCond .le 9, 3) := by decide +kernel
theorem dX11_mark_14 : decode cX11_mark 14 = .ok (.iload_n 2, 1) := by decide +kernel
theorem dX11_mark_15 : decode cX11_mark 15 = .ok (.bipush 6, 2) := by decide +kernel
theorem dX11_mark_17 : decode cX11_mark 17 = .ok (.if_icmp .le 5, 3) := by decide +kernel
theorem dX11_mark_20 : decode cX11_mark 20 = .ok (.iconst (-1), 1) := by decide +kernel
theorem dX11_mark_21 : decode cX11_mark 21 = .ok (.ireturn, 1) := by decide +kernel
theorem dX11_mark_22 : decode cX11_mark 22 = .ok (.iload_n 2, 1) := by decide +kernel
theorem dX11_mark_23 : decode cX11_mark 23 = .ok (.iconst 1, 1) := by decide +kernel
theorem dX11_mark_24 : decode cX11_mark 24 = .ok (.if_icmp .ne 15, 3) := by decide +kernel
theorem dX11_mark_27 : decode cX11_mark 27 = .ok (.aload_n 3, 1) := by decide +kernel
theorem dX11_mark_28 : decode cX11_mark 28 = .ok (.invokevirtual 175, 3) := by decide +kernel
theorem dX11_mark_31 : decode cX11_mark 31 = .ok (.ifCond .eq 8, 3) := by decide +kernel
theorem dX11_mark_34 : decode cX11_mark 34 = .ok (.aload_n 3, 1) := by decide +kernel
theorem dX11_mark_35 : decode cX11_mark 35 = .ok (.getfield 178, 3) := by decide +kernel
theorem dX11_mark_38 : decode cX11_mark 38 = .ok (.ireturn, 1) := by decide +kernel
theorem dX11_mark_39 : decode cX11_mark 39 = .ok (.iload_n 2, 1) := by decide +kernel
theorem dX11_mark_40 : decode cX11_mark 40 = .ok (.aload_n 3, 1) := by decide +kernel
theorem dX11_mark_41 : decode cX11_mark 41 = .ok (.getfield 181, 3) := by decide +kernel
theorem dX11_mark_44 : decode cX11_mark 44 = .ok (.if_icmp .ne 10, 3) := by decide +kernel
theorem dX11_mark_47 : decode cX11_mark 47 = .ok (.aload_n 3, 1) := by decide +kernel
theorem dX11_mark_48 : decode cX11_mark 48 = .ok (.getfield 184, 3) := by decide +kernel
theorem dX11_mark_51 : decode cX11_mark 51 = .ok (.goto 8, 3) := by decide +kernel
theorem dX11_mark_54 : decode cX11_mark 54 = .ok (.aload_n 0, 1) := by decide +kernel
theorem dX11_mark_55 : decode cX11_mark 55 = .ok (.iconst 3, 1) := by decide +kernel
theorem dX11_mark_56 : decode cX11_mark 56 = .ok (.invokevirtual 99, 3) := by decide +kernel
theorem dX11_mark_59 : decode cX11_mark 59 = .ok (.ireturn, 1) := by decide +kernel
theorem dX11_has_0 : decode cX11_has 0 = .ok (.iload_n 1, 1) := by decide +kernel
theorem dX11_has_1 : decode cX11_has 1 = .ok (.invokestatic 187, 3) := by decide +kernel
theorem dX11_has_4 : decode cX11_has 4 = .ok (.ifCond .eq 11, 3) := by decide +kernel
theorem dX11_has_7 : decode cX11_has 7 = .ok (.aload_n 0, 1) := by decide +kernel
theorem dX11_has_8 : decode cX11_has 8 = .ok (.iload_n 1, 1) := by decide +kernel
theorem dX11_has_9 : decode cX11_has 9 = .ok (.invokevirtual 190, 3) := by decide +kernel
theorem dX11_has_12 : decode cX11_has 12 = .ok (.goto 4, 3) := by decide +kernel
theorem dX11_has_15 : decode cX11_has 15 = .ok (.iconst (-1), 1) := by decide +kernel
theorem dX11_has_16 : decode cX11_has 16 = .ok (.ireturn, 1) := by decide +kernel
theorem dX11_keep_0 : decode cX11_keep 0 = .ok (.aload_n 0, 1) := by decide +kernel
theorem dX11_keep_1 : decode cX11_keep 1 = .ok (.iload_n 1, 1) := by decide +kernel
theorem dX11_keep_2 : decode cX11_keep 2 = .ok (.invokevirtual 169, 3) := by decide +kernel
theorem dX11_keep_5 : decode cX11_keep 5 = .ok (.astore_n 2, 1) := by decide +kernel
theorem dX11_keep_6 : decode cX11_keep 6 = .ok (.aload_n 2, 1) := by decide +kernel
theorem dX11_keep_7 : decode cX11_keep 7 = .ok (.ifnonnull 5, 3) := by decide +kernel
theorem dX11_keep_10 : decode cX11_keep 10 = .ok (.iconst (-1), 1) := by decide +kernel
theorem dX11_keep_11 : decode cX11_keep 11 = .ok (.ireturn, 1) := by decide +kernel
theorem dX11_keep_12 : decode cX11_keep 12 = .ok (.aload_n 2, 1) := by decide +kernel
theorem dX11_keep_13 : decode cX11_keep 13 = .ok (.getfield 181, 3) := by decide +kernel
theorem dX11_keep_16 : decode cX11_keep 16 = .ok (.iconst 1, 1) := by decide +kernel
theorem dX11_keep_17 : decode cX11_keep 17 = .ok (.if_icmp .eq 6, 3) := by decide +kernel
theorem dX11_keep_20 : decode cX11_keep 20 = .ok (.bipush (-4), 2) := by decide +kernel
theorem dX11_keep_22 : decode cX11_keep 22 = .ok (.ireturn, 1) := by decide +kernel
theorem dX11_keep_23 : decode cX11_keep 23 = .ok (.aload_n 2, 1) := by decide +kernel
theorem dX11_keep_24 : decode cX11_keep 24 = .ok (.iconst 2, 1) := by decide +kernel
theorem dX11_keep_25 : decode cX11_keep 25 = .ok (.aload_n 0, 1) := by decide +kernel
theorem dX11_keep_26 : decode cX11_keep 26 = .ok (.getfield 71, 3) := by decide +kernel
theorem dX11_keep_29 : decode cX11_keep 29 = .ok (.invokestatic 193, 3) := by decide +kernel
theorem dX11_keep_32 : decode cX11_keep 32 = .ok (.aload_n 0, 1) := by decide +kernel
theorem dX11_keep_33 : decode cX11_keep 33 = .ok (.iconst 1, 1) := by decide +kernel
theorem dX11_keep_34 : decode cX11_keep 34 = .ok (.invokevirtual 196, 3) := by decide +kernel
theorem dX11_keep_37 : decode cX11_keep 37 = .ok (.iadd, 1) := by decide +kernel
theorem dX11_keep_38 : decode cX11_keep 38 = .ok (.invokevirtual 199, 3) := by decide +kernel
theorem dX11_keep_41 : decode cX11_keep 41 = .ok (.aload_n 2, 1) := by decide +kernel
theorem dX11_keep_42 : decode cX11_keep 42 = .ok (.getfield 184, 3) := by decide +kernel
theorem dX11_keep_45 : decode cX11_keep 45 = .ok (.ireturn, 1) := by decide +kernel
theorem dX11_back_0 : decode cX11_back 0 = .ok (.aload_n 0, 1) := by decide +kernel
theorem dX11_back_1 : decode cX11_back 1 = .ok (.iload_n 1, 1) := by decide +kernel
theorem dX11_back_2 : decode cX11_back 2 = .ok (.invokevirtual 169, 3) := by decide +kernel
theorem dX11_back_5 : decode cX11_back 5 = .ok (.astore_n 3, 1) := by decide +kernel
theorem dX11_back_6 : decode cX11_back 6 = .ok (.aload_n 3, 1) := by decide +kernel
theorem dX11_back_7 : decode cX11_back 7 = .ok (.ifnull 10, 3) := by decide +kernel
theorem dX11_back_10 : decode cX11_back 10 = .ok (.iload_n 2, 1) := by decide +kernel
theorem dX11_back_11 : decode cX11_back 11 = .ok (.invokestatic 155, 3) := by decide +kernel
theorem dX11_back_14 : decode cX11_back 14 = .ok (.ifCond .ne 5, 3) := by decide +kernel
theorem dX11_back_17 : decode cX11_back 17 = .ok (.iconst (-1), 1) := by decide +kernel
theorem dX11_back_18 : decode cX11_back 18 = .ok (.ireturn, 1) := by decide +kernel
theorem dX11_back_19 : decode cX11_back 19 = .ok (.aload_n 3, 1) := by decide +kernel
theorem dX11_back_20 : decode cX11_back 20 = .ok (.invokevirtual 175, 3) := by decide +kernel
theorem dX11_back_23 : decode cX11_back 23 = .ok (.ifCond .ne 6, 3) := by decide +kernel
theorem dX11_back_26 : decode cX11_back 26 = .ok (.bipush (-4), 2) := by decide +kernel
theorem dX11_back_28 : decode cX11_back 28 = .ok (.ireturn, 1) := by decide +kernel
theorem dX11_back_29 : decode cX11_back 29 = .ok (.aload_n 3, 1) := by decide +kernel
theorem dX11_back_30 : decode cX11_back 30 = .ok (.aload_n 0, 1) := by decide +kernel
theorem dX11_back_31 : decode cX11_back 31 = .ok (.getfield 71, 3) := by decide +kernel
theorem dX11_back_34 : decode cX11_back 34 = .ok (.invokevirtual 202, 3) := by decide +kernel
theorem dX11_back_37 : decode cX11_back 37 = .ok (.iload_n 2, 1) := by decide +kernel
theorem dX11_back_38 : decode cX11_back 38 = .ok (.aload_n 3, 1) := by decide +kernel
theorem dX11_back_39 : decode cX11_back 39 = .ok (.getfield 206, 3) := by decide +kernel
theorem dX11_back_42 : decode cX11_back 42 = .ok (.if_icmp .ne 9, 3) := by decide +kernel
theorem dX11_back_45 : decode cX11_back 45 = .ok (.aload_n 3, 1) := by decide +kernel
theorem dX11_back_46 : decode cX11_back 46 = .ok (.invokevirtual 209, 3) := by decide +kernel
theorem dX11_back_49 : decode cX11_back 49 = .ok (.iconst 1, 1) := by decide +kernel
theorem dX11_back_50 : decode cX11_back 50 = .ok (.ireturn, 1) := by decide +kernel
theorem dX11_back_51 : decode cX11_back 51 = .ok (.aload_n 3, 1) := by decide +kernel
theorem dX11_back_52 : decode cX11_back 52 = .ok (.iconst 4, 1) := by decide +kernel
theorem dX11_back_53 : decode cX11_back 53 = .ok (.iload_n 2, 1) := by decide +kernel
theorem dX11_back_54 : decode cX11_back 54 = .ok (.invokevirtual 199, 3) := by decide +kernel
theorem dX11_back_57 : decode cX11_back 57 = .ok (.iconst 0, 1) := by decide +kernel
theorem dX11_back_58 : decode cX11_back 58 = .ok (.ireturn, 1) := by decide +kernel
theorem dX11_bind_0 : decode cX11_bind 0 = .ok (.aload_n 0, 1) := by decide +kernel
theorem dX11_bind_1 : decode cX11_bind 1 = .ok (.iload_n 1, 1) := by decide +kernel
theorem dX11_bind_2 : decode cX11_bind 2 = .ok (.invokevirtual 169, 3) := by decide +kernel
theorem dX11_bind_5 : decode cX11_bind 5 = .ok (.astore_n 3, 1) := by decide +kernel
theorem dX11_bind_6 : decode cX11_bind 6 = .ok (.aload_n 3, 1) := by decide +kernel
theorem dX11_bind_7 : decode cX11_bind 7 = .ok (.ifnull 17, 3) := by decide +kernel
theorem dX11_bind_10 : decode cX11_bind 10 = .ok (.iload_n 2, 1) := by decide +kernel
theorem dX11_bind_11 : decode cX11_bind 11 = .ok (.aload_n 0, 1) := by decide +kernel
theorem dX11_bind_12 : decode cX11_bind 12 = .ok (.getfield 71, 3) := by decide +kernel
theorem dX11_bind_15 : decode cX11_bind 15 = .ok (.if_icmp .le 9, 3) := by decide +kernel
theorem dX11_bind_18 : decode cX11_bind 18 = .ok (.iload_n 2, 1) := by decide +kernel
theorem dX11_bind_19 : decode cX11_bind 19 = .ok (.ldc 138, 2) := by decide +kernel
theorem dX11_bind_21 : decode cX11_bind 21 = .ok (.if_icmp .le 5, 3) := by decide +kernel
theorem dX11_bind_24 : decode cX11_bind 24 = .ok (.iconst (-1), 1) := by decide +kernel
theorem dX11_bind_25 : decode cX11_bind 25 = .ok (.ireturn, 1) := by decide +kernel
theorem dX11_bind_26 : decode cX11_bind 26 = .ok (.aload_n 3, 1) := by decide +kernel
theorem dX11_bind_27 : decode cX11_bind 27 = .ok (.getfield 181, 3) := by decide +kernel
theorem dX11_bind_30 : decode cX11_bind 30 = .ok (.ifCond .eq 6, 3) := by decide +kernel
theorem dX11_bind_33 : decode cX11_bind 33 = .ok (.bipush (-4), 2) := by decide +kernel
theorem dX11_bind_35 : decode cX11_bind 35 = .ok (.ireturn, 1) := by decide +kernel
theorem dX11_bind_36 : decode cX11_bind 36 = .ok (.aload_n 3, 1) := by decide +kernel
theorem dX11_bind_37 : decode cX11_bind 37 = .ok (.iconst 3, 1) := by decide +kernel
theorem dX11_bind_38 : decode cX11_bind 38 = .ok (.iload_n 2, 1) := by decide +kernel
theorem dX11_bind_39 : decode cX11_bind 39 = .ok (.invokevirtual 199, 3) := by decide +kernel
theorem dX11_bind_42 : decode cX11_bind 42 = .ok (.iconst 1, 1) := by decide +kernel
theorem dX11_bind_43 : decode cX11_bind 43 = .ok (.ireturn, 1) := by decide +kernel
theorem dX11_lose_0 : decode cX11_lose 0 = .ok (.aload_n 0, 1) := by decide +kernel
theorem dX11_lose_1 : decode cX11_lose 1 = .ok (.iload_n 1, 1) := by decide +kernel
theorem dX11_lose_2 : decode cX11_lose 2 = .ok (.invokevirtual 169, 3) := by decide +kernel
theorem dX11_lose_5 : decode cX11_lose 5 = .ok (.astore_n 2, 1) := by decide +kernel
theorem dX11_lose_6 : decode cX11_lose 6 = .ok (.aload_n 2, 1) := by decide +kernel
theorem dX11_lose_7 : decode cX11_lose 7 = .ok (.ifnonnull 5, 3) := by decide +kernel
theorem dX11_lose_10 : decode cX11_lose 10 = .ok (.iconst (-1), 1) := by decide +kernel
theorem dX11_lose_11 : decode cX11_lose 11 = .ok (.ireturn, 1) := by decide +kernel
theorem dX11_lose_12 : decode cX11_lose 12 = .ok (.aload_n 2, 1) := by decide +kernel
theorem dX11_lose_13 : decode cX11_lose 13 = .ok (.getfield 181, 3) := by decide +kernel
theorem dX11_lose_16 : decode cX11_lose 16 = .ok (.ifCond .eq 21, 3) := by decide +kernel
theorem dX11_lose_19 : decode cX11_lose 19 = .ok (.aload_n 2, 1) := by decide +kernel
theorem dX11_lose_20 : decode cX11_lose 20 = .ok (.getfield 181, 3) := by decide +kernel
theorem dX11_lose_23 : decode cX11_lose 23 = .ok (.iconst 4, 1) := by decide +kernel
theorem dX11_lose_24 : decode cX11_lose 24 = .ok (.if_icmp .eq 13, 3) := by decide +kernel
theorem dX11_lose_27 : decode cX11_lose 27 = .ok (.aload_n 2, 1) := by decide +kernel
theorem dX11_lose_28 : decode cX11_lose 28 = .ok (.invokevirtual 175, 3) := by decide +kernel
theorem dX11_lose_31 : decode cX11_lose 31 = .ok (.ifCond .ne 6, 3) := by decide +kernel
theorem dX11_lose_34 : decode cX11_lose 34 = .ok (.bipush (-4), 2) := by decide +kernel
theorem dX11_lose_36 : decode cX11_lose 36 = .ok (.ireturn, 1) := by decide +kernel
theorem dX11_lose_37 : decode cX11_lose 37 = .ok (.aload_n 2, 1) := by decide +kernel
theorem dX11_lose_38 : decode cX11_lose 38 = .ok (.invokevirtual 175, 3) := by decide +kernel
theorem dX11_lose_41 : decode cX11_lose 41 = .ok (.ifCond .eq 11, 3) := by decide +kernel
theorem dX11_lose_44 : decode cX11_lose 44 = .ok (.aload_n 2, 1) := by decide +kernel
theorem dX11_lose_45 : decode cX11_lose 45 = .ok (.aload_n 0, 1) := by decide +kernel
theorem dX11_lose_46 : decode cX11_lose 46 = .ok (.getfield 71, 3) := by decide +kernel
theorem dX11_lose_49 : decode cX11_lose 49 = .ok (.invokevirtual 202, 3) := by decide +kernel
theorem dX11_lose_52 : decode cX11_lose 52 = .ok (.aload_n 2, 1) := by decide +kernel
theorem dX11_lose_53 : decode cX11_lose 53 = .ok (.bipush 6, 2) := by decide +kernel
theorem dX11_lose_55 : decode cX11_lose 55 = .ok (.aload_n 0, 1) := by decide +kernel
theorem dX11_lose_56 : decode cX11_lose 56 = .ok (.getfield 71, 3) := by decide +kernel
theorem dX11_lose_59 : decode cX11_lose 59 = .ok (.invokevirtual 199, 3) := by decide +kernel
theorem dX11_lose_62 : decode cX11_lose 62 = .ok (.iconst 1, 1) := by decide +kernel
theorem dX11_lose_63 : decode cX11_lose 63 = .ok (.ireturn, 1) := by decide +kernel
theorem dX11_find_0 : decode cX11_find 0 = .ok (.aload_n 0, 1) := by decide +kernel
theorem dX11_find_1 : decode cX11_find 1 = .ok (.iload_n 1, 1) := by decide +kernel
theorem dX11_find_2 : decode cX11_find 2 = .ok (.invokevirtual 169, 3) := by decide +kernel
theorem dX11_find_5 : decode cX11_find 5 = .ok (.astore_n 2, 1) := by decide +kernel
theorem dX11_find_6 : decode cX11_find 6 = .ok (.aload_n 2, 1) := by decide +kernel
theorem dX11_find_7 : decode cX11_find 7 = .ok (.ifnonnull 5, 3) := by decide +kernel
theorem dX11_find_10 : decode cX11_find 10 = .ok (.iconst (-1), 1) := by decide +kernel
theorem dX11_find_11 : decode cX11_find 11 = .ok (.ireturn, 1) := by decide +kernel
theorem dX11_find_12 : decode cX11_find 12 = .ok (.aload_n 2, 1) := by decide +kernel
theorem dX11_find_13 : decode cX11_find 13 = .ok (.getfield 181, 3) := by decide +kernel
theorem dX11_find_16 : decode cX11_find 16 = .ok (.bipush 6, 2) := by decide +kernel
theorem dX11_find_18 : decode cX11_find 18 = .ok (.if_icmp .eq 6, 3) := by decide +kernel
theorem dX11_find_21 : decode cX11_find 21 = .ok (.bipush (-4), 2) := by decide +kernel
theorem dX11_find_23 : decode cX11_find 23 = .ok (.ireturn, 1) := by decide +kernel
theorem dX11_find_24 : decode cX11_find 24 = .ok (.aload_n 2, 1) := by decide +kernel
theorem dX11_find_25 : decode cX11_find 25 = .ok (.getfield 184, 3) := by decide +kernel
theorem dX11_find_28 : decode cX11_find 28 = .ok (.istore_n 3, 1) := by decide +kernel
theorem dX11_find_29 : decode cX11_find 29 = .ok (.aload_n 2, 1) := by decide +kernel
theorem dX11_find_30 : decode cX11_find 30 = .ok (.invokevirtual 209, 3) := by decide +kernel
theorem dX11_find_33 : decode cX11_find 33 = .ok (.aload_n 0, 1) := by decide +kernel
theorem dX11_find_34 : decode cX11_find 34 = .ok (.getfield 71, 3) := by decide +kernel
theorem dX11_find_37 : decode cX11_find 37 = .ok (.iload_n 3, 1) := by decide +kernel
theorem dX11_find_38 : decode cX11_find 38 = .ok (.isub, 1) := by decide +kernel
theorem dX11_find_39 : decode cX11_find 39 = .ok (.ireturn, 1) := by decide +kernel
theorem dX11_fault_0 : decode cX11_fault 0 = .ok (.aload_n 0, 1) := by decide +kernel
theorem dX11_fault_1 : decode cX11_fault 1 = .ok (.iload_n 1, 1) := by decide +kernel
theorem dX11_fault_2 : decode cX11_fault 2 = .ok (.invokevirtual 135, 3) := by decide +kernel
theorem dX11_fault_5 : decode cX11_fault 5 = .ok (.astore_n 2, 1) := by decide +kernel
theorem dX11_fault_6 : decode cX11_fault 6 = .ok (.aload_n 2, 1) := by decide +kernel
theorem dX11_fault_7 : decode cX11_fault 7 = .ok (.ifnonnull 5, 3) := by decide +kernel
theorem dX11_fault_10 : decode cX11_fault 10 = .ok (.iconst (-1), 1) := by decide +kernel
theorem dX11_fault_11 : decode cX11_fault 11 = .ok (.ireturn, 1) := by decide +kernel
theorem dX11_fault_12 : decode cX11_fault 12 = .ok (.aload_n 2, 1) := by decide +kernel
theorem dX11_fault_13 : decode cX11_fault 13 = .ok (.invokevirtual 107, 3) := by decide +kernel
theorem dX11_fault_16 : decode cX11_fault 16 = .ok (.ifCond .eq 9, 3) := by decide +kernel
theorem dX11_fault_19 : decode cX11_fault 19 = .ok (.aload_n 0, 1) := by decide +kernel
theorem dX11_fault_20 : decode cX11_fault 20 = .ok (.iconst 1, 1) := by decide +kernel
theorem dX11_fault_21 : decode cX11_fault 21 = .ok (.invokevirtual 99, 3) := by decide +kernel
theorem dX11_fault_24 : decode cX11_fault 24 = .ok (.ireturn, 1) := by decide +kernel
theorem dX11_fault_25 : decode cX11_fault 25 = .ok (.aload_n 2, 1) := by decide +kernel
theorem dX11_fault_26 : decode cX11_fault 26 = .ok (.iconst 4, 1) := by decide +kernel
theorem dX11_fault_27 : decode cX11_fault 27 = .ok (.newarray .int, 2) := by decide +kernel
theorem dX11_fault_29 : decode cX11_fault 29 = .ok (.invokestatic 212, 3) := by decide +kernel
theorem dX11_fault_32 : decode cX11_fault 32 = .ok (.ireturn, 1) := by decide +kernel
theorem dX11_rule_0 : decode cX11_rule 0 = .ok (.aload_n 0, 1) := by decide +kernel
theorem dX11_rule_1 : decode cX11_rule 1 = .ok (.iload_n 1, 1) := by decide +kernel
theorem dX11_rule_2 : decode cX11_rule 2 = .ok (.invokevirtual 135, 3) := by decide +kernel
theorem dX11_rule_5 : decode cX11_rule 5 = .ok (.astore_n 3, 1) := by decide +kernel
theorem dX11_rule_6 : decode cX11_rule 6 = .ok (.aload_n 3, 1) := by decide +kernel
theorem dX11_rule_7 : decode cX11_rule 7 = .ok (.ifnull 10, 3) := by decide +kernel
theorem dX11_rule_10 : decode cX11_rule 10 = .ok (.iload_n 2, 1) := by decide +kernel
theorem dX11_rule_11 : decode cX11_rule 11 = .ok (.invokestatic 216, 3) := by decide +kernel
theorem dX11_rule_14 : decode cX11_rule 14 = .ok (.ifCond .ne 5, 3) := by decide +kernel
theorem dX11_rule_17 : decode cX11_rule 17 = .ok (.iconst (-1), 1) := by decide +kernel
theorem dX11_rule_18 : decode cX11_rule 18 = .ok (.ireturn, 1) := by decide +kernel
theorem dX11_rule_19 : decode cX11_rule 19 = .ok (.aload_n 0, 1) := by decide +kernel
theorem dX11_rule_20 : decode cX11_rule 20 = .ok (.getfield 28, 3) := by decide +kernel
theorem dX11_rule_23 : decode cX11_rule 23 = .ok (.invokevirtual 139, 3) := by decide +kernel
theorem dX11_rule_26 : decode cX11_rule 26 = .ok (.bipush 16, 2) := by decide +kernel
theorem dX11_rule_28 : decode cX11_rule 28 = .ok (.if_icmp .lt 6, 3) := by decide +kernel
theorem dX11_rule_31 : decode cX11_rule 31 = .ok (.bipush (-2), 2) := by decide +kernel
theorem dX11_rule_33 : decode cX11_rule 33 = .ok (.ireturn, 1) := by decide +kernel
theorem dX11_rule_34 : decode cX11_rule 34 = .ok (.aload_n 3, 1) := by decide +kernel
theorem dX11_rule_35 : decode cX11_rule 35 = .ok (.invokevirtual 107, 3) := by decide +kernel
theorem dX11_rule_38 : decode cX11_rule 38 = .ok (.ifCond .eq 9, 3) := by decide +kernel
theorem dX11_rule_41 : decode cX11_rule 41 = .ok (.aload_n 0, 1) := by decide +kernel
theorem dX11_rule_42 : decode cX11_rule 42 = .ok (.iconst 1, 1) := by decide +kernel
theorem dX11_rule_43 : decode cX11_rule 43 = .ok (.invokevirtual 99, 3) := by decide +kernel
theorem dX11_rule_46 : decode cX11_rule 46 = .ok (.ireturn, 1) := by decide +kernel
theorem dX11_rule_47 : decode cX11_rule 47 = .ok (.new 219, 3) := by decide +kernel
theorem dX11_rule_50 : decode cX11_rule 50 = .ok (.dup, 1) := by decide +kernel
theorem dX11_rule_51 : decode cX11_rule 51 = .ok (.aload_n 0, 1) := by decide +kernel
theorem dX11_rule_52 : decode cX11_rule 52 = .ok (.getfield 71, 3) := by decide +kernel
theorem dX11_rule_55 : decode cX11_rule 55 = .ok (.invokestatic 193, 3) := by decide +kernel
theorem dX11_rule_58 : decode cX11_rule 58 = .ok (.iload_n 2, 1) := by decide +kernel
theorem dX11_rule_59 : decode cX11_rule 59 = .ok (.invokespecial 221, 3) := by decide +kernel
theorem dX11_rule_62 : decode cX11_rule 62 = .ok (.astore 4, 2) := by decide +kernel
theorem dX11_rule_64 : decode cX11_rule 64 = .ok (.aload_n 3, 1) := by decide +kernel
theorem dX11_rule_65 : decode cX11_rule 65 = .ok (.aload 4, 2) := by decide +kernel
theorem dX11_rule_67 : decode cX11_rule 67 = .ok (.getfield 223, 3) := by decide +kernel
theorem dX11_rule_70 : decode cX11_rule 70 = .ok (.invokestatic 212, 3) := by decide +kernel
theorem dX11_rule_73 : decode cX11_rule 73 = .ok (.bipush (-9), 2) := by decide +kernel
theorem dX11_rule_75 : decode cX11_rule 75 = .ok (.if_icmp .eq 6, 3) := by decide +kernel
theorem dX11_rule_78 : decode cX11_rule 78 = .ok (.bipush (-4), 2) := by decide +kernel
theorem dX11_rule_80 : decode cX11_rule 80 = .ok (.ireturn, 1) := by decide +kernel
theorem dX11_rule_81 : decode cX11_rule 81 = .ok (.aload_n 0, 1) := by decide +kernel
theorem dX11_rule_82 : decode cX11_rule 82 = .ok (.getfield 28, 3) := by decide +kernel
theorem dX11_rule_85 : decode cX11_rule 85 = .ok (.aload 4, 2) := by decide +kernel
theorem dX11_rule_87 : decode cX11_rule 87 = .ok (.invokevirtual 165, 3) := by decide +kernel
theorem dX11_rule_90 : decode cX11_rule 90 = .ok (.pop, 1) := by decide +kernel
theorem dX11_rule_91 : decode cX11_rule 91 = .ok (.aload_n 0, 1) := by decide +kernel
theorem dX11_rule_92 : decode cX11_rule 92 = .ok (.getfield 28, 3) := by decide +kernel
theorem dX11_rule_95 : decode cX11_rule 95 = .ok (.invokevirtual 139, 3) := by decide +kernel
theorem dX11_rule_98 : decode cX11_rule 98 = .ok (.iconst 1, 1) := by decide +kernel
theorem dX11_rule_99 : decode cX11_rule 99 = .ok (.isub, 1) := by decide +kernel
theorem dX11_rule_100 : decode cX11_rule 100 = .ok (.ireturn, 1) := by decide +kernel
theorem dX11_force_0 : decode cX11_force 0 = .ok (.iload_n 1, 1) := by decide +kernel
theorem dX11_force_1 : decode cX11_force 1 = .ok (.invokestatic 226, 3) := by decide +kernel
theorem dX11_force_4 : decode cX11_force 4 = .ok (.ifCond .eq 27, 3) := by decide +kernel
theorem dX11_force_7 : decode cX11_force 7 = .ok (.iload_n 2, 1) := by decide +kernel
theorem dX11_force_8 : decode cX11_force 8 = .ok (.invokestatic 216, 3) := by decide +kernel
theorem dX11_force_11 : decode cX11_force 11 = .ok (.ifCond .eq 20, 3) := by decide +kernel
theorem dX11_force_14 : decode cX11_force 14 = .ok (.iload_n 3, 1) := by decide +kernel
theorem dX11_force_15 : decode cX11_force 15 = .ok (.invokestatic 216, 3) := by decide +kernel
theorem dX11_force_18 : decode cX11_force 18 = .ok (.ifCond .eq 13, 3) := by decide +kernel
theorem dX11_force_21 : decode cX11_force 21 = .ok (.aload_n 0, 1) := by decide +kernel
theorem dX11_force_22 : decode cX11_force 22 = .ok (.iload_n 1, 1) := by decide +kernel
theorem dX11_force_23 : decode cX11_force 23 = .ok (.iload_n 2, 1) := by decide +kernel
theorem dX11_force_24 : decode cX11_force 24 = .ok (.iload_n 3, 1) := by decide +kernel
theorem dX11_force_25 : decode cX11_force 25 = .ok (.invokevirtual 229, 3) := by decide +kernel
theorem dX11_force_28 : decode cX11_force 28 = .ok (.goto 4, 3) := by decide +kernel
theorem dX11_force_31 : decode cX11_force 31 = .ok (.iconst (-1), 1) := by decide +kernel
theorem dX11_force_32 : decode cX11_force 32 = .ok (.ireturn, 1) := by decide +kernel
theorem dX11_why_0 : decode cX11_why 0 = .ok (.iload_n 1, 1) := by decide +kernel
theorem dX11_why_1 : decode cX11_why 1 = .ok (.invokestatic 226, 3) := by decide +kernel
theorem dX11_why_4 : decode cX11_why 4 = .ok (.ifCond .eq 27, 3) := by decide +kernel
theorem dX11_why_7 : decode cX11_why 7 = .ok (.iload_n 2, 1) := by decide +kernel
theorem dX11_why_8 : decode cX11_why 8 = .ok (.invokestatic 216, 3) := by decide +kernel
theorem dX11_why_11 : decode cX11_why 11 = .ok (.ifCond .eq 20, 3) := by decide +kernel
theorem dX11_why_14 : decode cX11_why 14 = .ok (.iload_n 3, 1) := by decide +kernel
theorem dX11_why_15 : decode cX11_why 15 = .ok (.invokestatic 216, 3) := by decide +kernel
theorem dX11_why_18 : decode cX11_why 18 = .ok (.ifCond .eq 13, 3) := by decide +kernel
theorem dX11_why_21 : decode cX11_why 21 = .ok (.aload_n 0, 1) := by decide +kernel
theorem dX11_why_22 : decode cX11_why 22 = .ok (.iload_n 1, 1) := by decide +kernel
theorem dX11_why_23 : decode cX11_why 23 = .ok (.iload_n 2, 1) := by decide +kernel
theorem dX11_why_24 : decode cX11_why 24 = .ok (.iload_n 3, 1) := by decide +kernel
theorem dX11_why_25 : decode cX11_why 25 = .ok (.invokevirtual 233, 3) := by decide +kernel
theorem dX11_why_28 : decode cX11_why 28 = .ok (.goto 4, 3) := by decide +kernel
theorem dX11_why_31 : decode cX11_why 31 = .ok (.iconst (-1), 1) := by decide +kernel
theorem dX11_why_32 : decode cX11_why 32 = .ok (.ireturn, 1) := by decide +kernel
theorem dX11_quarrel_0 : decode cX11_quarrel 0 = .ok (.iload_n 1, 1) := by decide +kernel
theorem dX11_quarrel_1 : decode cX11_quarrel 1 = .ok (.invokestatic 226, 3) := by decide +kernel
theorem dX11_quarrel_4 : decode cX11_quarrel 4 = .ok (.ifCond .eq 17, 3) := by decide +kernel
theorem dX11_quarrel_7 : decode cX11_quarrel 7 = .ok (.iload_n 2, 1) := by decide +kernel
theorem dX11_quarrel_8 : decode cX11_quarrel 8 = .ok (.invokestatic 216, 3) := by decide +kernel
theorem dX11_quarrel_11 : decode cX11_quarrel 11 = .ok (.ifCond .eq 10, 3) := by decide +kernel
theorem dX11_quarrel_14 : decode cX11_quarrel 14 = .ok (.iload_n 3, 1) := by decide +kernel
theorem dX11_quarrel_15 : decode cX11_quarrel 15 = .ok (.invokestatic 216, 3) := by decide +kernel
theorem dX11_quarrel_18 : decode cX11_quarrel 18 = .ok (.ifCond .ne 5, 3) := by decide +kernel
theorem dX11_quarrel_21 : decode cX11_quarrel 21 = .ok (.iconst (-1), 1) := by decide +kernel
theorem dX11_quarrel_22 : decode cX11_quarrel 22 = .ok (.ireturn, 1) := by decide +kernel
theorem dX11_quarrel_23 : decode cX11_quarrel 23 = .ok (.aload_n 0, 1) := by decide +kernel
theorem dX11_quarrel_24 : decode cX11_quarrel 24 = .ok (.iload_n 1, 1) := by decide +kernel
theorem dX11_quarrel_25 : decode cX11_quarrel 25 = .ok (.iload_n 2, 1) := by decide +kernel
theorem dX11_quarrel_26 : decode cX11_quarrel 26 = .ok (.iload_n 3, 1) := by decide +kernel
theorem dX11_quarrel_27 : decode cX11_quarrel 27 = .ok (.invokevirtual 233, 3) := by decide +kernel
theorem dX11_quarrel_30 : decode cX11_quarrel 30 = .ok (.istore 4, 2) := by decide +kernel
theorem dX11_quarrel_32 : decode cX11_quarrel 32 = .ok (.iload 4, 2) := by decide +kernel
theorem dX11_quarrel_34 : decode cX11_quarrel 34 = .ok (.ifCond .lt 15, 3) := by decide +kernel
theorem dX11_quarrel_37 : decode cX11_quarrel 37 = .ok (.iload 4, 2) := by decide +kernel
theorem dX11_quarrel_39 : decode cX11_quarrel 39 = .ok (.aload_n 0, 1) := by decide +kernel
theorem dX11_quarrel_40 : decode cX11_quarrel 40 = .ok (.getfield 28, 3) := by decide +kernel
theorem dX11_quarrel_43 : decode cX11_quarrel 43 = .ok (.invokevirtual 139, 3) := by decide +kernel
theorem dX11_quarrel_46 : decode cX11_quarrel 46 = .ok (.if_icmp .lt 6, 3) := by decide +kernel
theorem dX11_quarrel_49 : decode cX11_quarrel 49 = .ok (.bipush (-9), 2) := by decide +kernel
theorem dX11_quarrel_51 : decode cX11_quarrel 51 = .ok (.ireturn, 1) := by decide +kernel
theorem dX11_quarrel_52 : decode cX11_quarrel 52 = .ok (.aload_n 0, 1) := by decide +kernel
theorem dX11_quarrel_53 : decode cX11_quarrel 53 = .ok (.getfield 28, 3) := by decide +kernel
theorem dX11_quarrel_56 : decode cX11_quarrel 56 = .ok (.iload 4, 2) := by decide +kernel
theorem dX11_quarrel_58 : decode cX11_quarrel 58 = .ok (.invokevirtual 142, 3) := by decide +kernel
theorem dX11_quarrel_61 : decode cX11_quarrel 61 = .ok (.checkcast 219, 3) := by decide +kernel
theorem dX11_quarrel_64 : decode cX11_quarrel 64 = .ok (.getfield 236, 3) := by decide +kernel
theorem dX11_quarrel_67 : decode cX11_quarrel 67 = .ok (.istore 5, 2) := by decide +kernel
theorem dX11_quarrel_69 : decode cX11_quarrel 69 = .ok (.iconst 0, 1) := by decide +kernel
theorem dX11_quarrel_70 : decode cX11_quarrel 70 = .ok (.istore 6, 2) := by decide +kernel
theorem dX11_quarrel_72 : decode cX11_quarrel 72 = .ok (.iload 6, 2) := by decide +kernel
theorem dX11_quarrel_74 : decode cX11_quarrel 74 = .ok (.iload 4, 2) := by decide +kernel
theorem dX11_quarrel_76 : decode cX11_quarrel 76 = .ok (.if_icmp .ge 59, 3) := by decide +kernel
theorem dX11_quarrel_79 : decode cX11_quarrel 79 = .ok (.aload_n 0, 1) := by decide +kernel
theorem dX11_quarrel_80 : decode cX11_quarrel 80 = .ok (.getfield 28, 3) := by decide +kernel
theorem dX11_quarrel_83 : decode cX11_quarrel 83 = .ok (.iload 6, 2) := by decide +kernel
theorem dX11_quarrel_85 : decode cX11_quarrel 85 = .ok (.invokevirtual 142, 3) := by decide +kernel
theorem dX11_quarrel_88 : decode cX11_quarrel 88 = .ok (.checkcast 219, 3) := by decide +kernel
theorem dX11_quarrel_91 : decode cX11_quarrel 91 = .ok (.iload_n 1, 1) := by decide +kernel
theorem dX11_quarrel_92 : decode cX11_quarrel 92 = .ok (.iload 5, 2) := by decide +kernel
theorem dX11_quarrel_94 : decode cX11_quarrel 94 = .ok (.iload_n 3, 1) := by decide +kernel
theorem dX11_quarrel_95 : decode cX11_quarrel 95 = .ok (.invokevirtual 239, 3) := by decide +kernel
theorem dX11_quarrel_98 : decode cX11_quarrel 98 = .ok (.ifCond .eq 31, 3) := by decide +kernel
theorem dX11_quarrel_101 : decode cX11_quarrel 101 = .ok (.aload_n 0, 1) := by decide +kernel
theorem dX11_quarrel_102 : decode cX11_quarrel 102 = .ok (.iload 6, 2) := by decide +kernel
theorem dX11_quarrel_104 : decode cX11_quarrel 104 = .ok (.iload_n 1, 1) := by decide +kernel
theorem dX11_quarrel_105 : decode cX11_quarrel 105 = .ok (.iload 5, 2) := by decide +kernel
theorem dX11_quarrel_107 : decode cX11_quarrel 107 = .ok (.iload_n 3, 1) := by decide +kernel
theorem dX11_quarrel_108 : decode cX11_quarrel 108 = .ok (.invokevirtual 243, 3) := by decide +kernel
theorem dX11_quarrel_111 : decode cX11_quarrel 111 = .ok (.istore 7, 2) := by decide +kernel
theorem dX11_quarrel_113 : decode cX11_quarrel 113 = .ok (.iload 7, 2) := by decide +kernel
theorem dX11_quarrel_115 : decode cX11_quarrel 115 = .ok (.bipush (-9), 2) := by decide +kernel
theorem dX11_quarrel_117 : decode cX11_quarrel 117 = .ok (.if_icmp .eq 12, 3) := by decide +kernel
theorem dX11_quarrel_120 : decode cX11_quarrel 120 = .ok (.bipush 100, 2) := by decide +kernel
theorem dX11_quarrel_122 : decode cX11_quarrel 122 = .ok (.iload 6, 2) := by decide +kernel
theorem dX11_quarrel_124 : decode cX11_quarrel 124 = .ok (.imul, 1) := by decide +kernel
theorem dX11_quarrel_125 : decode cX11_quarrel 125 = .ok (.iload 7, 2) := by decide +kernel
theorem dX11_quarrel_127 : decode cX11_quarrel 127 = .ok (.iadd, 1) := by decide +kernel
theorem dX11_quarrel_128 : decode cX11_quarrel 128 = .ok (.ireturn, 1) := by decide +kernel
theorem dX11_quarrel_129 : decode cX11_quarrel 129 = .ok (.iinc 6 1, 3) := by decide +kernel
theorem dX11_quarrel_132 : decode cX11_quarrel 132 = .ok (.goto (-60), 3) := by decide +kernel
theorem dX11_quarrel_135 : decode cX11_quarrel 135 = .ok (.bipush (-9), 2) := by decide +kernel
theorem dX11_quarrel_137 : decode cX11_quarrel 137 = .ok (.ireturn, 1) := by decide +kernel
theorem dX11_slip_0 : decode cX11_slip 0 = .ok (.aload_n 0, 1) := by decide +kernel
theorem dX11_slip_1 : decode cX11_slip 1 = .ok (.iload_n 2, 1) := by decide +kernel
theorem dX11_slip_2 : decode cX11_slip 2 = .ok (.invokevirtual 135, 3) := by decide +kernel
theorem dX11_slip_5 : decode cX11_slip 5 = .ok (.astore 4, 2) := by decide +kernel
theorem dX11_slip_7 : decode cX11_slip 7 = .ok (.iload_n 1, 1) := by decide +kernel
theorem dX11_slip_8 : decode cX11_slip 8 = .ok (.invokestatic 187, 3) := by decide +kernel
theorem dX11_slip_11 : decode cX11_slip 11 = .ok (.ifCond .eq 8, 3) := by decide +kernel
theorem dX11_slip_14 : decode cX11_slip 14 = .ok (.aload 4, 2) := by decide +kernel
theorem dX11_slip_16 : decode cX11_slip 16 = .ok (.ifnonnull 5, 3) := by decide +kernel
theorem dX11_slip_19 : decode cX11_slip 19 = .ok (.iconst (-1), 1) := by decide +kernel
theorem dX11_slip_20 : decode cX11_slip 20 = .ok (.ireturn, 1) := by decide +kernel
theorem dX11_slip_21 : decode cX11_slip 21 = .ok (.aload_n 0, 1) := by decide +kernel
theorem dX11_slip_22 : decode cX11_slip 22 = .ok (.getfield 25, 3) := by decide +kernel
theorem dX11_slip_25 : decode cX11_slip 25 = .ok (.invokevirtual 139, 3) := by decide +kernel
theorem dX11_slip_28 : decode cX11_slip 28 = .ok (.bipush 24, 2) := by decide +kernel
theorem dX11_slip_30 : decode cX11_slip 30 = .ok (.if_icmp .lt 6, 3) := by decide +kernel
theorem dX11_slip_33 : decode cX11_slip 33 = .ok (.bipush (-2), 2) := by decide +kernel
theorem dX11_slip_35 : decode cX11_slip 35 = .ok (.ireturn, 1) := by decide +kernel
theorem dX11_slip_36 : decode cX11_slip 36 = .ok (.aload 4, 2) := by decide +kernel
theorem dX11_slip_38 : decode cX11_slip 38 = .ok (.invokevirtual 107, 3) := by decide +kernel
theorem dX11_slip_41 : decode cX11_slip 41 = .ok (.ifCond .eq 9, 3) := by decide +kernel
theorem dX11_slip_44 : decode cX11_slip 44 = .ok (.aload_n 0, 1) := by decide +kernel
theorem dX11_slip_45 : decode cX11_slip 45 = .ok (.iconst 1, 1) := by decide +kernel
theorem dX11_slip_46 : decode cX11_slip 46 = .ok (.invokevirtual 99, 3) := by decide +kernel
theorem dX11_slip_49 : decode cX11_slip 49 = .ok (.ireturn, 1) := by decide +kernel
theorem dX11_slip_50 : decode cX11_slip 50 = .ok (.aload 4, 2) := by decide +kernel
theorem dX11_slip_52 : decode cX11_slip 52 = .ok (.iload_n 3, 1) := by decide +kernel
theorem dX11_slip_53 : decode cX11_slip 53 = .ok (.invokevirtual 111, 3) := by decide +kernel
theorem dX11_slip_56 : decode cX11_slip 56 = .ok (.ifCond .ne 9, 3) := by decide +kernel
theorem dX11_slip_59 : decode cX11_slip 59 = .ok (.aload_n 0, 1) := by decide +kernel
theorem dX11_slip_60 : decode cX11_slip 60 = .ok (.iconst 2, 1) := by decide +kernel
theorem dX11_slip_61 : decode cX11_slip 61 = .ok (.invokevirtual 99, 3) := by decide +kernel
theorem dX11_slip_64 : decode cX11_slip 64 = .ok (.ireturn, 1) := by decide +kernel
theorem dX11_slip_65 : decode cX11_slip 65 = .ok (.aload 4, 2) := by decide +kernel
theorem dX11_slip_67 : decode cX11_slip 67 = .ok (.iload_n 3, 1) := by decide +kernel
theorem dX11_slip_68 : decode cX11_slip 68 = .ok (.invokestatic 247, 3) := by decide +kernel
theorem dX11_slip_71 : decode cX11_slip 71 = .ok (.istore 5, 2) := by decide +kernel
theorem dX11_slip_73 : decode cX11_slip 73 = .ok (.iload 5, 2) := by decide +kernel
theorem dX11_slip_75 : decode cX11_slip 75 = .ok (.bipush (-9), 2) := by decide +kernel
theorem dX11_slip_77 : decode cX11_slip 77 = .ok (.if_icmp .ne 9, 3) := by decide +kernel
theorem dX11_slip_80 : decode cX11_slip 80 = .ok (.aload_n 0, 1) := by decide +kernel
theorem dX11_slip_81 : decode cX11_slip 81 = .ok (.iconst 3, 1) := by decide +kernel
theorem dX11_slip_82 : decode cX11_slip 82 = .ok (.invokevirtual 99, 3) := by decide +kernel
theorem dX11_slip_85 : decode cX11_slip 85 = .ok (.ireturn, 1) := by decide +kernel
theorem dX11_slip_86 : decode cX11_slip 86 = .ok (.aload_n 0, 1) := by decide +kernel
theorem dX11_slip_87 : decode cX11_slip 87 = .ok (.iload 5, 2) := by decide +kernel
theorem dX11_slip_89 : decode cX11_slip 89 = .ok (.invokevirtual 158, 3) := by decide +kernel
theorem dX11_slip_92 : decode cX11_slip 92 = .ok (.astore 6, 2) := by decide +kernel
theorem dX11_slip_94 : decode cX11_slip 94 = .ok (.aload 6, 2) := by decide +kernel
theorem dX11_slip_96 : decode cX11_slip 96 = .ok (.ifnonnull 9, 3) := by decide +kernel
theorem dX11_slip_99 : decode cX11_slip 99 = .ok (.aload_n 0, 1) := by decide +kernel
theorem dX11_slip_100 : decode cX11_slip 100 = .ok (.iconst 1, 1) := by decide +kernel
theorem dX11_slip_101 : decode cX11_slip 101 = .ok (.invokevirtual 99, 3) := by decide +kernel
theorem dX11_slip_104 : decode cX11_slip 104 = .ok (.ireturn, 1) := by decide +kernel
theorem dX11_slip_105 : decode cX11_slip 105 = .ok (.aload_n 0, 1) := by decide +kernel
theorem dX11_slip_106 : decode cX11_slip 106 = .ok (.iload_n 1, 1) := by decide +kernel
theorem dX11_slip_107 : decode cX11_slip 107 = .ok (.invokevirtual 251, 3) := by decide +kernel
theorem dX11_slip_110 : decode cX11_slip 110 = .ok (.istore 7, 2) := by decide +kernel
theorem dX11_slip_112 : decode cX11_slip 112 = .ok (.iload 7, 2) := by decide +kernel
theorem dX11_slip_114 : decode cX11_slip 114 = .ok (.aload_n 0, 1) := by decide +kernel
theorem dX11_slip_115 : decode cX11_slip 115 = .ok (.iconst 0, 1) := by decide +kernel
theorem dX11_slip_116 : decode cX11_slip 116 = .ok (.invokevirtual 196, 3) := by decide +kernel
theorem dX11_slip_119 : decode cX11_slip 119 = .ok (.if_icmp .ge 12, 3) := by decide +kernel
theorem dX11_slip_122 : decode cX11_slip 122 = .ok (.aload_n 0, 1) := by decide +kernel
theorem dX11_slip_123 : decode cX11_slip 123 = .ok (.aload 6, 2) := by decide +kernel
theorem dX11_slip_125 : decode cX11_slip 125 = .ok (.invokevirtual 254, 3) := by decide +kernel
theorem dX11_slip_128 : decode cX11_slip 128 = .ok (.ifCond .eq 6, 3) := by decide +kernel
theorem dX11_slip_131 : decode cX11_slip 131 = .ok (.bipush (-4), 2) := by decide +kernel
theorem dX11_slip_133 : decode cX11_slip 133 = .ok (.ireturn, 1) := by decide +kernel
theorem dX11_slip_134 : decode cX11_slip 134 = .ok (.new 258, 3) := by decide +kernel
theorem dX11_slip_137 : decode cX11_slip 137 = .ok (.dup, 1) := by decide +kernel
theorem dX11_slip_138 : decode cX11_slip 138 = .ok (.iload_n 1, 1) := by decide +kernel
theorem dX11_slip_139 : decode cX11_slip 139 = .ok (.aload 6, 2) := by decide +kernel
theorem dX11_slip_141 : decode cX11_slip 141 = .ok (.aload_n 0, 1) := by decide +kernel
theorem dX11_slip_142 : decode cX11_slip 142 = .ok (.getfield 71, 3) := by decide +kernel
theorem dX11_slip_145 : decode cX11_slip 145 = .ok (.iload 7, 2) := by decide +kernel
theorem dX11_slip_147 : decode cX11_slip 147 = .ok (.invokespecial 260, 3) := by decide +kernel
theorem dX11_slip_150 : decode cX11_slip 150 = .ok (.astore 8, 2) := by decide +kernel
theorem dX11_slip_152 : decode cX11_slip 152 = .ok (.aload 6, 2) := by decide +kernel
theorem dX11_slip_154 : decode cX11_slip 154 = .ok (.getfield 263, 3) := by decide +kernel
theorem dX11_slip_157 : decode cX11_slip 157 = .ok (.ifCond .eq 13, 3) := by decide +kernel
theorem dX11_slip_160 : decode cX11_slip 160 = .ok (.aload 8, 2) := by decide +kernel
theorem dX11_slip_162 : decode cX11_slip 162 = .ok (.iconst 3, 1) := by decide +kernel
theorem dX11_slip_163 : decode cX11_slip 163 = .ok (.aload_n 0, 1) := by decide +kernel
theorem dX11_slip_164 : decode cX11_slip 164 = .ok (.getfield 71, 3) := by decide +kernel
theorem dX11_slip_167 : decode cX11_slip 167 = .ok (.invokevirtual 266, 3) := by decide +kernel
theorem dX11_slip_170 : decode cX11_slip 170 = .ok (.aload_n 0, 1) := by decide +kernel
theorem dX11_slip_171 : decode cX11_slip 171 = .ok (.getfield 25, 3) := by decide +kernel
theorem dX11_slip_174 : decode cX11_slip 174 = .ok (.aload 8, 2) := by decide +kernel
theorem dX11_slip_176 : decode cX11_slip 176 = .ok (.invokevirtual 165, 3) := by decide +kernel
theorem dX11_slip_179 : decode cX11_slip 179 = .ok (.pop, 1) := by decide +kernel
theorem dX11_slip_180 : decode cX11_slip 180 = .ok (.aload_n 0, 1) := by decide +kernel
theorem dX11_slip_181 : decode cX11_slip 181 = .ok (.getfield 25, 3) := by decide +kernel
theorem dX11_slip_184 : decode cX11_slip 184 = .ok (.invokevirtual 139, 3) := by decide +kernel
theorem dX11_slip_187 : decode cX11_slip 187 = .ok (.iconst 1, 1) := by decide +kernel
theorem dX11_slip_188 : decode cX11_slip 188 = .ok (.isub, 1) := by decide +kernel
theorem dX11_slip_189 : decode cX11_slip 189 = .ok (.ireturn, 1) := by decide +kernel
theorem dX11_slipTold_0 : decode cX11_slipTold 0 = .ok (.aload_n 0, 1) := by decide +kernel
theorem dX11_slipTold_1 : decode cX11_slipTold 1 = .ok (.iload_n 1, 1) := by decide +kernel
theorem dX11_slipTold_2 : decode cX11_slipTold 2 = .ok (.invokevirtual 269, 3) := by decide +kernel
theorem dX11_slipTold_5 : decode cX11_slipTold 5 = .ok (.astore_n 3, 1) := by decide +kernel
theorem dX11_slipTold_6 : decode cX11_slipTold 6 = .ok (.aload_n 3, 1) := by decide +kernel
theorem dX11_slipTold_7 : decode cX11_slipTold 7 = .ok (.ifnull 12, 3) := by decide +kernel
theorem dX11_slipTold_10 : decode cX11_slipTold 10 = .ok (.iload_n 2, 1) := by decide +kernel
theorem dX11_slipTold_11 : decode cX11_slipTold 11 = .ok (.ifCond .lt 8, 3) := by decide +kernel
theorem dX11_slipTold_14 : decode cX11_slipTold 14 = .ok (.iload_n 2, 1) := by decide +kernel
theorem dX11_slipTold_15 : decode cX11_slipTold 15 = .ok (.iconst 4, 1) := by decide +kernel
theorem dX11_slipTold_16 : decode cX11_slipTold 16 = .ok (.if_icmp .le 5, 3) := by decide +kernel
theorem dX11_slipTold_19 : decode cX11_slipTold 19 = .ok (.iconst (-1), 1) := by decide +kernel
theorem dX11_slipTold_20 : decode cX11_slipTold 20 = .ok (.ireturn, 1) := by decide +kernel
theorem dX11_slipTold_21 : decode cX11_slipTold 21 = .ok (.aload_n 0, 1) := by decide +kernel
theorem dX11_slipTold_22 : decode cX11_slipTold 22 = .ok (.aload_n 3, 1) := by decide +kernel
theorem dX11_slipTold_23 : decode cX11_slipTold 23 = .ok (.iload_n 2, 1) := by decide +kernel
theorem dX11_slipTold_24 : decode cX11_slipTold 24 = .ok (.invokevirtual 273, 3) := by decide +kernel
theorem dX11_slipTold_27 : decode cX11_slipTold 27 = .ok (.putfield 78, 3) := by decide +kernel
theorem dX11_slipTold_30 : decode cX11_slipTold 30 = .ok (.iconst 1, 1) := by decide +kernel
theorem dX11_slipTold_31 : decode cX11_slipTold 31 = .ok (.ireturn, 1) := by decide +kernel
theorem dX11_pace_0 : decode cX11_pace 0 = .ok (.iload_n 1, 1) := by decide +kernel
theorem dX11_pace_1 : decode cX11_pace 1 = .ok (.invokestatic 274, 3) := by decide +kernel
theorem dX11_pace_4 : decode cX11_pace 4 = .ok (.ifCond .eq 14, 3) := by decide +kernel
theorem dX11_pace_7 : decode cX11_pace 7 = .ok (.iload_n 2, 1) := by decide +kernel
theorem dX11_pace_8 : decode cX11_pace 8 = .ok (.iconst 1, 1) := by decide +kernel
theorem dX11_pace_9 : decode cX11_pace 9 = .ok (.if_icmp .lt 9, 3) := by decide +kernel
theorem dX11_pace_12 : decode cX11_pace 12 = .ok (.iload_n 2, 1) := by decide +kernel
theorem dX11_pace_13 : decode cX11_pace 13 = .ok (.bipush 9, 2) := by decide +kernel
theorem dX11_pace_15 : decode cX11_pace 15 = .ok (.if_icmp .le 5, 3) := by decide +kernel
theorem dX11_pace_18 : decode cX11_pace 18 = .ok (.iconst (-1), 1) := by decide +kernel
theorem dX11_pace_19 : decode cX11_pace 19 = .ok (.ireturn, 1) := by decide +kernel
theorem dX11_pace_20 : decode cX11_pace 20 = .ok (.aload_n 0, 1) := by decide +kernel
theorem dX11_pace_21 : decode cX11_pace 21 = .ok (.getfield 61, 3) := by decide +kernel
theorem dX11_pace_24 : decode cX11_pace 24 = .ok (.iload_n 1, 1) := by decide +kernel
theorem dX11_pace_25 : decode cX11_pace 25 = .ok (.iaload, 1) := by decide +kernel
theorem dX11_pace_26 : decode cX11_pace 26 = .ok (.istore_n 3, 1) := by decide +kernel
theorem dX11_pace_27 : decode cX11_pace 27 = .ok (.aload_n 0, 1) := by decide +kernel
theorem dX11_pace_28 : decode cX11_pace 28 = .ok (.getfield 61, 3) := by decide +kernel
theorem dX11_pace_31 : decode cX11_pace 31 = .ok (.iload_n 1, 1) := by decide +kernel
theorem dX11_pace_32 : decode cX11_pace 32 = .ok (.iload_n 2, 1) := by decide +kernel
theorem dX11_pace_33 : decode cX11_pace 33 = .ok (.iastore, 1) := by decide +kernel
theorem dX11_pace_34 : decode cX11_pace 34 = .ok (.iload_n 3, 1) := by decide +kernel
theorem dX11_pace_35 : decode cX11_pace 35 = .ok (.ireturn, 1) := by decide +kernel
theorem dX11_free_0 : decode cX11_free 0 = .ok (.iload_n 1, 1) := by decide +kernel
theorem dX11_free_1 : decode cX11_free 1 = .ok (.invokestatic 274, 3) := by decide +kernel
theorem dX11_free_4 : decode cX11_free 4 = .ok (.ifCond .eq 12, 3) := by decide +kernel
theorem dX11_free_7 : decode cX11_free 7 = .ok (.aload_n 0, 1) := by decide +kernel
theorem dX11_free_8 : decode cX11_free 8 = .ok (.getfield 65, 3) := by decide +kernel
theorem dX11_free_11 : decode cX11_free 11 = .ok (.iload_n 1, 1) := by decide +kernel
theorem dX11_free_12 : decode cX11_free 12 = .ok (.iaload, 1) := by decide +kernel
theorem dX11_free_13 : decode cX11_free 13 = .ok (.goto 4, 3) := by decide +kernel
theorem dX11_free_16 : decode cX11_free 16 = .ok (.iconst (-1), 1) := by decide +kernel
theorem dX11_free_17 : decode cX11_free 17 = .ok (.ireturn, 1) := by decide +kernel
theorem dX11_takes_0 : decode cX11_takes 0 = .ok (.aload_n 0, 1) := by decide +kernel
theorem dX11_takes_1 : decode cX11_takes 1 = .ok (.iload_n 2, 1) := by decide +kernel
theorem dX11_takes_2 : decode cX11_takes 2 = .ok (.invokevirtual 269, 3) := by decide +kernel
theorem dX11_takes_5 : decode cX11_takes 5 = .ok (.astore_n 3, 1) := by decide +kernel
theorem dX11_takes_6 : decode cX11_takes 6 = .ok (.iload_n 1, 1) := by decide +kernel
theorem dX11_takes_7 : decode cX11_takes 7 = .ok (.invokestatic 274, 3) := by decide +kernel
theorem dX11_takes_10 : decode cX11_takes 10 = .ok (.ifCond .eq 7, 3) := by decide +kernel
theorem dX11_takes_13 : decode cX11_takes 13 = .ok (.aload_n 3, 1) := by decide +kernel
theorem dX11_takes_14 : decode cX11_takes 14 = .ok (.ifnonnull 5, 3) := by decide +kernel
theorem dX11_takes_17 : decode cX11_takes 17 = .ok (.iconst (-1), 1) := by decide +kernel
theorem dX11_takes_18 : decode cX11_takes 18 = .ok (.ireturn, 1) := by decide +kernel
theorem dX11_takes_19 : decode cX11_takes 19 = .ok (.aload_n 3, 1) := by decide +kernel
theorem dX11_takes_20 : decode cX11_takes 20 = .ok (.getfield 277, 3) := by decide +kernel
theorem dX11_takes_23 : decode cX11_takes 23 = .ok (.invokevirtual 281, 3) := by decide +kernel
theorem dX11_takes_26 : decode cX11_takes 26 = .ok (.aload_n 0, 1) := by decide +kernel
theorem dX11_takes_27 : decode cX11_takes 27 = .ok (.getfield 61, 3) := by decide +kernel
theorem dX11_takes_30 : decode cX11_takes 30 = .ok (.iload_n 1, 1) := by decide +kernel
theorem dX11_takes_31 : decode cX11_takes 31 = .ok (.iaload, 1) := by decide +kernel
theorem dX11_takes_32 : decode cX11_takes 32 = .ok (.invokestatic 284, 3) := by decide +kernel
theorem dX11_takes_35 : decode cX11_takes 35 = .ok (.ireturn, 1) := by decide +kernel
theorem dX11_send_0 : decode cX11_send 0 = .ok (.aload_n 0, 1) := by decide +kernel
theorem dX11_send_1 : decode cX11_send 1 = .ok (.iload_n 2, 1) := by decide +kernel
theorem dX11_send_2 : decode cX11_send 2 = .ok (.invokevirtual 269, 3) := by decide +kernel
theorem dX11_send_5 : decode cX11_send 5 = .ok (.astore_n 3, 1) := by decide +kernel
theorem dX11_send_6 : decode cX11_send 6 = .ok (.iload_n 1, 1) := by decide +kernel
theorem dX11_send_7 : decode cX11_send 7 = .ok (.invokestatic 274, 3) := by decide +kernel
theorem dX11_send_10 : decode cX11_send 10 = .ok (.ifCond .eq 7, 3) := by decide +kernel
theorem dX11_send_13 : decode cX11_send 13 = .ok (.aload_n 3, 1) := by decide +kernel
theorem dX11_send_14 : decode cX11_send 14 = .ok (.ifnonnull 5, 3) := by decide +kernel
theorem dX11_send_17 : decode cX11_send 17 = .ok (.iconst (-1), 1) := by decide +kernel
theorem dX11_send_18 : decode cX11_send 18 = .ok (.ireturn, 1) := by decide +kernel
theorem dX11_send_19 : decode cX11_send 19 = .ok (.aload_n 3, 1) := by decide +kernel
theorem dX11_send_20 : decode cX11_send 20 = .ok (.getfield 277, 3) := by decide +kernel
theorem dX11_send_23 : decode cX11_send 23 = .ok (.astore 4, 2) := by decide +kernel
theorem dX11_send_25 : decode cX11_send 25 = .ok (.aload_n 0, 1) := by decide +kernel
theorem dX11_send_26 : decode cX11_send 26 = .ok (.getfield 71, 3) := by decide +kernel
theorem dX11_send_29 : decode cX11_send 29 = .ok (.aload 4, 2) := by decide +kernel
theorem dX11_send_31 : decode cX11_send 31 = .ok (.invokevirtual 281, 3) := by decide +kernel
theorem dX11_send_34 : decode cX11_send 34 = .ok (.aload_n 0, 1) := by decide +kernel
theorem dX11_send_35 : decode cX11_send 35 = .ok (.getfield 61, 3) := by decide +kernel
theorem dX11_send_38 : decode cX11_send 38 = .ok (.iload_n 1, 1) := by decide +kernel
theorem dX11_send_39 : decode cX11_send 39 = .ok (.iaload, 1) := by decide +kernel
theorem dX11_send_40 : decode cX11_send 40 = .ok (.invokestatic 284, 3) := by decide +kernel
theorem dX11_send_43 : decode cX11_send 43 = .ok (.iadd, 1) := by decide +kernel
theorem dX11_send_44 : decode cX11_send 44 = .ok (.istore 5, 2) := by decide +kernel
theorem dX11_send_46 : decode cX11_send 46 = .ok (.aload_n 0, 1) := by decide +kernel
theorem dX11_send_47 : decode cX11_send 47 = .ok (.getfield 65, 3) := by decide +kernel
theorem dX11_send_50 : decode cX11_send 50 = .ok (.iload_n 1, 1) := by decide +kernel
theorem dX11_send_51 : decode cX11_send 51 = .ok (.iaload, 1) := by decide +kernel
theorem dX11_send_52 : decode cX11_send 52 = .ok (.aload_n 0, 1) := by decide +kernel
theorem dX11_send_53 : decode cX11_send 53 = .ok (.getfield 71, 3) := by decide +kernel
theorem dX11_send_56 : decode cX11_send 56 = .ok (.if_icmp .gt 17, 3) := by decide +kernel
theorem dX11_send_59 : decode cX11_send 59 = .ok (.aload_n 3, 1) := by decide +kernel
theorem dX11_send_60 : decode cX11_send 60 = .ok (.getfield 288, 3) := by decide +kernel
theorem dX11_send_63 : decode cX11_send 63 = .ok (.ifCond .ne 10, 3) := by decide +kernel
theorem dX11_send_66 : decode cX11_send 66 = .ok (.iload 5, 2) := by decide +kernel
theorem dX11_send_68 : decode cX11_send 68 = .ok (.ldc 138, 2) := by decide +kernel
theorem dX11_send_70 : decode cX11_send 70 = .ok (.if_icmp .le 6, 3) := by decide +kernel
theorem dX11_send_73 : decode cX11_send 73 = .ok (.bipush (-4), 2) := by decide +kernel
theorem dX11_send_75 : decode cX11_send 75 = .ok (.ireturn, 1) := by decide +kernel
theorem dX11_send_76 : decode cX11_send 76 = .ok (.aload_n 0, 1) := by decide +kernel
theorem dX11_send_77 : decode cX11_send 77 = .ok (.getfield 65, 3) := by decide +kernel
theorem dX11_send_80 : decode cX11_send 80 = .ok (.iload_n 1, 1) := by decide +kernel
theorem dX11_send_81 : decode cX11_send 81 = .ok (.iload 5, 2) := by decide +kernel
theorem dX11_send_83 : decode cX11_send 83 = .ok (.iastore, 1) := by decide +kernel
theorem dX11_send_84 : decode cX11_send 84 = .ok (.aload 4, 2) := by decide +kernel
theorem dX11_send_86 : decode cX11_send 86 = .ok (.getfield 181, 3) := by decide +kernel
theorem dX11_send_89 : decode cX11_send 89 = .ok (.ifCond .ne 30, 3) := by decide +kernel
theorem dX11_send_92 : decode cX11_send 92 = .ok (.aload_n 3, 1) := by decide +kernel
theorem dX11_send_93 : decode cX11_send 93 = .ok (.iconst 1, 1) := by decide +kernel
theorem dX11_send_94 : decode cX11_send 94 = .ok (.putfield 288, 3) := by decide +kernel
theorem dX11_send_97 : decode cX11_send 97 = .ok (.aload 4, 2) := by decide +kernel
theorem dX11_send_99 : decode cX11_send 99 = .ok (.iconst 5, 1) := by decide +kernel
theorem dX11_send_100 : decode cX11_send 100 = .ok (.iload_n 1, 1) := by decide +kernel
theorem dX11_send_101 : decode cX11_send 101 = .ok (.invokevirtual 199, 3) := by decide +kernel
theorem dX11_send_104 : decode cX11_send 104 = .ok (.aload 4, 2) := by decide +kernel
theorem dX11_send_106 : decode cX11_send 106 = .ok (.iload 5, 2) := by decide +kernel
theorem dX11_send_108 : decode cX11_send 108 = .ok (.putfield 291, 3) := by decide +kernel
theorem dX11_send_111 : decode cX11_send 111 = .ok (.aload 4, 2) := by decide +kernel
theorem dX11_send_113 : decode cX11_send 113 = .ok (.aload_n 3, 1) := by decide +kernel
theorem dX11_send_114 : decode cX11_send 114 = .ok (.putfield 294, 3) := by decide +kernel
theorem dX11_send_117 : decode cX11_send 117 = .ok (.iconst 1, 1) := by decide +kernel
theorem dX11_send_118 : decode cX11_send 118 = .ok (.ireturn, 1) := by decide +kernel
theorem dX11_send_119 : decode cX11_send 119 = .ok (.aload_n 3, 1) := by decide +kernel
theorem dX11_send_120 : decode cX11_send 120 = .ok (.iconst 3, 1) := by decide +kernel
theorem dX11_send_121 : decode cX11_send 121 = .ok (.aload_n 0, 1) := by decide +kernel
theorem dX11_send_122 : decode cX11_send 122 = .ok (.getfield 71, 3) := by decide +kernel
theorem dX11_send_125 : decode cX11_send 125 = .ok (.invokevirtual 266, 3) := by decide +kernel
theorem dX11_send_128 : decode cX11_send 128 = .ok (.aload 4, 2) := by decide +kernel
theorem dX11_send_130 : decode cX11_send 130 = .ok (.getfield 263, 3) := by decide +kernel
theorem dX11_send_133 : decode cX11_send 133 = .ok (.ifCond .ne 16, 3) := by decide +kernel
theorem dX11_send_136 : decode cX11_send 136 = .ok (.aload 4, 2) := by decide +kernel
theorem dX11_send_138 : decode cX11_send 138 = .ok (.iconst 3, 1) := by decide +kernel
theorem dX11_send_139 : decode cX11_send 139 = .ok (.putfield 263, 3) := by decide +kernel
theorem dX11_send_142 : decode cX11_send 142 = .ok (.aload_n 0, 1) := by decide +kernel
theorem dX11_send_143 : decode cX11_send 143 = .ok (.aload 4, 2) := by decide +kernel
theorem dX11_send_145 : decode cX11_send 145 = .ok (.iconst 0, 1) := by decide +kernel
theorem dX11_send_146 : decode cX11_send 146 = .ok (.invokevirtual 298, 3) := by decide +kernel
theorem dX11_send_149 : decode cX11_send 149 = .ok (.iconst 0, 1) := by decide +kernel
theorem dX11_send_150 : decode cX11_send 150 = .ok (.ireturn, 1) := by decide +kernel
theorem dX11_foretell_0 : decode cX11_foretell 0 = .ok (.aload_n 0, 1) := by decide +kernel
theorem dX11_foretell_1 : decode cX11_foretell 1 = .ok (.iload_n 1, 1) := by decide +kernel
theorem dX11_foretell_2 : decode cX11_foretell 2 = .ok (.invokevirtual 269, 3) := by decide +kernel
theorem dX11_foretell_5 : decode cX11_foretell 5 = .ok (.astore_n 2, 1) := by decide +kernel
theorem dX11_foretell_6 : decode cX11_foretell 6 = .ok (.aload_n 2, 1) := by decide +kernel
theorem dX11_foretell_7 : decode cX11_foretell 7 = .ok (.ifnonnull 5, 3) := by decide +kernel
theorem dX11_foretell_10 : decode cX11_foretell 10 = .ok (.iconst (-1), 1) := by decide +kernel
theorem dX11_foretell_11 : decode cX11_foretell 11 = .ok (.ireturn, 1) := by decide +kernel
theorem dX11_foretell_12 : decode cX11_foretell 12 = .ok (.aload_n 2, 1) := by decide +kernel
theorem dX11_foretell_13 : decode cX11_foretell 13 = .ok (.getfield 288, 3) := by decide +kernel
theorem dX11_foretell_16 : decode cX11_foretell 16 = .ok (.ifCond .eq 6, 3) := by decide +kernel
theorem dX11_foretell_19 : decode cX11_foretell 19 = .ok (.bipush (-4), 2) := by decide +kernel
theorem dX11_foretell_21 : decode cX11_foretell 21 = .ok (.ireturn, 1) := by decide +kernel
theorem dX11_foretell_22 : decode cX11_foretell 22 = .ok (.aload_n 0, 1) := by decide +kernel
theorem dX11_foretell_23 : decode cX11_foretell 23 = .ok (.invokevirtual 302, 3) := by decide +kernel
theorem dX11_foretell_26 : decode cX11_foretell 26 = .ok (.aload_n 0, 1) := by decide +kernel
theorem dX11_foretell_27 : decode cX11_foretell 27 = .ok (.getfield 50, 3) := by decide +kernel
theorem dX11_foretell_30 : decode cX11_foretell 30 = .ok (.aload_n 0, 1) := by decide +kernel
theorem dX11_foretell_31 : decode cX11_foretell 31 = .ok (.iload_n 1, 1) := by decide +kernel
theorem dX11_foretell_32 : decode cX11_foretell 32 = .ok (.invokevirtual 305, 3) := by decide +kernel
theorem dX11_foretell_35 : decode cX11_foretell 35 = .ok (.invokevirtual 308, 3) := by decide +kernel
theorem dX11_foretell_38 : decode cX11_foretell 38 = .ok (.ireturn, 1) := by decide +kernel
theorem dX11_round_0 : decode cX11_round 0 = .ok (.aload_n 0, 1) := by decide +kernel
theorem dX11_round_1 : decode cX11_round 1 = .ok (.invokevirtual 302, 3) := by decide +kernel
theorem dX11_round_4 : decode cX11_round 4 = .ok (.aload_n 0, 1) := by decide +kernel
theorem dX11_round_5 : decode cX11_round 5 = .ok (.getfield 50, 3) := by decide +kernel
theorem dX11_round_8 : decode cX11_round 8 = .ok (.getfield 311, 3) := by decide +kernel
theorem dX11_round_11 : decode cX11_round 11 = .ok (.bipush 6, 2) := by decide +kernel
theorem dX11_round_13 : decode cX11_round 13 = .ok (.if_icmp .le 6, 3) := by decide +kernel
theorem dX11_round_16 : decode cX11_round 16 = .ok (.bipush (-6), 2) := by decide +kernel
theorem dX11_round_18 : decode cX11_round 18 = .ok (.ireturn, 1) := by decide +kernel
theorem dX11_round_19 : decode cX11_round 19 = .ok (.aload_n 0, 1) := by decide +kernel
theorem dX11_round_20 : decode cX11_round 20 = .ok (.getfield 50, 3) := by decide +kernel
theorem dX11_round_23 : decode cX11_round 23 = .ok (.invokevirtual 314, 3) := by decide +kernel
theorem dX11_round_26 : decode cX11_round 26 = .ok (.aload_n 0, 1) := by decide +kernel
theorem dX11_round_27 : decode cX11_round 27 = .ok (.getfield 50, 3) := by decide +kernel
theorem dX11_round_30 : decode cX11_round 30 = .ok (.getfield 317, 3) := by decide +kernel
theorem dX11_round_33 : decode cX11_round 33 = .ok (.ireturn, 1) := by decide +kernel
theorem dX11_roundOf_0 : decode cX11_roundOf 0 = .ok (.aload_n 0, 1) := by decide +kernel
theorem dX11_roundOf_1 : decode cX11_roundOf 1 = .ok (.iload_n 1, 1) := by decide +kernel
theorem dX11_roundOf_2 : decode cX11_roundOf 2 = .ok (.invokevirtual 269, 3) := by decide +kernel
theorem dX11_roundOf_5 : decode cX11_roundOf 5 = .ok (.astore_n 2, 1) := by decide +kernel
theorem dX11_roundOf_6 : decode cX11_roundOf 6 = .ok (.aload_n 2, 1) := by decide +kernel
theorem dX11_roundOf_7 : decode cX11_roundOf 7 = .ok (.ifnonnull 5, 3) := by decide +kernel
theorem dX11_roundOf_10 : decode cX11_roundOf 10 = .ok (.iconst (-1), 1) := by decide +kernel
theorem dX11_roundOf_11 : decode cX11_roundOf 11 = .ok (.ireturn, 1) := by decide +kernel
theorem dX11_roundOf_12 : decode cX11_roundOf 12 = .ok (.aload_n 0, 1) := by decide +kernel
theorem dX11_roundOf_13 : decode cX11_roundOf 13 = .ok (.invokevirtual 302, 3) := by decide +kernel
theorem dX11_roundOf_16 : decode cX11_roundOf 16 = .ok (.aload_n 0, 1) := by decide +kernel
theorem dX11_roundOf_17 : decode cX11_roundOf 17 = .ok (.getfield 50, 3) := by decide +kernel
theorem dX11_roundOf_20 : decode cX11_roundOf 20 = .ok (.getfield 311, 3) := by decide +kernel
theorem dX11_roundOf_23 : decode cX11_roundOf 23 = .ok (.bipush 6, 2) := by decide +kernel
theorem dX11_roundOf_25 : decode cX11_roundOf 25 = .ok (.if_icmp .le 6, 3) := by decide +kernel
theorem dX11_roundOf_28 : decode cX11_roundOf 28 = .ok (.bipush (-6), 2) := by decide +kernel
theorem dX11_roundOf_30 : decode cX11_roundOf 30 = .ok (.ireturn, 1) := by decide +kernel
theorem dX11_roundOf_31 : decode cX11_roundOf 31 = .ok (.aload_n 2, 1) := by decide +kernel
theorem dX11_roundOf_32 : decode cX11_roundOf 32 = .ok (.getfield 288, 3) := by decide +kernel
theorem dX11_roundOf_35 : decode cX11_roundOf 35 = .ok (.ifCond .eq 6, 3) := by decide +kernel
theorem dX11_roundOf_38 : decode cX11_roundOf 38 = .ok (.bipush (-9), 2) := by decide +kernel
theorem dX11_roundOf_40 : decode cX11_roundOf 40 = .ok (.ireturn, 1) := by decide +kernel
theorem dX11_roundOf_41 : decode cX11_roundOf 41 = .ok (.aload_n 0, 1) := by decide +kernel
theorem dX11_roundOf_42 : decode cX11_roundOf 42 = .ok (.getfield 50, 3) := by decide +kernel
theorem dX11_roundOf_45 : decode cX11_roundOf 45 = .ok (.invokevirtual 314, 3) := by decide +kernel
theorem dX11_roundOf_48 : decode cX11_roundOf 48 = .ok (.aload_n 0, 1) := by decide +kernel
theorem dX11_roundOf_49 : decode cX11_roundOf 49 = .ok (.getfield 50, 3) := by decide +kernel
theorem dX11_roundOf_52 : decode cX11_roundOf 52 = .ok (.getfield 320, 3) := by decide +kernel
theorem dX11_roundOf_55 : decode cX11_roundOf 55 = .ok (.aload_n 0, 1) := by decide +kernel
theorem dX11_roundOf_56 : decode cX11_roundOf 56 = .ok (.iload_n 1, 1) := by decide +kernel
theorem dX11_roundOf_57 : decode cX11_roundOf 57 = .ok (.invokevirtual 305, 3) := by decide +kernel
theorem dX11_roundOf_60 : decode cX11_roundOf 60 = .ok (.iaload, 1) := by decide +kernel
theorem dX11_roundOf_61 : decode cX11_roundOf 61 = .ok (.ireturn, 1) := by decide +kernel
theorem dX11_judge_0 : decode cX11_judge 0 = .ok (.aload_n 0, 1) := by decide +kernel
theorem dX11_judge_1 : decode cX11_judge 1 = .ok (.iload_n 1, 1) := by decide +kernel
theorem dX11_judge_2 : decode cX11_judge 2 = .ok (.invokevirtual 95, 3) := by decide +kernel
theorem dX11_judge_5 : decode cX11_judge 5 = .ok (.astore_n 2, 1) := by decide +kernel
theorem dX11_judge_6 : decode cX11_judge 6 = .ok (.aload_n 2, 1) := by decide +kernel
theorem dX11_judge_7 : decode cX11_judge 7 = .ok (.ifnonnull 5, 3) := by decide +kernel
theorem dX11_judge_10 : decode cX11_judge 10 = .ok (.iconst (-1), 1) := by decide +kernel
theorem dX11_judge_11 : decode cX11_judge 11 = .ok (.ireturn, 1) := by decide +kernel
theorem dX11_judge_12 : decode cX11_judge 12 = .ok (.aload_n 2, 1) := by decide +kernel
theorem dX11_judge_13 : decode cX11_judge 13 = .ok (.invokevirtual 107, 3) := by decide +kernel
theorem dX11_judge_16 : decode cX11_judge 16 = .ok (.ifCond .eq 9, 3) := by decide +kernel
theorem dX11_judge_19 : decode cX11_judge 19 = .ok (.aload_n 0, 1) := by decide +kernel
theorem dX11_judge_20 : decode cX11_judge 20 = .ok (.iconst 1, 1) := by decide +kernel
theorem dX11_judge_21 : decode cX11_judge 21 = .ok (.invokevirtual 99, 3) := by decide +kernel
theorem dX11_judge_24 : decode cX11_judge 24 = .ok (.ireturn, 1) := by decide +kernel
theorem dX11_judge_25 : decode cX11_judge 25 = .ok (.aload_n 0, 1) := by decide +kernel
theorem dX11_judge_26 : decode cX11_judge 26 = .ok (.invokevirtual 302, 3) := by decide +kernel
theorem dX11_judge_29 : decode cX11_judge 29 = .ok (.aload_n 2, 1) := by decide +kernel
theorem dX11_judge_30 : decode cX11_judge 30 = .ok (.getfield 118, 3) := by decide +kernel
theorem dX11_judge_33 : decode cX11_judge 33 = .ok (.aload_n 0, 1) := by decide +kernel
theorem dX11_judge_34 : decode cX11_judge 34 = .ok (.getfield 50, 3) := by decide +kernel
theorem dX11_judge_37 : decode cX11_judge 37 = .ok (.getfield 311, 3) := by decide +kernel
theorem dX11_judge_40 : decode cX11_judge 40 = .ok (.if_icmp .eq 9, 3) := by decide +kernel
theorem dX11_judge_43 : decode cX11_judge 43 = .ok (.aload_n 0, 1) := by decide +kernel
theorem dX11_judge_44 : decode cX11_judge 44 = .ok (.iconst 5, 1) := by decide +kernel
theorem dX11_judge_45 : decode cX11_judge 45 = .ok (.invokevirtual 99, 3) := by decide +kernel
theorem dX11_judge_48 : decode cX11_judge 48 = .ok (.ireturn, 1) := by decide +kernel
theorem dX11_judge_49 : decode cX11_judge 49 = .ok (.aload_n 2, 1) := by decide +kernel
theorem dX11_judge_50 : decode cX11_judge 50 = .ok (.iconst 0, 1) := by decide +kernel
theorem dX11_judge_51 : decode cX11_judge 51 = .ok (.iconst 2, 1) := by decide +kernel
theorem dX11_judge_52 : decode cX11_judge 52 = .ok (.invokevirtual 323, 3) := by decide +kernel
theorem dX11_judge_55 : decode cX11_judge 55 = .ok (.ifCond .ne 9, 3) := by decide +kernel
theorem dX11_judge_58 : decode cX11_judge 58 = .ok (.aload_n 0, 1) := by decide +kernel
theorem dX11_judge_59 : decode cX11_judge 59 = .ok (.iconst 3, 1) := by decide +kernel
theorem dX11_judge_60 : decode cX11_judge 60 = .ok (.invokevirtual 99, 3) := by decide +kernel
theorem dX11_judge_63 : decode cX11_judge 63 = .ok (.ireturn, 1) := by decide +kernel
theorem dX11_judge_64 : decode cX11_judge 64 = .ok (.aload_n 0, 1) := by decide +kernel
theorem dX11_judge_65 : decode cX11_judge 65 = .ok (.getfield 50, 3) := by decide +kernel
theorem dX11_judge_68 : decode cX11_judge 68 = .ok (.aload_n 2, 1) := by decide +kernel
theorem dX11_judge_69 : decode cX11_judge 69 = .ok (.getfield 115, 3) := by decide +kernel
theorem dX11_judge_72 : decode cX11_judge 72 = .ok (.invokevirtual 326, 3) := by decide +kernel
theorem dX11_judge_75 : decode cX11_judge 75 = .ok (.ireturn, 1) := by decide +kernel
theorem dX11_first_0 : decode cX11_first 0 = .ok (.aload_n 0, 1) := by decide +kernel
theorem dX11_first_1 : decode cX11_first 1 = .ok (.iload_n 1, 1) := by decide +kernel
theorem dX11_first_2 : decode cX11_first 2 = .ok (.invokevirtual 169, 3) := by decide +kernel
theorem dX11_first_5 : decode cX11_first 5 = .ok (.astore_n 2, 1) := by decide +kernel
theorem dX11_first_6 : decode cX11_first 6 = .ok (.aload_n 2, 1) := by decide +kernel
theorem dX11_first_7 : decode cX11_first 7 = .ok (.ifnonnull 5, 3) := by decide +kernel
theorem dX11_first_10 : decode cX11_first 10 = .ok (.iconst (-1), 1) := by decide +kernel
theorem dX11_first_11 : decode cX11_first 11 = .ok (.ireturn, 1) := by decide +kernel
theorem dX11_first_12 : decode cX11_first 12 = .ok (.aload_n 0, 1) := by decide +kernel
theorem dX11_first_13 : decode cX11_first 13 = .ok (.iconst 2, 1) := by decide +kernel
theorem dX11_first_14 : decode cX11_first 14 = .ok (.invokevirtual 196, 3) := by decide +kernel
theorem dX11_first_17 : decode cX11_first 17 = .ok (.iconst 2, 1) := by decide +kernel
theorem dX11_first_18 : decode cX11_first 18 = .ok (.invokestatic 330, 3) := by decide +kernel
theorem dX11_first_21 : decode cX11_first 21 = .ok (.istore_n 3, 1) := by decide +kernel
theorem dX11_first_22 : decode cX11_first 22 = .ok (.iconst 0, 1) := by decide +kernel
theorem dX11_first_23 : decode cX11_first 23 = .ok (.istore 4, 2) := by decide +kernel
theorem dX11_first_25 : decode cX11_first 25 = .ok (.bipush (-9), 2) := by decide +kernel
theorem dX11_first_27 : decode cX11_first 27 = .ok (.istore 5, 2) := by decide +kernel
theorem dX11_first_29 : decode cX11_first 29 = .ok (.iconst 0, 1) := by decide +kernel
theorem dX11_first_30 : decode cX11_first 30 = .ok (.istore 6, 2) := by decide +kernel
theorem dX11_first_32 : decode cX11_first 32 = .ok (.iload 6, 2) := by decide +kernel
theorem dX11_first_34 : decode cX11_first 34 = .ok (.aload_n 0, 1) := by decide +kernel
theorem dX11_first_35 : decode cX11_first 35 = .ok (.getfield 25, 3) := by decide +kernel
theorem dX11_first_38 : decode cX11_first 38 = .ok (.invokevirtual 139, 3) := by decide +kernel
theorem dX11_first_41 : decode cX11_first 41 = .ok (.if_icmp .ge 77, 3) := by decide +kernel
theorem dX11_first_44 : decode cX11_first 44 = .ok (.aload_n 0, 1) := by decide +kernel
theorem dX11_first_45 : decode cX11_first 45 = .ok (.getfield 25, 3) := by decide +kernel
theorem dX11_first_48 : decode cX11_first 48 = .ok (.iload 6, 2) := by decide +kernel
theorem dX11_first_50 : decode cX11_first 50 = .ok (.invokevirtual 142, 3) := by decide +kernel
theorem dX11_first_53 : decode cX11_first 53 = .ok (.checkcast 258, 3) := by decide +kernel
theorem dX11_first_56 : decode cX11_first 56 = .ok (.astore 7, 2) := by decide +kernel
theorem dX11_first_58 : decode cX11_first 58 = .ok (.aload 7, 2) := by decide +kernel
theorem dX11_first_60 : decode cX11_first 60 = .ok (.getfield 288, 3) := by decide +kernel
theorem dX11_first_63 : decode cX11_first 63 = .ok (.ifCond .ne 49, 3) := by decide +kernel
theorem dX11_first_66 : decode cX11_first 66 = .ok (.aload 7, 2) := by decide +kernel
theorem dX11_first_68 : decode cX11_first 68 = .ok (.getfield 277, 3) := by decide +kernel
theorem dX11_first_71 : decode cX11_first 71 = .ok (.getfield 335, 3) := by decide +kernel
theorem dX11_first_74 : decode cX11_first 74 = .ok (.aload_n 2, 1) := by decide +kernel
theorem dX11_first_75 : decode cX11_first 75 = .ok (.getfield 335, 3) := by decide +kernel
theorem dX11_first_78 : decode cX11_first 78 = .ok (.if_icmp .ne 34, 3) := by decide +kernel
theorem dX11_first_81 : decode cX11_first 81 = .ok (.aload_n 0, 1) := by decide +kernel
theorem dX11_first_82 : decode cX11_first 82 = .ok (.aload 7, 2) := by decide +kernel
theorem dX11_first_84 : decode cX11_first 84 = .ok (.iload_n 3, 1) := by decide +kernel
theorem dX11_first_85 : decode cX11_first 85 = .ok (.invokevirtual 338, 3) := by decide +kernel
theorem dX11_first_88 : decode cX11_first 88 = .ok (.istore 8, 2) := by decide +kernel
theorem dX11_first_90 : decode cX11_first 90 = .ok (.iload 5, 2) := by decide +kernel
theorem dX11_first_92 : decode cX11_first 92 = .ok (.bipush (-9), 2) := by decide +kernel
theorem dX11_first_94 : decode cX11_first 94 = .ok (.if_icmp .eq 10, 3) := by decide +kernel
theorem dX11_first_97 : decode cX11_first 97 = .ok (.iload 8, 2) := by decide +kernel
theorem dX11_first_99 : decode cX11_first 99 = .ok (.iload 4, 2) := by decide +kernel
theorem dX11_first_101 : decode cX11_first 101 = .ok (.if_icmp .ge 11, 3) := by decide +kernel
theorem dX11_first_104 : decode cX11_first 104 = .ok (.iload 8, 2) := by decide +kernel
theorem dX11_first_106 : decode cX11_first 106 = .ok (.istore 4, 2) := by decide +kernel
theorem dX11_first_108 : decode cX11_first 108 = .ok (.iload 6, 2) := by decide +kernel
theorem dX11_first_110 : decode cX11_first 110 = .ok (.istore 5, 2) := by decide +kernel
theorem dX11_first_112 : decode cX11_first 112 = .ok (.iinc 6 1, 3) := by decide +kernel
theorem dX11_first_115 : decode cX11_first 115 = .ok (.goto (-83), 3) := by decide +kernel
theorem dX11_first_118 : decode cX11_first 118 = .ok (.iload 5, 2) := by decide +kernel
theorem dX11_first_120 : decode cX11_first 120 = .ok (.ireturn, 1) := by decide +kernel
theorem dX11_beside_0 : decode cX11_beside 0 = .ok (.iload_n 1, 1) := by decide +kernel
theorem dX11_beside_1 : decode cX11_beside 1 = .ok (.ifCond .lt 9, 3) := by decide +kernel
theorem dX11_beside_4 : decode cX11_beside 4 = .ok (.iload_n 1, 1) := by decide +kernel
theorem dX11_beside_5 : decode cX11_beside 5 = .ok (.bipush 99, 2) := by decide +kernel
theorem dX11_beside_7 : decode cX11_beside 7 = .ok (.if_icmp .le 5, 3) := by decide +kernel
theorem dX11_beside_10 : decode cX11_beside 10 = .ok (.iconst (-1), 1) := by decide +kernel
theorem dX11_beside_11 : decode cX11_beside 11 = .ok (.ireturn, 1) := by decide +kernel
theorem dX11_beside_12 : decode cX11_beside 12 = .ok (.iconst 0, 1) := by decide +kernel
theorem dX11_beside_13 : decode cX11_beside 13 = .ok (.istore_n 2, 1) := by decide +kernel
theorem dX11_beside_14 : decode cX11_beside 14 = .ok (.iconst 0, 1) := by decide +kernel
theorem dX11_beside_15 : decode cX11_beside 15 = .ok (.istore_n 3, 1) := by decide +kernel
theorem dX11_beside_16 : decode cX11_beside 16 = .ok (.iload_n 3, 1) := by decide +kernel
theorem dX11_beside_17 : decode cX11_beside 17 = .ok (.aload_n 0, 1) := by decide +kernel
theorem dX11_beside_18 : decode cX11_beside 18 = .ok (.getfield 25, 3) := by decide +kernel
theorem dX11_beside_21 : decode cX11_beside 21 = .ok (.invokevirtual 139, 3) := by decide +kernel
theorem dX11_beside_24 : decode cX11_beside 24 = .ok (.if_icmp .ge 30, 3) := by decide +kernel
theorem dX11_beside_27 : decode cX11_beside 27 = .ok (.aload_n 0, 1) := by decide +kernel
theorem dX11_beside_28 : decode cX11_beside 28 = .ok (.getfield 25, 3) := by decide +kernel
theorem dX11_beside_31 : decode cX11_beside 31 = .ok (.iload_n 3, 1) := by decide +kernel
theorem dX11_beside_32 : decode cX11_beside 32 = .ok (.invokevirtual 142, 3) := by decide +kernel
theorem dX11_beside_35 : decode cX11_beside 35 = .ok (.checkcast 258, 3) := by decide +kernel
theorem dX11_beside_38 : decode cX11_beside 38 = .ok (.getfield 342, 3) := by decide +kernel
theorem dX11_beside_41 : decode cX11_beside 41 = .ok (.iload_n 1, 1) := by decide +kernel
theorem dX11_beside_42 : decode cX11_beside 42 = .ok (.if_icmp .lt 6, 3) := by decide +kernel
theorem dX11_beside_45 : decode cX11_beside 45 = .ok (.iinc 2 1, 3) := by decide +kernel
theorem dX11_beside_48 : decode cX11_beside 48 = .ok (.iinc 3 1, 3) := by decide +kernel
theorem dX11_beside_51 : decode cX11_beside 51 = .ok (.goto (-35), 3) := by decide +kernel
theorem dX11_beside_54 : decode cX11_beside 54 = .ok (.iload_n 2, 1) := by decide +kernel
theorem dX11_beside_55 : decode cX11_beside 55 = .ok (.ireturn, 1) := by decide +kernel
theorem dX11_crowd_0 : decode cX11_crowd 0 = .ok (.iload_n 1, 1) := by decide +kernel
theorem dX11_crowd_1 : decode cX11_crowd 1 = .ok (.invokestatic 216, 3) := by decide +kernel
theorem dX11_crowd_4 : decode cX11_crowd 4 = .ok (.ifCond .ne 5, 3) := by decide +kernel
theorem dX11_crowd_7 : decode cX11_crowd 7 = .ok (.iconst (-1), 1) := by decide +kernel
theorem dX11_crowd_8 : decode cX11_crowd 8 = .ok (.ireturn, 1) := by decide +kernel
theorem dX11_crowd_9 : decode cX11_crowd 9 = .ok (.iconst 0, 1) := by decide +kernel
theorem dX11_crowd_10 : decode cX11_crowd 10 = .ok (.istore_n 2, 1) := by decide +kernel
theorem dX11_crowd_11 : decode cX11_crowd 11 = .ok (.iconst 0, 1) := by decide +kernel
theorem dX11_crowd_12 : decode cX11_crowd 12 = .ok (.istore_n 3, 1) := by decide +kernel
theorem dX11_crowd_13 : decode cX11_crowd 13 = .ok (.iload_n 3, 1) := by decide +kernel
theorem dX11_crowd_14 : decode cX11_crowd 14 = .ok (.aload_n 0, 1) := by decide +kernel
theorem dX11_crowd_15 : decode cX11_crowd 15 = .ok (.getfield 25, 3) := by decide +kernel
theorem dX11_crowd_18 : decode cX11_crowd 18 = .ok (.invokevirtual 139, 3) := by decide +kernel
theorem dX11_crowd_21 : decode cX11_crowd 21 = .ok (.if_icmp .ge 44, 3) := by decide +kernel
theorem dX11_crowd_24 : decode cX11_crowd 24 = .ok (.aload_n 0, 1) := by decide +kernel
theorem dX11_crowd_25 : decode cX11_crowd 25 = .ok (.getfield 25, 3) := by decide +kernel
theorem dX11_crowd_28 : decode cX11_crowd 28 = .ok (.iload_n 3, 1) := by decide +kernel
theorem dX11_crowd_29 : decode cX11_crowd 29 = .ok (.invokevirtual 142, 3) := by decide +kernel
theorem dX11_crowd_32 : decode cX11_crowd 32 = .ok (.checkcast 258, 3) := by decide +kernel
theorem dX11_crowd_35 : decode cX11_crowd 35 = .ok (.astore 4, 2) := by decide +kernel
theorem dX11_crowd_37 : decode cX11_crowd 37 = .ok (.aload 4, 2) := by decide +kernel
theorem dX11_crowd_39 : decode cX11_crowd 39 = .ok (.getfield 345, 3) := by decide +kernel
theorem dX11_crowd_42 : decode cX11_crowd 42 = .ok (.invokestatic 193, 3) := by decide +kernel
theorem dX11_crowd_45 : decode cX11_crowd 45 = .ok (.iload_n 1, 1) := by decide +kernel
theorem dX11_crowd_46 : decode cX11_crowd 46 = .ok (.if_icmp .ne 13, 3) := by decide +kernel
theorem dX11_crowd_49 : decode cX11_crowd 49 = .ok (.iload_n 2, 1) := by decide +kernel
theorem dX11_crowd_50 : decode cX11_crowd 50 = .ok (.iconst 1, 1) := by decide +kernel
theorem dX11_crowd_51 : decode cX11_crowd 51 = .ok (.aload 4, 2) := by decide +kernel
theorem dX11_crowd_53 : decode cX11_crowd 53 = .ok (.getfield 348, 3) := by decide +kernel
theorem dX11_crowd_56 : decode cX11_crowd 56 = .ok (.ishl, 1) := by decide +kernel
theorem dX11_crowd_57 : decode cX11_crowd 57 = .ok (.ior, 1) := by decide +kernel
theorem dX11_crowd_58 : decode cX11_crowd 58 = .ok (.istore_n 2, 1) := by decide +kernel
theorem dX11_crowd_59 : decode cX11_crowd 59 = .ok (.iinc 3 1, 3) := by decide +kernel
theorem dX11_crowd_62 : decode cX11_crowd 62 = .ok (.goto (-49), 3) := by decide +kernel
theorem dX11_crowd_65 : decode cX11_crowd 65 = .ok (.iload_n 2, 1) := by decide +kernel
theorem dX11_crowd_66 : decode cX11_crowd 66 = .ok (.invokestatic 349, 3) := by decide +kernel
theorem dX11_crowd_69 : decode cX11_crowd 69 = .ok (.ireturn, 1) := by decide +kernel
theorem dX11_line_0 : decode cX11_line 0 = .ok (.iload_n 1, 1) := by decide +kernel
theorem dX11_line_1 : decode cX11_line 1 = .ok (.ifCond .lt 27, 3) := by decide +kernel
theorem dX11_line_4 : decode cX11_line 4 = .ok (.iload_n 1, 1) := by decide +kernel
theorem dX11_line_5 : decode cX11_line 5 = .ok (.iconst 3, 1) := by decide +kernel
theorem dX11_line_6 : decode cX11_line 6 = .ok (.if_icmp .ge 22, 3) := by decide +kernel
theorem dX11_line_9 : decode cX11_line 9 = .ok (.iload_n 2, 1) := by decide +kernel
theorem dX11_line_10 : decode cX11_line 10 = .ok (.invokestatic 152, 3) := by decide +kernel
theorem dX11_line_13 : decode cX11_line 13 = .ok (.ifCond .eq 15, 3) := by decide +kernel
theorem dX11_line_16 : decode cX11_line 16 = .ok (.iload_n 3, 1) := by decide +kernel
theorem dX11_line_17 : decode cX11_line 17 = .ok (.invokestatic 152, 3) := by decide +kernel
theorem dX11_line_20 : decode cX11_line 20 = .ok (.ifCond .eq 8, 3) := by decide +kernel
theorem dX11_line_23 : decode cX11_line 23 = .ok (.iload_n 3, 1) := by decide +kernel
theorem dX11_line_24 : decode cX11_line 24 = .ok (.iload_n 2, 1) := by decide +kernel
theorem dX11_line_25 : decode cX11_line 25 = .ok (.if_icmp .ge 5, 3) := by decide +kernel
theorem dX11_line_28 : decode cX11_line 28 = .ok (.iconst (-1), 1) := by decide +kernel
theorem dX11_line_29 : decode cX11_line 29 = .ok (.ireturn, 1) := by decide +kernel
theorem dX11_line_30 : decode cX11_line 30 = .ok (.iload 4, 2) := by decide +kernel
theorem dX11_line_32 : decode cX11_line 32 = .ok (.sipush (-9999), 3) := by decide +kernel
theorem dX11_line_35 : decode cX11_line 35 = .ok (.if_icmp .lt 30, 3) := by decide +kernel
theorem dX11_line_38 : decode cX11_line 38 = .ok (.iload 4, 2) := by decide +kernel
theorem dX11_line_40 : decode cX11_line 40 = .ok (.sipush 9999, 3) := by decide +kernel
theorem dX11_line_43 : decode cX11_line 43 = .ok (.if_icmp .gt 22, 3) := by decide +kernel
theorem dX11_line_46 : decode cX11_line 46 = .ok (.iload 5, 2) := by decide +kernel
theorem dX11_line_48 : decode cX11_line 48 = .ok (.bipush (-9), 2) := by decide +kernel
theorem dX11_line_50 : decode cX11_line 50 = .ok (.if_icmp .eq 17, 3) := by decide +kernel
theorem dX11_line_53 : decode cX11_line 53 = .ok (.aload_n 0, 1) := by decide +kernel
theorem dX11_line_54 : decode cX11_line 54 = .ok (.getfield 43, 3) := by decide +kernel
theorem dX11_line_57 : decode cX11_line 57 = .ok (.iload 5, 2) := by decide +kernel
theorem dX11_line_59 : decode cX11_line 59 = .ok (.invokevirtual 354, 3) := by decide +kernel
theorem dX11_line_62 : decode cX11_line 62 = .ok (.ifCond .ne 5, 3) := by decide +kernel
theorem dX11_line_65 : decode cX11_line 65 = .ok (.iconst (-1), 1) := by decide +kernel
theorem dX11_line_66 : decode cX11_line 66 = .ok (.ireturn, 1) := by decide +kernel
theorem dX11_line_67 : decode cX11_line 67 = .ok (.aload_n 0, 1) := by decide +kernel
theorem dX11_line_68 : decode cX11_line 68 = .ok (.getfield 43, 3) := by decide +kernel
theorem dX11_line_71 : decode cX11_line 71 = .ok (.getfield 357, 3) := by decide +kernel
theorem dX11_line_74 : decode cX11_line 74 = .ok (.invokevirtual 139, 3) := by decide +kernel
theorem dX11_line_77 : decode cX11_line 77 = .ok (.bipush 20, 2) := by decide +kernel
theorem dX11_line_79 : decode cX11_line 79 = .ok (.if_icmp .lt 6, 3) := by decide +kernel
theorem dX11_line_82 : decode cX11_line 82 = .ok (.bipush (-2), 2) := by decide +kernel
theorem dX11_line_84 : decode cX11_line 84 = .ok (.ireturn, 1) := by decide +kernel
theorem dX11_line_85 : decode cX11_line 85 = .ok (.iload 5, 2) := by decide +kernel
theorem dX11_line_87 : decode cX11_line 87 = .ok (.bipush (-9), 2) := by decide +kernel
theorem dX11_line_89 : decode cX11_line 89 = .ok (.if_icmp .eq 18, 3) := by decide +kernel
theorem dX11_line_92 : decode cX11_line 92 = .ok (.aload_n 0, 1) := by decide +kernel
theorem dX11_line_93 : decode cX11_line 93 = .ok (.getfield 43, 3) := by decide +kernel
theorem dX11_line_96 : decode cX11_line 96 = .ok (.iload 5, 2) := by decide +kernel
theorem dX11_line_98 : decode cX11_line 98 = .ok (.invokevirtual 360, 3) := by decide +kernel
theorem dX11_line_101 : decode cX11_line 101 = .ok (.ifCond .eq 6, 3) := by decide +kernel
theorem dX11_line_104 : decode cX11_line 104 = .ok (.bipush (-4), 2) := by decide +kernel
theorem dX11_line_106 : decode cX11_line 106 = .ok (.ireturn, 1) := by decide +kernel
theorem dX11_line_107 : decode cX11_line 107 = .ok (.aload_n 0, 1) := by decide +kernel
theorem dX11_line_108 : decode cX11_line 108 = .ok (.getfield 43, 3) := by decide +kernel
theorem dX11_line_111 : decode cX11_line 111 = .ok (.new 363, 3) := by decide +kernel
theorem dX11_line_114 : decode cX11_line 114 = .ok (.dup, 1) := by decide +kernel
theorem dX11_line_115 : decode cX11_line 115 = .ok (.iload_n 1, 1) := by decide +kernel
theorem dX11_line_116 : decode cX11_line 116 = .ok (.iload_n 2, 1) := by decide +kernel
theorem dX11_line_117 : decode cX11_line 117 = .ok (.iload_n 3, 1) := by decide +kernel
theorem dX11_line_118 : decode cX11_line 118 = .ok (.iload 4, 2) := by decide +kernel
theorem dX11_line_120 : decode cX11_line 120 = .ok (.iload 5, 2) := by decide +kernel
theorem dX11_line_122 : decode cX11_line 122 = .ok (.aload_n 0, 1) := by decide +kernel
theorem dX11_line_123 : decode cX11_line 123 = .ok (.getfield 71, 3) := by decide +kernel
theorem dX11_line_126 : decode cX11_line 126 = .ok (.invokespecial 365, 3) := by decide +kernel
theorem dX11_line_129 : decode cX11_line 129 = .ok (.invokevirtual 368, 3) := by decide +kernel
theorem dX11_line_132 : decode cX11_line 132 = .ok (.ireturn, 1) := by decide +kernel
theorem dX11_today_0 : decode cX11_today 0 = .ok (.aload_n 0, 1) := by decide +kernel
theorem dX11_today_1 : decode cX11_today 1 = .ok (.iload_n 1, 1) := by decide +kernel
theorem dX11_today_2 : decode cX11_today 2 = .ok (.iload_n 2, 1) := by decide +kernel
theorem dX11_today_3 : decode cX11_today 3 = .ok (.iload_n 3, 1) := by decide +kernel
theorem dX11_today_4 : decode cX11_today 4 = .ok (.invokevirtual 372, 3) := by decide +kernel
theorem dX11_today_7 : decode cX11_today 7 = .ok (.ifCond .ne 5, 3) := by decide +kernel
theorem dX11_today_10 : decode cX11_today 10 = .ok (.iconst (-1), 1) := by decide +kernel
theorem dX11_today_11 : decode cX11_today 11 = .ok (.ireturn, 1) := by decide +kernel
theorem dX11_today_12 : decode cX11_today 12 = .ok (.aload_n 0, 1) := by decide +kernel
theorem dX11_today_13 : decode cX11_today 13 = .ok (.getfield 43, 3) := by decide +kernel
theorem dX11_today_16 : decode cX11_today 16 = .ok (.iload_n 1, 1) := by decide +kernel
theorem dX11_today_17 : decode cX11_today 17 = .ok (.iload_n 2, 1) := by decide +kernel
theorem dX11_today_18 : decode cX11_today 18 = .ok (.iload_n 3, 1) := by decide +kernel
theorem dX11_today_19 : decode cX11_today 19 = .ok (.invokevirtual 375, 3) := by decide +kernel
theorem dX11_today_22 : decode cX11_today 22 = .ok (.aload_n 0, 1) := by decide +kernel
theorem dX11_today_23 : decode cX11_today 23 = .ok (.getfield 43, 3) := by decide +kernel
theorem dX11_today_26 : decode cX11_today 26 = .ok (.getfield 379, 3) := by decide +kernel
theorem dX11_today_29 : decode cX11_today 29 = .ok (.ireturn, 1) := by decide +kernel
theorem dX11_turned_0 : decode cX11_turned 0 = .ok (.aload_n 0, 1) := by decide +kernel
theorem dX11_turned_1 : decode cX11_turned 1 = .ok (.iload_n 1, 1) := by decide +kernel
theorem dX11_turned_2 : decode cX11_turned 2 = .ok (.iload_n 2, 1) := by decide +kernel
theorem dX11_turned_3 : decode cX11_turned 3 = .ok (.iload_n 3, 1) := by decide +kernel
theorem dX11_turned_4 : decode cX11_turned 4 = .ok (.invokevirtual 372, 3) := by decide +kernel
theorem dX11_turned_7 : decode cX11_turned 7 = .ok (.ifCond .ne 5, 3) := by decide +kernel
theorem dX11_turned_10 : decode cX11_turned 10 = .ok (.iconst (-1), 1) := by decide +kernel
theorem dX11_turned_11 : decode cX11_turned 11 = .ok (.ireturn, 1) := by decide +kernel
theorem dX11_turned_12 : decode cX11_turned 12 = .ok (.aload_n 0, 1) := by decide +kernel
theorem dX11_turned_13 : decode cX11_turned 13 = .ok (.getfield 43, 3) := by decide +kernel
theorem dX11_turned_16 : decode cX11_turned 16 = .ok (.iload_n 1, 1) := by decide +kernel
theorem dX11_turned_17 : decode cX11_turned 17 = .ok (.iload_n 2, 1) := by decide +kernel
theorem dX11_turned_18 : decode cX11_turned 18 = .ok (.iload_n 3, 1) := by decide +kernel
theorem dX11_turned_19 : decode cX11_turned 19 = .ok (.invokevirtual 375, 3) := by decide +kernel
theorem dX11_turned_22 : decode cX11_turned 22 = .ok (.iload 4, 2) := by decide +kernel
theorem dX11_turned_24 : decode cX11_turned 24 = .ok (.ifCond .lt 28, 3) := by decide +kernel
theorem dX11_turned_27 : decode cX11_turned 27 = .ok (.iload 4, 2) := by decide +kernel
theorem dX11_turned_29 : decode cX11_turned 29 = .ok (.aload_n 0, 1) := by decide +kernel
theorem dX11_turned_30 : decode cX11_turned 30 = .ok (.getfield 43, 3) := by decide +kernel
theorem dX11_turned_33 : decode cX11_turned 33 = .ok (.getfield 379, 3) := by decide +kernel
theorem dX11_turned_36 : decode cX11_turned 36 = .ok (.if_icmp .ge 16, 3) := by decide +kernel
theorem dX11_turned_39 : decode cX11_turned 39 = .ok (.aload_n 0, 1) := by decide +kernel
theorem dX11_turned_40 : decode cX11_turned 40 = .ok (.getfield 43, 3) := by decide +kernel
theorem dX11_turned_43 : decode cX11_turned 43 = .ok (.getfield 380, 3) := by decide +kernel
theorem dX11_turned_46 : decode cX11_turned 46 = .ok (.iload 4, 2) := by decide +kernel
theorem dX11_turned_48 : decode cX11_turned 48 = .ok (.iaload, 1) := by decide +kernel
theorem dX11_turned_49 : decode cX11_turned 49 = .ok (.goto 5, 3) := by decide +kernel
theorem dX11_turned_52 : decode cX11_turned 52 = .ok (.bipush (-9), 2) := by decide +kernel
theorem dX11_turned_54 : decode cX11_turned 54 = .ok (.ireturn, 1) := by decide +kernel
theorem dX11_along_0 : decode cX11_along 0 = .ok (.iload_n 1, 1) := by decide +kernel
theorem dX11_along_1 : decode cX11_along 1 = .ok (.invokestatic 155, 3) := by decide +kernel
theorem dX11_along_4 : decode cX11_along 4 = .ok (.ifCond .ne 5, 3) := by decide +kernel
theorem dX11_along_7 : decode cX11_along 7 = .ok (.iconst (-1), 1) := by decide +kernel
theorem dX11_along_8 : decode cX11_along 8 = .ok (.ireturn, 1) := by decide +kernel
theorem dX11_along_9 : decode cX11_along 9 = .ok (.iconst 0, 1) := by decide +kernel
theorem dX11_along_10 : decode cX11_along 10 = .ok (.istore_n 2, 1) := by decide +kernel
theorem dX11_along_11 : decode cX11_along 11 = .ok (.iconst 0, 1) := by decide +kernel
theorem dX11_along_12 : decode cX11_along 12 = .ok (.istore_n 3, 1) := by decide +kernel
theorem dX11_along_13 : decode cX11_along 13 = .ok (.iconst 0, 1) := by decide +kernel
theorem dX11_along_14 : decode cX11_along 14 = .ok (.istore 4, 2) := by decide +kernel
theorem dX11_along_16 : decode cX11_along 16 = .ok (.iload 4, 2) := by decide +kernel
theorem dX11_along_18 : decode cX11_along 18 = .ok (.aload_n 0, 1) := by decide +kernel
theorem dX11_along_19 : decode cX11_along 19 = .ok (.getfield 21, 3) := by decide +kernel
theorem dX11_along_22 : decode cX11_along 22 = .ok (.invokevirtual 139, 3) := by decide +kernel
theorem dX11_along_25 : decode cX11_along 25 = .ok (.if_icmp .ge 139, 3) := by decide +kernel
theorem dX11_along_28 : decode cX11_along 28 = .ok (.aload_n 0, 1) := by decide +kernel
theorem dX11_along_29 : decode cX11_along 29 = .ok (.getfield 21, 3) := by decide +kernel
theorem dX11_along_32 : decode cX11_along 32 = .ok (.iload 4, 2) := by decide +kernel
theorem dX11_along_34 : decode cX11_along 34 = .ok (.invokevirtual 142, 3) := by decide +kernel
theorem dX11_along_37 : decode cX11_along 37 = .ok (.checkcast 146, 3) := by decide +kernel
theorem dX11_along_40 : decode cX11_along 40 = .ok (.astore 5, 2) := by decide +kernel
theorem dX11_along_42 : decode cX11_along 42 = .ok (.aload 5, 2) := by decide +kernel
theorem dX11_along_44 : decode cX11_along 44 = .ok (.getfield 181, 3) := by decide +kernel
theorem dX11_along_47 : decode cX11_along 47 = .ok (.iconst 4, 1) := by decide +kernel
theorem dX11_along_48 : decode cX11_along 48 = .ok (.if_icmp .ne 40, 3) := by decide +kernel
theorem dX11_along_51 : decode cX11_along 51 = .ok (.aload 5, 2) := by decide +kernel
theorem dX11_along_53 : decode cX11_along 53 = .ok (.getfield 184, 3) := by decide +kernel
theorem dX11_along_56 : decode cX11_along 56 = .ok (.iload_n 1, 1) := by decide +kernel
theorem dX11_along_57 : decode cX11_along 57 = .ok (.if_icmp .ne 31, 3) := by decide +kernel
theorem dX11_along_60 : decode cX11_along 60 = .ok (.aload 5, 2) := by decide +kernel
theorem dX11_along_62 : decode cX11_along 62 = .ok (.invokevirtual 209, 3) := by decide +kernel
theorem dX11_along_65 : decode cX11_along 65 = .ok (.iinc 2 1, 3) := by decide +kernel
theorem dX11_along_68 : decode cX11_along 68 = .ok (.aload_n 0, 1) := by decide +kernel
theorem dX11_along_69 : decode cX11_along 69 = .ok (.dup, 1) := by decide +kernel
theorem dX11_along_70 : decode cX11_along 70 = .ok (.getfield 88, 3) := by decide +kernel
theorem dX11_along_73 : decode cX11_along 73 = .ok (.iconst 1, 1) := by decide +kernel
theorem dX11_along_74 : decode cX11_along 74 = .ok (.iadd, 1) := by decide +kernel
theorem dX11_along_75 : decode cX11_along 75 = .ok (.putfield 88, 3) := by decide +kernel
theorem dX11_along_78 : decode cX11_along 78 = .ok (.aload_n 0, 1) := by decide +kernel
theorem dX11_along_79 : decode cX11_along 79 = .ok (.aload 5, 2) := by decide +kernel
theorem dX11_along_81 : decode cX11_along 81 = .ok (.iconst 1, 1) := by decide +kernel
theorem dX11_along_82 : decode cX11_along 82 = .ok (.invokevirtual 298, 3) := by decide +kernel
theorem dX11_along_85 : decode cX11_along 85 = .ok (.goto 73, 3) := by decide +kernel
theorem dX11_along_88 : decode cX11_along 88 = .ok (.aload 5, 2) := by decide +kernel
theorem dX11_along_90 : decode cX11_along 90 = .ok (.getfield 206, 3) := by decide +kernel
theorem dX11_along_93 : decode cX11_along 93 = .ok (.iload_n 1, 1) := by decide +kernel
theorem dX11_along_94 : decode cX11_along 94 = .ok (.if_icmp .ne 31, 3) := by decide +kernel
theorem dX11_along_97 : decode cX11_along 97 = .ok (.aload 5, 2) := by decide +kernel
theorem dX11_along_99 : decode cX11_along 99 = .ok (.getfield 181, 3) := by decide +kernel
theorem dX11_along_102 : decode cX11_along 102 = .ok (.ifCond .ne 23, 3) := by decide +kernel
theorem dX11_along_105 : decode cX11_along 105 = .ok (.aload_n 0, 1) := by decide +kernel
theorem dX11_along_106 : decode cX11_along 106 = .ok (.dup, 1) := by decide +kernel
theorem dX11_along_107 : decode cX11_along 107 = .ok (.getfield 88, 3) := by decide +kernel
theorem dX11_along_110 : decode cX11_along 110 = .ok (.iconst 1, 1) := by decide +kernel
theorem dX11_along_111 : decode cX11_along 111 = .ok (.iadd, 1) := by decide +kernel
theorem dX11_along_112 : decode cX11_along 112 = .ok (.putfield 88, 3) := by decide +kernel
theorem dX11_along_115 : decode cX11_along 115 = .ok (.aload_n 0, 1) := by decide +kernel
theorem dX11_along_116 : decode cX11_along 116 = .ok (.aload 5, 2) := by decide +kernel
theorem dX11_along_118 : decode cX11_along 118 = .ok (.iconst 1, 1) := by decide +kernel
theorem dX11_along_119 : decode cX11_along 119 = .ok (.invokevirtual 298, 3) := by decide +kernel
theorem dX11_along_122 : decode cX11_along 122 = .ok (.goto 36, 3) := by decide +kernel
theorem dX11_along_125 : decode cX11_along 125 = .ok (.aload 5, 2) := by decide +kernel
theorem dX11_along_127 : decode cX11_along 127 = .ok (.getfield 206, 3) := by decide +kernel
theorem dX11_along_130 : decode cX11_along 130 = .ok (.iload_n 1, 1) := by decide +kernel
theorem dX11_along_131 : decode cX11_along 131 = .ok (.if_icmp .ne 27, 3) := by decide +kernel
theorem dX11_along_134 : decode cX11_along 134 = .ok (.aload 5, 2) := by decide +kernel
theorem dX11_along_136 : decode cX11_along 136 = .ok (.getfield 263, 3) := by decide +kernel
theorem dX11_along_139 : decode cX11_along 139 = .ok (.ifCond .ne 19, 3) := by decide +kernel
theorem dX11_along_142 : decode cX11_along 142 = .ok (.aload 5, 2) := by decide +kernel
theorem dX11_along_144 : decode cX11_along 144 = .ok (.iconst 3, 1) := by decide +kernel
theorem dX11_along_145 : decode cX11_along 145 = .ok (.putfield 263, 3) := by decide +kernel
theorem dX11_along_148 : decode cX11_along 148 = .ok (.iinc 3 1, 3) := by decide +kernel
theorem dX11_along_151 : decode cX11_along 151 = .ok (.aload_n 0, 1) := by decide +kernel
theorem dX11_along_152 : decode cX11_along 152 = .ok (.aload 5, 2) := by decide +kernel
theorem dX11_along_154 : decode cX11_along 154 = .ok (.iconst 0, 1) := by decide +kernel
theorem dX11_along_155 : decode cX11_along 155 = .ok (.invokevirtual 298, 3) := by decide +kernel
theorem dX11_along_158 : decode cX11_along 158 = .ok (.iinc 4 1, 3) := by decide +kernel
theorem dX11_along_161 : decode cX11_along 161 = .ok (.goto (-145), 3) := by decide +kernel
theorem dX11_along_164 : decode cX11_along 164 = .ok (.aload_n 0, 1) := by decide +kernel
theorem dX11_along_165 : decode cX11_along 165 = .ok (.dup, 1) := by decide +kernel
theorem dX11_along_166 : decode cX11_along 166 = .ok (.getfield 91, 3) := by decide +kernel
theorem dX11_along_169 : decode cX11_along 169 = .ok (.iload_n 2, 1) := by decide +kernel
theorem dX11_along_170 : decode cX11_along 170 = .ok (.iadd, 1) := by decide +kernel
theorem dX11_along_171 : decode cX11_along 171 = .ok (.putfield 91, 3) := by decide +kernel
theorem dX11_along_174 : decode cX11_along 174 = .ok (.aload_n 0, 1) := by decide +kernel
theorem dX11_along_175 : decode cX11_along 175 = .ok (.iload_n 3, 1) := by decide +kernel
theorem dX11_along_176 : decode cX11_along 176 = .ok (.putfield 78, 3) := by decide +kernel
theorem dX11_along_179 : decode cX11_along 179 = .ok (.iload_n 2, 1) := by decide +kernel
theorem dX11_along_180 : decode cX11_along 180 = .ok (.ireturn, 1) := by decide +kernel
theorem dX11_likely_0 : decode cX11_likely 0 = .ok (.aload_n 0, 1) := by decide +kernel
theorem dX11_likely_1 : decode cX11_likely 1 = .ok (.iload_n 1, 1) := by decide +kernel
theorem dX11_likely_2 : decode cX11_likely 2 = .ok (.invokevirtual 169, 3) := by decide +kernel
theorem dX11_likely_5 : decode cX11_likely 5 = .ok (.astore_n 3, 1) := by decide +kernel
theorem dX11_likely_6 : decode cX11_likely 6 = .ok (.aload_n 3, 1) := by decide +kernel
theorem dX11_likely_7 : decode cX11_likely 7 = .ok (.ifnull 10, 3) := by decide +kernel
theorem dX11_likely_10 : decode cX11_likely 10 = .ok (.iload_n 2, 1) := by decide +kernel
theorem dX11_likely_11 : decode cX11_likely 11 = .ok (.invokestatic 155, 3) := by decide +kernel
theorem dX11_likely_14 : decode cX11_likely 14 = .ok (.ifCond .ne 7, 3) := by decide +kernel
theorem dX11_likely_17 : decode cX11_likely 17 = .ok (.iconst (-1), 1) := by decide +kernel
theorem dX11_likely_18 : decode cX11_likely 18 = .ok (.goto 9, 3) := by decide +kernel
theorem dX11_likely_21 : decode cX11_likely 21 = .ok (.aload_n 0, 1) := by decide +kernel
theorem dX11_likely_22 : decode cX11_likely 22 = .ok (.aload_n 3, 1) := by decide +kernel
theorem dX11_likely_23 : decode cX11_likely 23 = .ok (.iload_n 2, 1) := by decide +kernel
theorem dX11_likely_24 : decode cX11_likely 24 = .ok (.invokevirtual 383, 3) := by decide +kernel
theorem dX11_likely_27 : decode cX11_likely 27 = .ok (.ireturn, 1) := by decide +kernel
theorem dX11_search_0 : decode cX11_search 0 = .ok (.aload_n 0, 1) := by decide +kernel
theorem dX11_search_1 : decode cX11_search 1 = .ok (.iload_n 1, 1) := by decide +kernel
theorem dX11_search_2 : decode cX11_search 2 = .ok (.invokevirtual 169, 3) := by decide +kernel
theorem dX11_search_5 : decode cX11_search 5 = .ok (.astore 4, 2) := by decide +kernel
theorem dX11_search_7 : decode cX11_search 7 = .ok (.aload_n 0, 1) := by decide +kernel
theorem dX11_search_8 : decode cX11_search 8 = .ok (.iload_n 2, 1) := by decide +kernel
theorem dX11_search_9 : decode cX11_search 9 = .ok (.invokevirtual 95, 3) := by decide +kernel
theorem dX11_search_12 : decode cX11_search 12 = .ok (.astore 5, 2) := by decide +kernel
theorem dX11_search_14 : decode cX11_search 14 = .ok (.aload 4, 2) := by decide +kernel
theorem dX11_search_16 : decode cX11_search 16 = .ok (.ifnull 19, 3) := by decide +kernel
theorem dX11_search_19 : decode cX11_search 19 = .ok (.aload 5, 2) := by decide +kernel
theorem dX11_search_21 : decode cX11_search 21 = .ok (.ifnull 14, 3) := by decide +kernel
theorem dX11_search_24 : decode cX11_search 24 = .ok (.iload_n 3, 1) := by decide +kernel
theorem dX11_search_25 : decode cX11_search 25 = .ok (.ifCond .lt 10, 3) := by decide +kernel
theorem dX11_search_28 : decode cX11_search 28 = .ok (.iload_n 3, 1) := by decide +kernel
theorem dX11_search_29 : decode cX11_search 29 = .ok (.sipush 480, 3) := by decide +kernel
theorem dX11_search_32 : decode cX11_search 32 = .ok (.if_icmp .le 5, 3) := by decide +kernel
theorem dX11_search_35 : decode cX11_search 35 = .ok (.iconst (-1), 1) := by decide +kernel
theorem dX11_search_36 : decode cX11_search 36 = .ok (.ireturn, 1) := by decide +kernel
theorem dX11_search_37 : decode cX11_search 37 = .ok (.aload 5, 2) := by decide +kernel
theorem dX11_search_39 : decode cX11_search 39 = .ok (.invokevirtual 107, 3) := by decide +kernel
theorem dX11_search_42 : decode cX11_search 42 = .ok (.ifCond .eq 9, 3) := by decide +kernel
theorem dX11_search_45 : decode cX11_search 45 = .ok (.aload_n 0, 1) := by decide +kernel
theorem dX11_search_46 : decode cX11_search 46 = .ok (.iconst 1, 1) := by decide +kernel
theorem dX11_search_47 : decode cX11_search 47 = .ok (.invokevirtual 99, 3) := by decide +kernel
theorem dX11_search_50 : decode cX11_search 50 = .ok (.ireturn, 1) := by decide +kernel
theorem dX11_search_51 : decode cX11_search 51 = .ok (.aload 5, 2) := by decide +kernel
theorem dX11_search_53 : decode cX11_search 53 = .ok (.getfield 118, 3) := by decide +kernel
theorem dX11_search_56 : decode cX11_search 56 = .ok (.bipush 8, 2) := by decide +kernel
theorem dX11_search_58 : decode cX11_search 58 = .ok (.if_icmp .eq 9, 3) := by decide +kernel
theorem dX11_search_61 : decode cX11_search 61 = .ok (.aload_n 0, 1) := by decide +kernel
theorem dX11_search_62 : decode cX11_search 62 = .ok (.iconst 5, 1) := by decide +kernel
theorem dX11_search_63 : decode cX11_search 63 = .ok (.invokevirtual 99, 3) := by decide +kernel
theorem dX11_search_66 : decode cX11_search 66 = .ok (.ireturn, 1) := by decide +kernel
theorem dX11_search_67 : decode cX11_search 67 = .ok (.aload 5, 2) := by decide +kernel
theorem dX11_search_69 : decode cX11_search 69 = .ok (.iconst 1, 1) := by decide +kernel
theorem dX11_search_70 : decode cX11_search 70 = .ok (.bipush 60, 2) := by decide +kernel
theorem dX11_search_72 : decode cX11_search 72 = .ok (.invokevirtual 323, 3) := by decide +kernel
theorem dX11_search_75 : decode cX11_search 75 = .ok (.ifCond .ne 9, 3) := by decide +kernel
theorem dX11_search_78 : decode cX11_search 78 = .ok (.aload_n 0, 1) := by decide +kernel
theorem dX11_search_79 : decode cX11_search 79 = .ok (.iconst 3, 1) := by decide +kernel
theorem dX11_search_80 : decode cX11_search 80 = .ok (.invokevirtual 99, 3) := by decide +kernel
theorem dX11_search_83 : decode cX11_search 83 = .ok (.ireturn, 1) := by decide +kernel
theorem dX11_search_84 : decode cX11_search 84 = .ok (.bipush 8, 2) := by decide +kernel
theorem dX11_search_86 : decode cX11_search 86 = .ok (.newarray .int, 2) := by decide +kernel
theorem dX11_search_88 : decode cX11_search 88 = .ok (.astore 6, 2) := by decide +kernel
theorem dX11_search_90 : decode cX11_search 90 = .ok (.iconst 0, 1) := by decide +kernel
theorem dX11_search_91 : decode cX11_search 91 = .ok (.istore 7, 2) := by decide +kernel
theorem dX11_search_93 : decode cX11_search 93 = .ok (.iload 7, 2) := by decide +kernel
theorem dX11_search_95 : decode cX11_search 95 = .ok (.bipush 8, 2) := by decide +kernel
theorem dX11_search_97 : decode cX11_search 97 = .ok (.if_icmp .ge 22, 3) := by decide +kernel
theorem dX11_search_100 : decode cX11_search 100 = .ok (.aload 6, 2) := by decide +kernel
theorem dX11_search_102 : decode cX11_search 102 = .ok (.iload 7, 2) := by decide +kernel
theorem dX11_search_104 : decode cX11_search 104 = .ok (.aload_n 0, 1) := by decide +kernel
theorem dX11_search_105 : decode cX11_search 105 = .ok (.aload 4, 2) := by decide +kernel
theorem dX11_search_107 : decode cX11_search 107 = .ok (.iload 7, 2) := by decide +kernel
theorem dX11_search_109 : decode cX11_search 109 = .ok (.invokevirtual 383, 3) := by decide +kernel
theorem dX11_search_112 : decode cX11_search 112 = .ok (.iastore, 1) := by decide +kernel
theorem dX11_search_113 : decode cX11_search 113 = .ok (.iinc 7 1, 3) := by decide +kernel
theorem dX11_search_116 : decode cX11_search 116 = .ok (.goto (-23), 3) := by decide +kernel
theorem dX11_search_119 : decode cX11_search 119 = .ok (.aload 6, 2) := by decide +kernel
theorem dX11_search_121 : decode cX11_search 121 = .ok (.aload 5, 2) := by decide +kernel
theorem dX11_search_123 : decode cX11_search 123 = .ok (.getfield 115, 3) := by decide +kernel
theorem dX11_search_126 : decode cX11_search 126 = .ok (.iload_n 3, 1) := by decide +kernel
theorem dX11_search_127 : decode cX11_search 127 = .ok (.invokestatic 387, 3) := by decide +kernel
theorem dX11_search_130 : decode cX11_search 130 = .ok (.istore 7, 2) := by decide +kernel
theorem dX11_search_132 : decode cX11_search 132 = .ok (.aload_n 0, 1) := by decide +kernel
theorem dX11_search_133 : decode cX11_search 133 = .ok (.aload 6, 2) := by decide +kernel
theorem dX11_search_135 : decode cX11_search 135 = .ok (.iload 7, 2) := by decide +kernel
theorem dX11_search_137 : decode cX11_search 137 = .ok (.invokestatic 391, 3) := by decide +kernel
theorem dX11_search_140 : decode cX11_search 140 = .ok (.putfield 78, 3) := by decide +kernel
theorem dX11_search_143 : decode cX11_search 143 = .ok (.iload 7, 2) := by decide +kernel
theorem dX11_search_145 : decode cX11_search 145 = .ok (.ireturn, 1) := by decide +kernel
theorem dX11_wrong_0 : decode cX11_wrong 0 = .ok (.aload_n 0, 1) := by decide +kernel
theorem dX11_wrong_1 : decode cX11_wrong 1 = .ok (.getfield 88, 3) := by decide +kernel
theorem dX11_wrong_4 : decode cX11_wrong 4 = .ok (.ifCond .ne 9, 3) := by decide +kernel
theorem dX11_wrong_7 : decode cX11_wrong 7 = .ok (.aload_n 0, 1) := by decide +kernel
theorem dX11_wrong_8 : decode cX11_wrong 8 = .ok (.iconst 4, 1) := by decide +kernel
theorem dX11_wrong_9 : decode cX11_wrong 9 = .ok (.invokevirtual 99, 3) := by decide +kernel
theorem dX11_wrong_12 : decode cX11_wrong 12 = .ok (.ireturn, 1) := by decide +kernel
theorem dX11_wrong_13 : decode cX11_wrong 13 = .ok (.aload_n 0, 1) := by decide +kernel
theorem dX11_wrong_14 : decode cX11_wrong 14 = .ok (.aload_n 0, 1) := by decide +kernel
theorem dX11_wrong_15 : decode cX11_wrong 15 = .ok (.getfield 91, 3) := by decide +kernel
theorem dX11_wrong_18 : decode cX11_wrong 18 = .ok (.i2l, 1) := by decide +kernel
theorem dX11_wrong_19 : decode cX11_wrong 19 = .ok (.aload_n 0, 1) := by decide +kernel
theorem dX11_wrong_20 : decode cX11_wrong 20 = .ok (.getfield 21, 3) := by decide +kernel
theorem dX11_wrong_23 : decode cX11_wrong 23 = .ok (.invokevirtual 139, 3) := by decide +kernel
theorem dX11_wrong_26 : decode cX11_wrong 26 = .ok (.i2l, 1) := by decide +kernel
theorem dX11_wrong_27 : decode cX11_wrong 27 = .ok (.lmul, 1) := by decide +kernel
theorem dX11_wrong_28 : decode cX11_wrong 28 = .ok (.aload_n 0, 1) := by decide +kernel
theorem dX11_wrong_29 : decode cX11_wrong 29 = .ok (.getfield 88, 3) := by decide +kernel
theorem dX11_wrong_32 : decode cX11_wrong 32 = .ok (.i2l, 1) := by decide +kernel
theorem dX11_wrong_33 : decode cX11_wrong 33 = .ok (.invokevirtual 395, 3) := by decide +kernel
theorem dX11_wrong_36 : decode cX11_wrong 36 = .ok (.aload_n 0, 1) := by decide +kernel
theorem dX11_wrong_37 : decode cX11_wrong 37 = .ok (.getfield 88, 3) := by decide +kernel
theorem dX11_wrong_40 : decode cX11_wrong 40 = .ok (.ireturn, 1) := by decide +kernel
theorem dX11_look_0 : decode cX11_look 0 = .ok (.aload_n 0, 1) := by decide +kernel
theorem dX11_look_1 : decode cX11_look 1 = .ok (.iload_n 1, 1) := by decide +kernel
theorem dX11_look_2 : decode cX11_look 2 = .ok (.invokevirtual 169, 3) := by decide +kernel
theorem dX11_look_5 : decode cX11_look 5 = .ok (.astore 4, 2) := by decide +kernel
theorem dX11_look_7 : decode cX11_look 7 = .ok (.aload 4, 2) := by decide +kernel
theorem dX11_look_9 : decode cX11_look 9 = .ok (.ifnull 12, 3) := by decide +kernel
theorem dX11_look_12 : decode cX11_look 12 = .ok (.iload_n 3, 1) := by decide +kernel
theorem dX11_look_13 : decode cX11_look 13 = .ok (.ifCond .lt 8, 3) := by decide +kernel
theorem dX11_look_16 : decode cX11_look 16 = .ok (.iload_n 3, 1) := by decide +kernel
theorem dX11_look_17 : decode cX11_look 17 = .ok (.iconst 1, 1) := by decide +kernel
theorem dX11_look_18 : decode cX11_look 18 = .ok (.if_icmp .le 5, 3) := by decide +kernel
theorem dX11_look_21 : decode cX11_look 21 = .ok (.iconst (-1), 1) := by decide +kernel
theorem dX11_look_22 : decode cX11_look 22 = .ok (.ireturn, 1) := by decide +kernel
theorem dX11_look_23 : decode cX11_look 23 = .ok (.iconst 0, 1) := by decide +kernel
theorem dX11_look_24 : decode cX11_look 24 = .ok (.istore 5, 2) := by decide +kernel
theorem dX11_look_26 : decode cX11_look 26 = .ok (.iconst 0, 1) := by decide +kernel
theorem dX11_look_27 : decode cX11_look 27 = .ok (.istore 6, 2) := by decide +kernel
theorem dX11_look_29 : decode cX11_look 29 = .ok (.iload 6, 2) := by decide +kernel
theorem dX11_look_31 : decode cX11_look 31 = .ok (.aload_n 0, 1) := by decide +kernel
theorem dX11_look_32 : decode cX11_look 32 = .ok (.getfield 31, 3) := by decide +kernel
theorem dX11_look_35 : decode cX11_look 35 = .ok (.invokevirtual 139, 3) := by decide +kernel
theorem dX11_look_38 : decode cX11_look 38 = .ok (.if_icmp .ge 63, 3) := by decide +kernel
theorem dX11_look_41 : decode cX11_look 41 = .ok (.aload_n 0, 1) := by decide +kernel
theorem dX11_look_42 : decode cX11_look 42 = .ok (.getfield 31, 3) := by decide +kernel
theorem dX11_look_45 : decode cX11_look 45 = .ok (.iload 6, 2) := by decide +kernel
theorem dX11_look_47 : decode cX11_look 47 = .ok (.invokevirtual 142, 3) := by decide +kernel
theorem dX11_look_50 : decode cX11_look 50 = .ok (.checkcast 399, 3) := by decide +kernel
theorem dX11_look_53 : decode cX11_look 53 = .ok (.astore 7, 2) := by decide +kernel
theorem dX11_look_55 : decode cX11_look 55 = .ok (.aload 7, 2) := by decide +kernel
theorem dX11_look_57 : decode cX11_look 57 = .ok (.getfield 401, 3) := by decide +kernel
theorem dX11_look_60 : decode cX11_look 60 = .ok (.aload 4, 2) := by decide +kernel
theorem dX11_look_62 : decode cX11_look 62 = .ok (.getfield 335, 3) := by decide +kernel
theorem dX11_look_65 : decode cX11_look 65 = .ok (.if_icmp .ne 30, 3) := by decide +kernel
theorem dX11_look_68 : decode cX11_look 68 = .ok (.iload 5, 2) := by decide +kernel
theorem dX11_look_70 : decode cX11_look 70 = .ok (.iload_n 2, 1) := by decide +kernel
theorem dX11_look_71 : decode cX11_look 71 = .ok (.if_icmp .ne 21, 3) := by decide +kernel
theorem dX11_look_74 : decode cX11_look 74 = .ok (.iload_n 3, 1) := by decide +kernel
theorem dX11_look_75 : decode cX11_look 75 = .ok (.ifCond .ne 11, 3) := by decide +kernel
theorem dX11_look_78 : decode cX11_look 78 = .ok (.aload 7, 2) := by decide +kernel
theorem dX11_look_80 : decode cX11_look 80 = .ok (.getfield 403, 3) := by decide +kernel
theorem dX11_look_83 : decode cX11_look 83 = .ok (.goto 8, 3) := by decide +kernel
theorem dX11_look_86 : decode cX11_look 86 = .ok (.aload 7, 2) := by decide +kernel
theorem dX11_look_88 : decode cX11_look 88 = .ok (.getfield 406, 3) := by decide +kernel
theorem dX11_look_91 : decode cX11_look 91 = .ok (.ireturn, 1) := by decide +kernel
theorem dX11_look_92 : decode cX11_look 92 = .ok (.iinc 5 1, 3) := by decide +kernel
theorem dX11_look_95 : decode cX11_look 95 = .ok (.iinc 6 1, 3) := by decide +kernel
theorem dX11_look_98 : decode cX11_look 98 = .ok (.goto (-69), 3) := by decide +kernel
theorem dX11_look_101 : decode cX11_look 101 = .ok (.bipush (-9), 2) := by decide +kernel
theorem dX11_look_103 : decode cX11_look 103 = .ok (.ireturn, 1) := by decide +kernel
theorem dX11_move_0 : decode cX11_move 0 = .ok (.aload_n 0, 1) := by decide +kernel
theorem dX11_move_1 : decode cX11_move 1 = .ok (.iload_n 1, 1) := by decide +kernel
theorem dX11_move_2 : decode cX11_move 2 = .ok (.invokevirtual 95, 3) := by decide +kernel
theorem dX11_move_5 : decode cX11_move 5 = .ok (.astore 4, 2) := by decide +kernel
theorem dX11_move_7 : decode cX11_move 7 = .ok (.aload_n 0, 1) := by decide +kernel
theorem dX11_move_8 : decode cX11_move 8 = .ok (.iload_n 2, 1) := by decide +kernel
theorem dX11_move_9 : decode cX11_move 9 = .ok (.invokevirtual 95, 3) := by decide +kernel
theorem dX11_move_12 : decode cX11_move 12 = .ok (.astore 5, 2) := by decide +kernel
theorem dX11_move_14 : decode cX11_move 14 = .ok (.aload_n 0, 1) := by decide +kernel
theorem dX11_move_15 : decode cX11_move 15 = .ok (.iload_n 3, 1) := by decide +kernel
theorem dX11_move_16 : decode cX11_move 16 = .ok (.invokevirtual 95, 3) := by decide +kernel
theorem dX11_move_19 : decode cX11_move 19 = .ok (.astore 6, 2) := by decide +kernel
theorem dX11_move_21 : decode cX11_move 21 = .ok (.aload 4, 2) := by decide +kernel
theorem dX11_move_23 : decode cX11_move 23 = .ok (.ifnull 13, 3) := by decide +kernel
theorem dX11_move_26 : decode cX11_move 26 = .ok (.aload 5, 2) := by decide +kernel
theorem dX11_move_28 : decode cX11_move 28 = .ok (.ifnull 8, 3) := by decide +kernel
theorem dX11_move_31 : decode cX11_move 31 = .ok (.aload 6, 2) := by decide +kernel
theorem dX11_move_33 : decode cX11_move 33 = .ok (.ifnonnull 5, 3) := by decide +kernel
theorem dX11_move_36 : decode cX11_move 36 = .ok (.iconst (-1), 1) := by decide +kernel
theorem dX11_move_37 : decode cX11_move 37 = .ok (.ireturn, 1) := by decide +kernel
theorem dX11_move_38 : decode cX11_move 38 = .ok (.aload 4, 2) := by decide +kernel
theorem dX11_move_40 : decode cX11_move 40 = .ok (.invokevirtual 107, 3) := by decide +kernel
theorem dX11_move_43 : decode cX11_move 43 = .ok (.ifCond .ne 19, 3) := by decide +kernel
theorem dX11_move_46 : decode cX11_move 46 = .ok (.aload 5, 2) := by decide +kernel
theorem dX11_move_48 : decode cX11_move 48 = .ok (.invokevirtual 107, 3) := by decide +kernel
theorem dX11_move_51 : decode cX11_move 51 = .ok (.ifCond .ne 11, 3) := by decide +kernel
theorem dX11_move_54 : decode cX11_move 54 = .ok (.aload 6, 2) := by decide +kernel
theorem dX11_move_56 : decode cX11_move 56 = .ok (.invokevirtual 107, 3) := by decide +kernel
theorem dX11_move_59 : decode cX11_move 59 = .ok (.ifCond .eq 9, 3) := by decide +kernel
theorem dX11_move_62 : decode cX11_move 62 = .ok (.aload_n 0, 1) := by decide +kernel
theorem dX11_move_63 : decode cX11_move 63 = .ok (.iconst 1, 1) := by decide +kernel
theorem dX11_move_64 : decode cX11_move 64 = .ok (.invokevirtual 99, 3) := by decide +kernel
theorem dX11_move_67 : decode cX11_move 67 = .ok (.ireturn, 1) := by decide +kernel
theorem dX11_move_68 : decode cX11_move 68 = .ok (.aload 4, 2) := by decide +kernel
theorem dX11_move_70 : decode cX11_move 70 = .ok (.getfield 118, 3) := by decide +kernel
theorem dX11_move_73 : decode cX11_move 73 = .ok (.iconst 1, 1) := by decide +kernel
theorem dX11_move_74 : decode cX11_move 74 = .ok (.if_icmp .lt 36, 3) := by decide +kernel
theorem dX11_move_77 : decode cX11_move 77 = .ok (.aload 4, 2) := by decide +kernel
theorem dX11_move_79 : decode cX11_move 79 = .ok (.getfield 118, 3) := by decide +kernel
theorem dX11_move_82 : decode cX11_move 82 = .ok (.bipush 12, 2) := by decide +kernel
theorem dX11_move_84 : decode cX11_move 84 = .ok (.if_icmp .gt 26, 3) := by decide +kernel
theorem dX11_move_87 : decode cX11_move 87 = .ok (.aload 5, 2) := by decide +kernel
theorem dX11_move_89 : decode cX11_move 89 = .ok (.getfield 118, 3) := by decide +kernel
theorem dX11_move_92 : decode cX11_move 92 = .ok (.aload 4, 2) := by decide +kernel
theorem dX11_move_94 : decode cX11_move 94 = .ok (.getfield 118, 3) := by decide +kernel
theorem dX11_move_97 : decode cX11_move 97 = .ok (.if_icmp .ne 13, 3) := by decide +kernel
theorem dX11_move_100 : decode cX11_move 100 = .ok (.aload 6, 2) := by decide +kernel
theorem dX11_move_102 : decode cX11_move 102 = .ok (.getfield 118, 3) := by decide +kernel
theorem dX11_move_105 : decode cX11_move 105 = .ok (.bipush 8, 2) := by decide +kernel
theorem dX11_move_107 : decode cX11_move 107 = .ok (.if_icmp .eq 9, 3) := by decide +kernel
theorem dX11_move_110 : decode cX11_move 110 = .ok (.aload_n 0, 1) := by decide +kernel
theorem dX11_move_111 : decode cX11_move 111 = .ok (.iconst 5, 1) := by decide +kernel
theorem dX11_move_112 : decode cX11_move 112 = .ok (.invokevirtual 99, 3) := by decide +kernel
theorem dX11_move_115 : decode cX11_move 115 = .ok (.ireturn, 1) := by decide +kernel
theorem dX11_move_116 : decode cX11_move 116 = .ok (.aload 4, 2) := by decide +kernel
theorem dX11_move_118 : decode cX11_move 118 = .ok (.iconst 0, 1) := by decide +kernel
theorem dX11_move_119 : decode cX11_move 119 = .ok (.bipush 99, 2) := by decide +kernel
theorem dX11_move_121 : decode cX11_move 121 = .ok (.invokevirtual 323, 3) := by decide +kernel
theorem dX11_move_124 : decode cX11_move 124 = .ok (.ifCond .eq 26, 3) := by decide +kernel
theorem dX11_move_127 : decode cX11_move 127 = .ok (.aload 5, 2) := by decide +kernel
theorem dX11_move_129 : decode cX11_move 129 = .ok (.iconst 0, 1) := by decide +kernel
theorem dX11_move_130 : decode cX11_move 130 = .ok (.bipush 7, 2) := by decide +kernel
theorem dX11_move_132 : decode cX11_move 132 = .ok (.invokevirtual 323, 3) := by decide +kernel
theorem dX11_move_135 : decode cX11_move 135 = .ok (.ifCond .eq 15, 3) := by decide +kernel
theorem dX11_move_138 : decode cX11_move 138 = .ok (.aload 6, 2) := by decide +kernel
theorem dX11_move_140 : decode cX11_move 140 = .ok (.iconst 0, 1) := by decide +kernel
theorem dX11_move_141 : decode cX11_move 141 = .ok (.sipush 999, 3) := by decide +kernel
theorem dX11_move_144 : decode cX11_move 144 = .ok (.invokevirtual 323, 3) := by decide +kernel
theorem dX11_move_147 : decode cX11_move 147 = .ok (.ifCond .ne 9, 3) := by decide +kernel
theorem dX11_move_150 : decode cX11_move 150 = .ok (.aload_n 0, 1) := by decide +kernel
theorem dX11_move_151 : decode cX11_move 151 = .ok (.iconst 3, 1) := by decide +kernel
theorem dX11_move_152 : decode cX11_move 152 = .ok (.invokevirtual 99, 3) := by decide +kernel
theorem dX11_move_155 : decode cX11_move 155 = .ok (.ireturn, 1) := by decide +kernel
theorem dX11_move_156 : decode cX11_move 156 = .ok (.aload_n 0, 1) := by decide +kernel
theorem dX11_move_157 : decode cX11_move 157 = .ok (.getfield 57, 3) := by decide +kernel
theorem dX11_move_160 : decode cX11_move 160 = .ok (.aload 4, 2) := by decide +kernel
theorem dX11_move_162 : decode cX11_move 162 = .ok (.aload 5, 2) := by decide +kernel
theorem dX11_move_164 : decode cX11_move 164 = .ok (.aload 6, 2) := by decide +kernel
theorem dX11_move_166 : decode cX11_move 166 = .ok (.invokevirtual 409, 3) := by decide +kernel
theorem dX11_move_169 : decode cX11_move 169 = .ok (.ireturn, 1) := by decide +kernel
theorem dX11_moved_0 : decode cX11_moved 0 = .ok (.iload_n 1, 1) := by decide +kernel
theorem dX11_moved_1 : decode cX11_moved 1 = .ok (.ifCond .lt 26, 3) := by decide +kernel
theorem dX11_moved_4 : decode cX11_moved 4 = .ok (.iload_n 1, 1) := by decide +kernel
theorem dX11_moved_5 : decode cX11_moved 5 = .ok (.aload_n 0, 1) := by decide +kernel
theorem dX11_moved_6 : decode cX11_moved 6 = .ok (.getfield 57, 3) := by decide +kernel
theorem dX11_moved_9 : decode cX11_moved 9 = .ok (.getfield 413, 3) := by decide +kernel
theorem dX11_moved_12 : decode cX11_moved 12 = .ok (.if_icmp .ge 15, 3) := by decide +kernel
theorem dX11_moved_15 : decode cX11_moved 15 = .ok (.aload_n 0, 1) := by decide +kernel
theorem dX11_moved_16 : decode cX11_moved 16 = .ok (.getfield 57, 3) := by decide +kernel
theorem dX11_moved_19 : decode cX11_moved 19 = .ok (.getfield 416, 3) := by decide +kernel
theorem dX11_moved_22 : decode cX11_moved 22 = .ok (.iload_n 1, 1) := by decide +kernel
theorem dX11_moved_23 : decode cX11_moved 23 = .ok (.iaload, 1) := by decide +kernel
theorem dX11_moved_24 : decode cX11_moved 24 = .ok (.goto 5, 3) := by decide +kernel
theorem dX11_moved_27 : decode cX11_moved 27 = .ok (.bipush (-9), 2) := by decide +kernel
theorem dX11_moved_29 : decode cX11_moved 29 = .ok (.ireturn, 1) := by decide +kernel
theorem dX11_eye_0 : decode cX11_eye 0 = .ok (.iload_n 1, 1) := by decide +kernel
theorem dX11_eye_1 : decode cX11_eye 1 = .ok (.invokestatic 419, 3) := by decide +kernel
theorem dX11_eye_4 : decode cX11_eye 4 = .ok (.ifCond .eq 15, 3) := by decide +kernel
theorem dX11_eye_7 : decode cX11_eye 7 = .ok (.iload_n 2, 1) := by decide +kernel
theorem dX11_eye_8 : decode cX11_eye 8 = .ok (.invokestatic 419, 3) := by decide +kernel
theorem dX11_eye_11 : decode cX11_eye 11 = .ok (.ifCond .eq 8, 3) := by decide +kernel
theorem dX11_eye_14 : decode cX11_eye 14 = .ok (.iload_n 2, 1) := by decide +kernel
theorem dX11_eye_15 : decode cX11_eye 15 = .ok (.iload_n 1, 1) := by decide +kernel
theorem dX11_eye_16 : decode cX11_eye 16 = .ok (.if_icmp .ge 5, 3) := by decide +kernel
theorem dX11_eye_19 : decode cX11_eye 19 = .ok (.iconst (-1), 1) := by decide +kernel
theorem dX11_eye_20 : decode cX11_eye 20 = .ok (.ireturn, 1) := by decide +kernel
theorem dX11_eye_21 : decode cX11_eye 21 = .ok (.aload_n 0, 1) := by decide +kernel
theorem dX11_eye_22 : decode cX11_eye 22 = .ok (.getfield 37, 3) := by decide +kernel
theorem dX11_eye_25 : decode cX11_eye 25 = .ok (.invokevirtual 139, 3) := by decide +kernel
theorem dX11_eye_28 : decode cX11_eye 28 = .ok (.bipush 12, 2) := by decide +kernel
theorem dX11_eye_30 : decode cX11_eye 30 = .ok (.if_icmp .lt 6, 3) := by decide +kernel
theorem dX11_eye_33 : decode cX11_eye 33 = .ok (.bipush (-2), 2) := by decide +kernel
theorem dX11_eye_35 : decode cX11_eye 35 = .ok (.ireturn, 1) := by decide +kernel
theorem dX11_eye_36 : decode cX11_eye 36 = .ok (.aload_n 0, 1) := by decide +kernel
theorem dX11_eye_37 : decode cX11_eye 37 = .ok (.getfield 37, 3) := by decide +kernel
theorem dX11_eye_40 : decode cX11_eye 40 = .ok (.new 422, 3) := by decide +kernel
theorem dX11_eye_43 : decode cX11_eye 43 = .ok (.dup, 1) := by decide +kernel
theorem dX11_eye_44 : decode cX11_eye 44 = .ok (.iload_n 1, 1) := by decide +kernel
theorem dX11_eye_45 : decode cX11_eye 45 = .ok (.iload_n 2, 1) := by decide +kernel
theorem dX11_eye_46 : decode cX11_eye 46 = .ok (.invokespecial 424, 3) := by decide +kernel
theorem dX11_eye_49 : decode cX11_eye 49 = .ok (.invokevirtual 165, 3) := by decide +kernel
theorem dX11_eye_52 : decode cX11_eye 52 = .ok (.pop, 1) := by decide +kernel
theorem dX11_eye_53 : decode cX11_eye 53 = .ok (.aload_n 0, 1) := by decide +kernel
theorem dX11_eye_54 : decode cX11_eye 54 = .ok (.getfield 37, 3) := by decide +kernel
theorem dX11_eye_57 : decode cX11_eye 57 = .ok (.invokevirtual 139, 3) := by decide +kernel
theorem dX11_eye_60 : decode cX11_eye 60 = .ok (.ireturn, 1) := by decide +kernel
theorem dX11_eyes_0 : decode cX11_eyes 0 = .ok (.iload_n 1, 1) := by decide +kernel
theorem dX11_eyes_1 : decode cX11_eyes 1 = .ok (.invokestatic 419, 3) := by decide +kernel
theorem dX11_eyes_4 : decode cX11_eyes 4 = .ok (.ifCond .eq 11, 3) := by decide +kernel
theorem dX11_eyes_7 : decode cX11_eyes 7 = .ok (.aload_n 0, 1) := by decide +kernel
theorem dX11_eyes_8 : decode cX11_eyes 8 = .ok (.iload_n 1, 1) := by decide +kernel
theorem dX11_eyes_9 : decode cX11_eyes 9 = .ok (.invokevirtual 425, 3) := by decide +kernel
theorem dX11_eyes_12 : decode cX11_eyes 12 = .ok (.goto 4, 3) := by decide +kernel
theorem dX11_eyes_15 : decode cX11_eyes 15 = .ok (.iconst (-1), 1) := by decide +kernel
theorem dX11_eyes_16 : decode cX11_eyes 16 = .ok (.ireturn, 1) := by decide +kernel
theorem dX11_gone_0 : decode cX11_gone 0 = .ok (.aload_n 0, 1) := by decide +kernel
theorem dX11_gone_1 : decode cX11_gone 1 = .ok (.iload_n 1, 1) := by decide +kernel
theorem dX11_gone_2 : decode cX11_gone 2 = .ok (.invokevirtual 169, 3) := by decide +kernel
theorem dX11_gone_5 : decode cX11_gone 5 = .ok (.astore_n 2, 1) := by decide +kernel
theorem dX11_gone_6 : decode cX11_gone 6 = .ok (.aload_n 2, 1) := by decide +kernel
theorem dX11_gone_7 : decode cX11_gone 7 = .ok (.ifnonnull 5, 3) := by decide +kernel
theorem dX11_gone_10 : decode cX11_gone 10 = .ok (.iconst (-1), 1) := by decide +kernel
theorem dX11_gone_11 : decode cX11_gone 11 = .ok (.ireturn, 1) := by decide +kernel
theorem dX11_gone_12 : decode cX11_gone 12 = .ok (.aload_n 0, 1) := by decide +kernel
theorem dX11_gone_13 : decode cX11_gone 13 = .ok (.aload_n 2, 1) := by decide +kernel
theorem dX11_gone_14 : decode cX11_gone 14 = .ok (.invokevirtual 428, 3) := by decide +kernel
theorem dX11_gone_17 : decode cX11_gone 17 = .ok (.istore_n 3, 1) := by decide +kernel
theorem dX11_gone_18 : decode cX11_gone 18 = .ok (.aload_n 0, 1) := by decide +kernel
theorem dX11_gone_19 : decode cX11_gone 19 = .ok (.aload_n 2, 1) := by decide +kernel
theorem dX11_gone_20 : decode cX11_gone 20 = .ok (.iload_n 3, 1) := by decide +kernel
theorem dX11_gone_21 : decode cX11_gone 21 = .ok (.invokevirtual 432, 3) := by decide +kernel
theorem dX11_gone_24 : decode cX11_gone 24 = .ok (.istore 4, 2) := by decide +kernel
theorem dX11_gone_26 : decode cX11_gone 26 = .ok (.iload_n 3, 1) := by decide +kernel
theorem dX11_gone_27 : decode cX11_gone 27 = .ok (.ifCond .lt 8, 3) := by decide +kernel
theorem dX11_gone_30 : decode cX11_gone 30 = .ok (.iload 4, 2) := by decide +kernel
theorem dX11_gone_32 : decode cX11_gone 32 = .ok (.ifCond .ge 6, 3) := by decide +kernel
theorem dX11_gone_35 : decode cX11_gone 35 = .ok (.bipush (-9), 2) := by decide +kernel
theorem dX11_gone_37 : decode cX11_gone 37 = .ok (.ireturn, 1) := by decide +kernel
theorem dX11_gone_38 : decode cX11_gone 38 = .ok (.aload_n 0, 1) := by decide +kernel
theorem dX11_gone_39 : decode cX11_gone 39 = .ok (.aload_n 0, 1) := by decide +kernel
theorem dX11_gone_40 : decode cX11_gone 40 = .ok (.getfield 31, 3) := by decide +kernel
theorem dX11_gone_43 : decode cX11_gone 43 = .ok (.iload_n 3, 1) := by decide +kernel
theorem dX11_gone_44 : decode cX11_gone 44 = .ok (.invokevirtual 142, 3) := by decide +kernel
theorem dX11_gone_47 : decode cX11_gone 47 = .ok (.checkcast 399, 3) := by decide +kernel
theorem dX11_gone_50 : decode cX11_gone 50 = .ok (.getfield 403, 3) := by decide +kernel
theorem dX11_gone_53 : decode cX11_gone 53 = .ok (.putfield 78, 3) := by decide +kernel
theorem dX11_gone_56 : decode cX11_gone 56 = .ok (.aload_n 0, 1) := by decide +kernel
theorem dX11_gone_57 : decode cX11_gone 57 = .ok (.getfield 31, 3) := by decide +kernel
theorem dX11_gone_60 : decode cX11_gone 60 = .ok (.iload 4, 2) := by decide +kernel
theorem dX11_gone_62 : decode cX11_gone 62 = .ok (.invokevirtual 142, 3) := by decide +kernel
theorem dX11_gone_65 : decode cX11_gone 65 = .ok (.checkcast 399, 3) := by decide +kernel
theorem dX11_gone_68 : decode cX11_gone 68 = .ok (.getfield 403, 3) := by decide +kernel
theorem dX11_gone_71 : decode cX11_gone 71 = .ok (.aload_n 0, 1) := by decide +kernel
theorem dX11_gone_72 : decode cX11_gone 72 = .ok (.getfield 78, 3) := by decide +kernel
theorem dX11_gone_75 : decode cX11_gone 75 = .ok (.isub, 1) := by decide +kernel
theorem dX11_gone_76 : decode cX11_gone 76 = .ok (.ireturn, 1) := by decide +kernel
theorem dX11_hands_0 : decode cX11_hands 0 = .ok (.aload_n 0, 1) := by decide +kernel
theorem dX11_hands_1 : decode cX11_hands 1 = .ok (.iload_n 1, 1) := by decide +kernel
theorem dX11_hands_2 : decode cX11_hands 2 = .ok (.invokevirtual 169, 3) := by decide +kernel
theorem dX11_hands_5 : decode cX11_hands 5 = .ok (.astore_n 2, 1) := by decide +kernel
theorem dX11_hands_6 : decode cX11_hands 6 = .ok (.aload_n 2, 1) := by decide +kernel
theorem dX11_hands_7 : decode cX11_hands 7 = .ok (.ifnonnull 5, 3) := by decide +kernel
theorem dX11_hands_10 : decode cX11_hands 10 = .ok (.iconst (-1), 1) := by decide +kernel
theorem dX11_hands_11 : decode cX11_hands 11 = .ok (.ireturn, 1) := by decide +kernel
theorem dX11_hands_12 : decode cX11_hands 12 = .ok (.aload_n 0, 1) := by decide +kernel
theorem dX11_hands_13 : decode cX11_hands 13 = .ok (.aload_n 2, 1) := by decide +kernel
theorem dX11_hands_14 : decode cX11_hands 14 = .ok (.invokevirtual 428, 3) := by decide +kernel
theorem dX11_hands_17 : decode cX11_hands 17 = .ok (.istore_n 3, 1) := by decide +kernel
theorem dX11_hands_18 : decode cX11_hands 18 = .ok (.aload_n 0, 1) := by decide +kernel
theorem dX11_hands_19 : decode cX11_hands 19 = .ok (.aload_n 2, 1) := by decide +kernel
theorem dX11_hands_20 : decode cX11_hands 20 = .ok (.iload_n 3, 1) := by decide +kernel
theorem dX11_hands_21 : decode cX11_hands 21 = .ok (.invokevirtual 432, 3) := by decide +kernel
theorem dX11_hands_24 : decode cX11_hands 24 = .ok (.istore 4, 2) := by decide +kernel
theorem dX11_hands_26 : decode cX11_hands 26 = .ok (.iload_n 3, 1) := by decide +kernel
theorem dX11_hands_27 : decode cX11_hands 27 = .ok (.ifCond .lt 8, 3) := by decide +kernel
theorem dX11_hands_30 : decode cX11_hands 30 = .ok (.iload 4, 2) := by decide +kernel
theorem dX11_hands_32 : decode cX11_hands 32 = .ok (.ifCond .ge 6, 3) := by decide +kernel
theorem dX11_hands_35 : decode cX11_hands 35 = .ok (.bipush (-9), 2) := by decide +kernel
theorem dX11_hands_37 : decode cX11_hands 37 = .ok (.ireturn, 1) := by decide +kernel
theorem dX11_hands_38 : decode cX11_hands 38 = .ok (.aload_n 0, 1) := by decide +kernel
theorem dX11_hands_39 : decode cX11_hands 39 = .ok (.aload_n 2, 1) := by decide +kernel
theorem dX11_hands_40 : decode cX11_hands 40 = .ok (.aload_n 0, 1) := by decide +kernel
theorem dX11_hands_41 : decode cX11_hands 41 = .ok (.getfield 31, 3) := by decide +kernel
theorem dX11_hands_44 : decode cX11_hands 44 = .ok (.iload_n 3, 1) := by decide +kernel
theorem dX11_hands_45 : decode cX11_hands 45 = .ok (.invokevirtual 142, 3) := by decide +kernel
theorem dX11_hands_48 : decode cX11_hands 48 = .ok (.checkcast 399, 3) := by decide +kernel
theorem dX11_hands_51 : decode cX11_hands 51 = .ok (.getfield 403, 3) := by decide +kernel
theorem dX11_hands_54 : decode cX11_hands 54 = .ok (.aload_n 0, 1) := by decide +kernel
theorem dX11_hands_55 : decode cX11_hands 55 = .ok (.getfield 31, 3) := by decide +kernel
theorem dX11_hands_58 : decode cX11_hands 58 = .ok (.iload 4, 2) := by decide +kernel
theorem dX11_hands_60 : decode cX11_hands 60 = .ok (.invokevirtual 142, 3) := by decide +kernel
theorem dX11_hands_63 : decode cX11_hands 63 = .ok (.checkcast 399, 3) := by decide +kernel
theorem dX11_hands_66 : decode cX11_hands 66 = .ok (.getfield 403, 3) := by decide +kernel
theorem dX11_hands_69 : decode cX11_hands 69 = .ok (.invokevirtual 435, 3) := by decide +kernel
theorem dX11_hands_72 : decode cX11_hands 72 = .ok (.ireturn, 1) := by decide +kernel
theorem dX11_asked_0 : decode cX11_asked 0 = .ok (.aload_n 0, 1) := by decide +kernel
theorem dX11_asked_1 : decode cX11_asked 1 = .ok (.getfield 78, 3) := by decide +kernel
theorem dX11_asked_4 : decode cX11_asked 4 = .ok (.ireturn, 1) := by decide +kernel
theorem dX11_upper_0 : decode cX11_upper 0 = .ok (.aload_n 0, 1) := by decide +kernel
theorem dX11_upper_1 : decode cX11_upper 1 = .ok (.getfield 81, 3) := by decide +kernel
theorem dX11_upper_4 : decode cX11_upper 4 = .ok (.lreturn, 1) := by decide +kernel
theorem dX11_lower_0 : decode cX11_lower 0 = .ok (.aload_n 0, 1) := by decide +kernel
theorem dX11_lower_1 : decode cX11_lower 1 = .ok (.getfield 85, 3) := by decide +kernel
theorem dX11_lower_4 : decode cX11_lower 4 = .ok (.lreturn, 1) := by decide +kernel
theorem dX11_count_0 : decode cX11_count 0 = .ok (.iload_n 1, 1) := by decide +kernel
theorem dX11_count_1 : decode cX11_count 1 = .ok (.tableswitch 135 0 9 #[55, 60, 68, 76, 84, 95, 103, 111, 119, 127], 55) := by decide +kernel
theorem dX11_count_56 : decode cX11_count 56 = .ok (.aload_n 0, 1) := by decide +kernel
theorem dX11_count_57 : decode cX11_count 57 = .ok (.getfield 71, 3) := by decide +kernel
theorem dX11_count_60 : decode cX11_count 60 = .ok (.ireturn, 1) := by decide +kernel
theorem dX11_count_61 : decode cX11_count 61 = .ok (.aload_n 0, 1) := by decide +kernel
theorem dX11_count_62 : decode cX11_count 62 = .ok (.getfield 21, 3) := by decide +kernel
theorem dX11_count_65 : decode cX11_count 65 = .ok (.invokevirtual 139, 3) := by decide +kernel
theorem dX11_count_68 : decode cX11_count 68 = .ok (.ireturn, 1) := by decide +kernel
theorem dX11_count_69 : decode cX11_count 69 = .ok (.aload_n 0, 1) := by decide +kernel
theorem dX11_count_70 : decode cX11_count 70 = .ok (.getfield 25, 3) := by decide +kernel
theorem dX11_count_73 : decode cX11_count 73 = .ok (.invokevirtual 139, 3) := by decide +kernel
theorem dX11_count_76 : decode cX11_count 76 = .ok (.ireturn, 1) := by decide +kernel
theorem dX11_count_77 : decode cX11_count 77 = .ok (.aload_n 0, 1) := by decide +kernel
theorem dX11_count_78 : decode cX11_count 78 = .ok (.getfield 28, 3) := by decide +kernel
theorem dX11_count_81 : decode cX11_count 81 = .ok (.invokevirtual 139, 3) := by decide +kernel
theorem dX11_count_84 : decode cX11_count 84 = .ok (.ireturn, 1) := by decide +kernel
theorem dX11_count_85 : decode cX11_count 85 = .ok (.aload_n 0, 1) := by decide +kernel
theorem dX11_count_86 : decode cX11_count 86 = .ok (.getfield 43, 3) := by decide +kernel
theorem dX11_count_89 : decode cX11_count 89 = .ok (.getfield 357, 3) := by decide +kernel
theorem dX11_count_92 : decode cX11_count 92 = .ok (.invokevirtual 139, 3) := by decide +kernel
theorem dX11_count_95 : decode cX11_count 95 = .ok (.ireturn, 1) := by decide +kernel
theorem dX11_count_96 : decode cX11_count 96 = .ok (.aload_n 0, 1) := by decide +kernel
theorem dX11_count_97 : decode cX11_count 97 = .ok (.getfield 31, 3) := by decide +kernel
theorem dX11_count_100 : decode cX11_count 100 = .ok (.invokevirtual 139, 3) := by decide +kernel
theorem dX11_count_103 : decode cX11_count 103 = .ok (.ireturn, 1) := by decide +kernel
theorem dX11_count_104 : decode cX11_count 104 = .ok (.aload_n 0, 1) := by decide +kernel
theorem dX11_count_105 : decode cX11_count 105 = .ok (.getfield 34, 3) := by decide +kernel
theorem dX11_count_108 : decode cX11_count 108 = .ok (.invokevirtual 139, 3) := by decide +kernel
theorem dX11_count_111 : decode cX11_count 111 = .ok (.ireturn, 1) := by decide +kernel
theorem dX11_count_112 : decode cX11_count 112 = .ok (.aload_n 0, 1) := by decide +kernel
theorem dX11_count_113 : decode cX11_count 113 = .ok (.getfield 37, 3) := by decide +kernel
theorem dX11_count_116 : decode cX11_count 116 = .ok (.invokevirtual 139, 3) := by decide +kernel
theorem dX11_count_119 : decode cX11_count 119 = .ok (.ireturn, 1) := by decide +kernel
theorem dX11_count_120 : decode cX11_count 120 = .ok (.aload_n 0, 1) := by decide +kernel
theorem dX11_count_121 : decode cX11_count 121 = .ok (.getfield 11, 3) := by decide +kernel
theorem dX11_count_124 : decode cX11_count 124 = .ok (.invokestatic 439, 3) := by decide +kernel
theorem dX11_count_127 : decode cX11_count 127 = .ok (.ireturn, 1) := by decide +kernel
theorem dX11_count_128 : decode cX11_count 128 = .ok (.aload_n 0, 1) := by decide +kernel
theorem dX11_count_129 : decode cX11_count 129 = .ok (.getfield 15, 3) := by decide +kernel
theorem dX11_count_132 : decode cX11_count 132 = .ok (.invokestatic 439, 3) := by decide +kernel
theorem dX11_count_135 : decode cX11_count 135 = .ok (.ireturn, 1) := by decide +kernel
theorem dX11_count_136 : decode cX11_count 136 = .ok (.iconst (-1), 1) := by decide +kernel
theorem dX11_count_137 : decode cX11_count 137 = .ok (.ireturn, 1) := by decide +kernel
theorem dX11_finding_0 : decode cX11_finding 0 = .ok (.aload_n 0, 1) := by decide +kernel
theorem dX11_finding_1 : decode cX11_finding 1 = .ok (.getfield 75, 3) := by decide +kernel
theorem dX11_finding_4 : decode cX11_finding 4 = .ok (.ireturn, 1) := by decide +kernel
theorem dX11_findings_0 : decode cX11_findings 0 = .ok (.iload_n 1, 1) := by decide +kernel
theorem dX11_findings_1 : decode cX11_findings 1 = .ok (.iconst 1, 1) := by decide +kernel
theorem dX11_findings_2 : decode cX11_findings 2 = .ok (.if_icmp .lt 17, 3) := by decide +kernel
theorem dX11_findings_5 : decode cX11_findings 5 = .ok (.iload_n 1, 1) := by decide +kernel
theorem dX11_findings_6 : decode cX11_findings 6 = .ok (.iconst 5, 1) := by decide +kernel
theorem dX11_findings_7 : decode cX11_findings 7 = .ok (.if_icmp .gt 12, 3) := by decide +kernel
theorem dX11_findings_10 : decode cX11_findings 10 = .ok (.aload_n 0, 1) := by decide +kernel
theorem dX11_findings_11 : decode cX11_findings 11 = .ok (.getfield 68, 3) := by decide +kernel
theorem dX11_findings_14 : decode cX11_findings 14 = .ok (.iload_n 1, 1) := by decide +kernel
theorem dX11_findings_15 : decode cX11_findings 15 = .ok (.iaload, 1) := by decide +kernel
theorem dX11_findings_16 : decode cX11_findings 16 = .ok (.goto 4, 3) := by decide +kernel
theorem dX11_findings_19 : decode cX11_findings 19 = .ok (.iconst (-1), 1) := by decide +kernel
theorem dX11_findings_20 : decode cX11_findings 20 = .ok (.ireturn, 1) := by decide +kernel
theorem dX11_digest_0 : decode cX11_digest 0 = .ok (.ldc2_w 443, 3) := by decide +kernel
theorem dX11_digest_3 : decode cX11_digest 3 = .ok (.lstore_n 1, 1) := by decide +kernel
theorem dX11_digest_4 : decode cX11_digest 4 = .ok (.iconst 0, 1) := by decide +kernel
theorem dX11_digest_5 : decode cX11_digest 5 = .ok (.istore_n 3, 1) := by decide +kernel
theorem dX11_digest_6 : decode cX11_digest 6 = .ok (.iload_n 3, 1) := by decide +kernel
theorem dX11_digest_7 : decode cX11_digest 7 = .ok (.bipush 9, 2) := by decide +kernel
theorem dX11_digest_9 : decode cX11_digest 9 = .ok (.if_icmp .gt 19, 3) := by decide +kernel
theorem dX11_digest_12 : decode cX11_digest 12 = .ok (.lload_n 1, 1) := by decide +kernel
theorem dX11_digest_13 : decode cX11_digest 13 = .ok (.aload_n 0, 1) := by decide +kernel
theorem dX11_digest_14 : decode cX11_digest 14 = .ok (.iload_n 3, 1) := by decide +kernel
theorem dX11_digest_15 : decode cX11_digest 15 = .ok (.invokevirtual 445, 3) := by decide +kernel
theorem dX11_digest_18 : decode cX11_digest 18 = .ok (.invokestatic 448, 3) := by decide +kernel
theorem dX11_digest_21 : decode cX11_digest 21 = .ok (.lstore_n 1, 1) := by decide +kernel
theorem dX11_digest_22 : decode cX11_digest 22 = .ok (.iinc 3 1, 3) := by decide +kernel
theorem dX11_digest_25 : decode cX11_digest 25 = .ok (.goto (-19), 3) := by decide +kernel
theorem dX11_digest_28 : decode cX11_digest 28 = .ok (.aload_n 0, 1) := by decide +kernel
theorem dX11_digest_29 : decode cX11_digest 29 = .ok (.lload_n 1, 1) := by decide +kernel
theorem dX11_digest_30 : decode cX11_digest 30 = .ok (.invokevirtual 452, 3) := by decide +kernel
theorem dX11_digest_33 : decode cX11_digest 33 = .ok (.lstore_n 1, 1) := by decide +kernel
theorem dX11_digest_34 : decode cX11_digest 34 = .ok (.aload_n 0, 1) := by decide +kernel
theorem dX11_digest_35 : decode cX11_digest 35 = .ok (.lload_n 1, 1) := by decide +kernel
theorem dX11_digest_36 : decode cX11_digest 36 = .ok (.invokevirtual 456, 3) := by decide +kernel
theorem dX11_digest_39 : decode cX11_digest 39 = .ok (.lstore_n 1, 1) := by decide +kernel
theorem dX11_digest_40 : decode cX11_digest 40 = .ok (.iconst 0, 1) := by decide +kernel
theorem dX11_digest_41 : decode cX11_digest 41 = .ok (.istore_n 3, 1) := by decide +kernel
theorem dX11_digest_42 : decode cX11_digest 42 = .ok (.iload_n 3, 1) := by decide +kernel
theorem dX11_digest_43 : decode cX11_digest 43 = .ok (.iconst 3, 1) := by decide +kernel
theorem dX11_digest_44 : decode cX11_digest 44 = .ok (.if_icmp .ge 29, 3) := by decide +kernel
theorem dX11_digest_47 : decode cX11_digest 47 = .ok (.lload_n 1, 1) := by decide +kernel
theorem dX11_digest_48 : decode cX11_digest 48 = .ok (.aload_n 0, 1) := by decide +kernel
theorem dX11_digest_49 : decode cX11_digest 49 = .ok (.getfield 61, 3) := by decide +kernel
theorem dX11_digest_52 : decode cX11_digest 52 = .ok (.iload_n 3, 1) := by decide +kernel
theorem dX11_digest_53 : decode cX11_digest 53 = .ok (.iaload, 1) := by decide +kernel
theorem dX11_digest_54 : decode cX11_digest 54 = .ok (.invokestatic 448, 3) := by decide +kernel
theorem dX11_digest_57 : decode cX11_digest 57 = .ok (.aload_n 0, 1) := by decide +kernel
theorem dX11_digest_58 : decode cX11_digest 58 = .ok (.getfield 65, 3) := by decide +kernel
theorem dX11_digest_61 : decode cX11_digest 61 = .ok (.iload_n 3, 1) := by decide +kernel
theorem dX11_digest_62 : decode cX11_digest 62 = .ok (.iaload, 1) := by decide +kernel
theorem dX11_digest_63 : decode cX11_digest 63 = .ok (.invokestatic 448, 3) := by decide +kernel
theorem dX11_digest_66 : decode cX11_digest 66 = .ok (.lstore_n 1, 1) := by decide +kernel
theorem dX11_digest_67 : decode cX11_digest 67 = .ok (.iinc 3 1, 3) := by decide +kernel
theorem dX11_digest_70 : decode cX11_digest 70 = .ok (.goto (-28), 3) := by decide +kernel
theorem dX11_digest_73 : decode cX11_digest 73 = .ok (.iconst 0, 1) := by decide +kernel
theorem dX11_digest_74 : decode cX11_digest 74 = .ok (.istore_n 3, 1) := by decide +kernel
theorem dX11_digest_75 : decode cX11_digest 75 = .ok (.iload_n 3, 1) := by decide +kernel
theorem dX11_digest_76 : decode cX11_digest 76 = .ok (.aload_n 0, 1) := by decide +kernel
theorem dX11_digest_77 : decode cX11_digest 77 = .ok (.getfield 28, 3) := by decide +kernel
theorem dX11_digest_80 : decode cX11_digest 80 = .ok (.invokevirtual 139, 3) := by decide +kernel
theorem dX11_digest_83 : decode cX11_digest 83 = .ok (.if_icmp .ge 45, 3) := by decide +kernel
theorem dX11_digest_86 : decode cX11_digest 86 = .ok (.lload_n 1, 1) := by decide +kernel
theorem dX11_digest_87 : decode cX11_digest 87 = .ok (.aload_n 0, 1) := by decide +kernel
theorem dX11_digest_88 : decode cX11_digest 88 = .ok (.getfield 28, 3) := by decide +kernel
theorem dX11_digest_91 : decode cX11_digest 91 = .ok (.iload_n 3, 1) := by decide +kernel
theorem dX11_digest_92 : decode cX11_digest 92 = .ok (.invokevirtual 142, 3) := by decide +kernel
theorem dX11_digest_95 : decode cX11_digest 95 = .ok (.checkcast 219, 3) := by decide +kernel
theorem dX11_digest_98 : decode cX11_digest 98 = .ok (.getfield 459, 3) := by decide +kernel
theorem dX11_digest_101 : decode cX11_digest 101 = .ok (.invokestatic 448, 3) := by decide +kernel
theorem dX11_digest_104 : decode cX11_digest 104 = .ok (.aload_n 0, 1) := by decide +kernel
theorem dX11_digest_105 : decode cX11_digest 105 = .ok (.getfield 28, 3) := by decide +kernel
theorem dX11_digest_108 : decode cX11_digest 108 = .ok (.iload_n 3, 1) := by decide +kernel
theorem dX11_digest_109 : decode cX11_digest 109 = .ok (.invokevirtual 142, 3) := by decide +kernel
theorem dX11_digest_112 : decode cX11_digest 112 = .ok (.checkcast 219, 3) := by decide +kernel
theorem dX11_digest_115 : decode cX11_digest 115 = .ok (.getfield 236, 3) := by decide +kernel
theorem dX11_digest_118 : decode cX11_digest 118 = .ok (.invokestatic 448, 3) := by decide +kernel
theorem dX11_digest_121 : decode cX11_digest 121 = .ok (.lstore_n 1, 1) := by decide +kernel
theorem dX11_digest_122 : decode cX11_digest 122 = .ok (.iinc 3 1, 3) := by decide +kernel
theorem dX11_digest_125 : decode cX11_digest 125 = .ok (.goto (-50), 3) := by decide +kernel
theorem dX11_digest_128 : decode cX11_digest 128 = .ok (.aload_n 0, 1) := by decide +kernel
theorem dX11_digest_129 : decode cX11_digest 129 = .ok (.lload_n 1, 1) := by decide +kernel
theorem dX11_digest_130 : decode cX11_digest 130 = .ok (.invokevirtual 462, 3) := by decide +kernel
theorem dX11_digest_133 : decode cX11_digest 133 = .ok (.lstore_n 1, 1) := by decide +kernel
theorem dX11_digest_134 : decode cX11_digest 134 = .ok (.aload_n 0, 1) := by decide +kernel
theorem dX11_digest_135 : decode cX11_digest 135 = .ok (.lload_n 1, 1) := by decide +kernel
theorem dX11_digest_136 : decode cX11_digest 136 = .ok (.invokevirtual 465, 3) := by decide +kernel
theorem dX11_digest_139 : decode cX11_digest 139 = .ok (.lstore_n 1, 1) := by decide +kernel
theorem dX11_digest_140 : decode cX11_digest 140 = .ok (.aload_n 0, 1) := by decide +kernel
theorem dX11_digest_141 : decode cX11_digest 141 = .ok (.lload_n 1, 1) := by decide +kernel
theorem dX11_digest_142 : decode cX11_digest 142 = .ok (.invokevirtual 468, 3) := by decide +kernel
theorem dX11_digest_145 : decode cX11_digest 145 = .ok (.lstore_n 1, 1) := by decide +kernel
theorem dX11_digest_146 : decode cX11_digest 146 = .ok (.iconst 0, 1) := by decide +kernel
theorem dX11_digest_147 : decode cX11_digest 147 = .ok (.istore_n 3, 1) := by decide +kernel
theorem dX11_digest_148 : decode cX11_digest 148 = .ok (.iload_n 3, 1) := by decide +kernel
theorem dX11_digest_149 : decode cX11_digest 149 = .ok (.aload_n 0, 1) := by decide +kernel
theorem dX11_digest_150 : decode cX11_digest 150 = .ok (.getfield 37, 3) := by decide +kernel
theorem dX11_digest_153 : decode cX11_digest 153 = .ok (.invokevirtual 139, 3) := by decide +kernel
theorem dX11_digest_156 : decode cX11_digest 156 = .ok (.if_icmp .ge 45, 3) := by decide +kernel
theorem dX11_digest_159 : decode cX11_digest 159 = .ok (.lload_n 1, 1) := by decide +kernel
theorem dX11_digest_160 : decode cX11_digest 160 = .ok (.aload_n 0, 1) := by decide +kernel
theorem dX11_digest_161 : decode cX11_digest 161 = .ok (.getfield 37, 3) := by decide +kernel
theorem dX11_digest_164 : decode cX11_digest 164 = .ok (.iload_n 3, 1) := by decide +kernel
theorem dX11_digest_165 : decode cX11_digest 165 = .ok (.invokevirtual 142, 3) := by decide +kernel
theorem dX11_digest_168 : decode cX11_digest 168 = .ok (.checkcast 422, 3) := by decide +kernel
theorem dX11_digest_171 : decode cX11_digest 171 = .ok (.getfield 471, 3) := by decide +kernel
theorem dX11_digest_174 : decode cX11_digest 174 = .ok (.invokestatic 448, 3) := by decide +kernel
theorem dX11_digest_177 : decode cX11_digest 177 = .ok (.aload_n 0, 1) := by decide +kernel
theorem dX11_digest_178 : decode cX11_digest 178 = .ok (.getfield 37, 3) := by decide +kernel
theorem dX11_digest_181 : decode cX11_digest 181 = .ok (.iload_n 3, 1) := by decide +kernel
theorem dX11_digest_182 : decode cX11_digest 182 = .ok (.invokevirtual 142, 3) := by decide +kernel
theorem dX11_digest_185 : decode cX11_digest 185 = .ok (.checkcast 422, 3) := by decide +kernel
theorem dX11_digest_188 : decode cX11_digest 188 = .ok (.getfield 472, 3) := by decide +kernel
theorem dX11_digest_191 : decode cX11_digest 191 = .ok (.invokestatic 448, 3) := by decide +kernel
theorem dX11_digest_194 : decode cX11_digest 194 = .ok (.lstore_n 1, 1) := by decide +kernel
theorem dX11_digest_195 : decode cX11_digest 195 = .ok (.iinc 3 1, 3) := by decide +kernel
theorem dX11_digest_198 : decode cX11_digest 198 = .ok (.goto (-50), 3) := by decide +kernel
theorem dX11_digest_201 : decode cX11_digest 201 = .ok (.lload_n 1, 1) := by decide +kernel
theorem dX11_digest_202 : decode cX11_digest 202 = .ok (.aload_n 0, 1) := by decide +kernel
theorem dX11_digest_203 : decode cX11_digest 203 = .ok (.getfield 11, 3) := by decide +kernel
theorem dX11_digest_206 : decode cX11_digest 206 = .ok (.invokestatic 475, 3) := by decide +kernel
theorem dX11_digest_209 : decode cX11_digest 209 = .ok (.aload_n 0, 1) := by decide +kernel
theorem dX11_digest_210 : decode cX11_digest 210 = .ok (.getfield 15, 3) := by decide +kernel
theorem dX11_digest_213 : decode cX11_digest 213 = .ok (.invokestatic 475, 3) := by decide +kernel
theorem dX11_digest_216 : decode cX11_digest 216 = .ok (.lreturn, 1) := by decide +kernel
theorem dX11_isShelf_0 : decode cX11_isShelf 0 = .ok (.iload_n 0, 1) := by decide +kernel
theorem dX11_isShelf_1 : decode cX11_isShelf 1 = .ok (.ifCond .lt 13, 3) := by decide +kernel
theorem dX11_isShelf_4 : decode cX11_isShelf 4 = .ok (.iload_n 0, 1) := by decide +kernel
theorem dX11_isShelf_5 : decode cX11_isShelf 5 = .ok (.bipush 8, 2) := by decide +kernel
theorem dX11_isShelf_7 : decode cX11_isShelf 7 = .ok (.if_icmp .ge 7, 3) := by decide +kernel
theorem dX11_isShelf_10 : decode cX11_isShelf 10 = .ok (.iconst 1, 1) := by decide +kernel
theorem dX11_isShelf_11 : decode cX11_isShelf 11 = .ok (.goto 4, 3) := by decide +kernel
theorem dX11_isShelf_14 : decode cX11_isShelf 14 = .ok (.iconst 0, 1) := by decide +kernel
theorem dX11_isShelf_15 : decode cX11_isShelf 15 = .ok (.ireturn, 1) := by decide +kernel
theorem dX11_isReader_0 : decode cX11_isReader 0 = .ok (.iload_n 0, 1) := by decide +kernel
theorem dX11_isReader_1 : decode cX11_isReader 1 = .ok (.ifCond .lt 13, 3) := by decide +kernel
theorem dX11_isReader_4 : decode cX11_isReader 4 = .ok (.iload_n 0, 1) := by decide +kernel
theorem dX11_isReader_5 : decode cX11_isReader 5 = .ok (.bipush 8, 2) := by decide +kernel
theorem dX11_isReader_7 : decode cX11_isReader 7 = .ok (.if_icmp .ge 7, 3) := by decide +kernel
theorem dX11_isReader_10 : decode cX11_isReader 10 = .ok (.iconst 1, 1) := by decide +kernel
theorem dX11_isReader_11 : decode cX11_isReader 11 = .ok (.goto 4, 3) := by decide +kernel
theorem dX11_isReader_14 : decode cX11_isReader 14 = .ok (.iconst 0, 1) := by decide +kernel
theorem dX11_isReader_15 : decode cX11_isReader 15 = .ok (.ireturn, 1) := by decide +kernel
theorem dX11_isFetcher_0 : decode cX11_isFetcher 0 = .ok (.iload_n 0, 1) := by decide +kernel
theorem dX11_isFetcher_1 : decode cX11_isFetcher 1 = .ok (.ifCond .lt 12, 3) := by decide +kernel
theorem dX11_isFetcher_4 : decode cX11_isFetcher 4 = .ok (.iload_n 0, 1) := by decide +kernel
theorem dX11_isFetcher_5 : decode cX11_isFetcher 5 = .ok (.iconst 3, 1) := by decide +kernel
theorem dX11_isFetcher_6 : decode cX11_isFetcher 6 = .ok (.if_icmp .ge 7, 3) := by decide +kernel
theorem dX11_isFetcher_9 : decode cX11_isFetcher 9 = .ok (.iconst 1, 1) := by decide +kernel
theorem dX11_isFetcher_10 : decode cX11_isFetcher 10 = .ok (.goto 4, 3) := by decide +kernel
theorem dX11_isFetcher_13 : decode cX11_isFetcher 13 = .ok (.iconst 0, 1) := by decide +kernel
theorem dX11_isFetcher_14 : decode cX11_isFetcher 14 = .ok (.ireturn, 1) := by decide +kernel
theorem dX11_isMark_0 : decode cX11_isMark 0 = .ok (.iload_n 0, 1) := by decide +kernel
theorem dX11_isMark_1 : decode cX11_isMark 1 = .ok (.ifCond .lt 14, 3) := by decide +kernel
theorem dX11_isMark_4 : decode cX11_isMark 4 = .ok (.iload_n 0, 1) := by decide +kernel
theorem dX11_isMark_5 : decode cX11_isMark 5 = .ok (.sipush 9999, 3) := by decide +kernel
theorem dX11_isMark_8 : decode cX11_isMark 8 = .ok (.if_icmp .gt 7, 3) := by decide +kernel
theorem dX11_isMark_11 : decode cX11_isMark 11 = .ok (.iconst 1, 1) := by decide +kernel
theorem dX11_isMark_12 : decode cX11_isMark 12 = .ok (.goto 4, 3) := by decide +kernel
theorem dX11_isMark_15 : decode cX11_isMark 15 = .ok (.iconst 0, 1) := by decide +kernel
theorem dX11_isMark_16 : decode cX11_isMark 16 = .ok (.ireturn, 1) := by decide +kernel
theorem dX11_isMinute_0 : decode cX11_isMinute 0 = .ok (.iload_n 0, 1) := by decide +kernel
theorem dX11_isMinute_1 : decode cX11_isMinute 1 = .ok (.ifCond .lt 13, 3) := by decide +kernel
theorem dX11_isMinute_4 : decode cX11_isMinute 4 = .ok (.iload_n 0, 1) := by decide +kernel
theorem dX11_isMinute_5 : decode cX11_isMinute 5 = .ok (.ldc 138, 2) := by decide +kernel
theorem dX11_isMinute_7 : decode cX11_isMinute 7 = .ok (.if_icmp .gt 7, 3) := by decide +kernel
theorem dX11_isMinute_10 : decode cX11_isMinute 10 = .ok (.iconst 1, 1) := by decide +kernel
theorem dX11_isMinute_11 : decode cX11_isMinute 11 = .ok (.goto 4, 3) := by decide +kernel
theorem dX11_isMinute_14 : decode cX11_isMinute 14 = .ok (.iconst 0, 1) := by decide +kernel
theorem dX11_isMinute_15 : decode cX11_isMinute 15 = .ok (.ireturn, 1) := by decide +kernel
theorem dX11_isDay_0 : decode cX11_isDay 0 = .ok (.iload_n 0, 1) := by decide +kernel
theorem dX11_isDay_1 : decode cX11_isDay 1 = .ok (.ifCond .lt 13, 3) := by decide +kernel
theorem dX11_isDay_4 : decode cX11_isDay 4 = .ok (.iload_n 0, 1) := by decide +kernel
theorem dX11_isDay_5 : decode cX11_isDay 5 = .ok (.bipush 69, 2) := by decide +kernel
theorem dX11_isDay_7 : decode cX11_isDay 7 = .ok (.if_icmp .gt 7, 3) := by decide +kernel
theorem dX11_isDay_10 : decode cX11_isDay 10 = .ok (.iconst 1, 1) := by decide +kernel
theorem dX11_isDay_11 : decode cX11_isDay 11 = .ok (.goto 4, 3) := by decide +kernel
