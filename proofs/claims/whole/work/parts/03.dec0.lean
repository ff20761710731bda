theorem dX0_init_0 : decode cX0_init 0 = .ok (.aload_n 0, 1) := by decide +kernel
theorem dX0_init_1 : decode cX0_init 1 = .ok (.invokespecial 3, 3) := by decide +kernel
theorem dX0_init_4 : decode cX0_init 4 = .ok (.aload_n 0, 1) := by decide +kernel
theorem dX0_init_5 : decode cX0_init 5 = .ok (.iconst 5, 1) := by decide +kernel
theorem dX0_init_6 : decode cX0_init 6 = .ok (.anewarray 9, 3) := by decide +kernel
theorem dX0_init_9 : decode cX0_init 9 = .ok (.putfield 11, 3) := by decide +kernel
theorem dX0_init_12 : decode cX0_init 12 = .ok (.iconst 0, 1) := by decide +kernel
theorem dX0_init_13 : decode cX0_init 13 = .ok (.istore_n 1, 1) := by decide +kernel
theorem dX0_init_14 : decode cX0_init 14 = .ok (.iload_n 1, 1) := by decide +kernel
theorem dX0_init_15 : decode cX0_init 15 = .ok (.iconst 5, 1) := by decide +kernel
theorem dX0_init_16 : decode cX0_init 16 = .ok (.if_icmp .ge 22, 3) := by decide +kernel
theorem dX0_init_19 : decode cX0_init 19 = .ok (.aload_n 0, 1) := by decide +kernel
theorem dX0_init_20 : decode cX0_init 20 = .ok (.getfield 11, 3) := by decide +kernel
theorem dX0_init_23 : decode cX0_init 23 = .ok (.iload_n 1, 1) := by decide +kernel
theorem dX0_init_24 : decode cX0_init 24 = .ok (.new 9, 3) := by decide +kernel
theorem dX0_init_27 : decode cX0_init 27 = .ok (.dup, 1) := by decide +kernel
theorem dX0_init_28 : decode cX0_init 28 = .ok (.invokespecial 17, 3) := by decide +kernel
theorem dX0_init_31 : decode cX0_init 31 = .ok (.aastore, 1) := by decide +kernel
theorem dX0_init_32 : decode cX0_init 32 = .ok (.iinc 1 1, 3) := by decide +kernel
theorem dX0_init_35 : decode cX0_init 35 = .ok (.goto (-21), 3) := by decide +kernel
theorem dX0_init_38 : decode cX0_init 38 = .ok (.return_, 1) := by decide +kernel
theorem dX0_stands_0 : decode cX0_stands 0 = .ok (.aload_n 0, 1) := by decide +kernel
theorem dX0_stands_1 : decode cX0_stands 1 = .ok (.getfield 18, 3) := by decide +kernel
theorem dX0_stands_4 : decode cX0_stands 4 = .ok (.ifCond .le 7, 3) := by decide +kernel
theorem dX0_stands_7 : decode cX0_stands 7 = .ok (.iconst 1, 1) := by decide +kernel
theorem dX0_stands_8 : decode cX0_stands 8 = .ok (.goto 4, 3) := by decide +kernel
theorem dX0_stands_11 : decode cX0_stands 11 = .ok (.iconst 0, 1) := by decide +kernel
theorem dX0_stands_12 : decode cX0_stands 12 = .ok (.ireturn, 1) := by decide +kernel
theorem dX0_has_0 : decode cX0_has 0 = .ok (.iload_n 1, 1) := by decide +kernel
theorem dX0_has_1 : decode cX0_has 1 = .ok (.ifCond .lt 15, 3) := by decide +kernel
theorem dX0_has_4 : decode cX0_has 4 = .ok (.iload_n 1, 1) := by decide +kernel
theorem dX0_has_5 : decode cX0_has 5 = .ok (.aload_n 0, 1) := by decide +kernel
theorem dX0_has_6 : decode cX0_has 6 = .ok (.getfield 18, 3) := by decide +kernel
theorem dX0_has_9 : decode cX0_has 9 = .ok (.if_icmp .ge 7, 3) := by decide +kernel
theorem dX0_has_12 : decode cX0_has 12 = .ok (.iconst 1, 1) := by decide +kernel
theorem dX0_has_13 : decode cX0_has 13 = .ok (.goto 4, 3) := by decide +kernel
theorem dX0_has_16 : decode cX0_has 16 = .ok (.iconst 0, 1) := by decide +kernel
theorem dX0_has_17 : decode cX0_has 17 = .ok (.ireturn, 1) := by decide +kernel
theorem dX0_casesBy_0 : decode cX0_casesBy 0 = .ok (.iconst 0, 1) := by decide +kernel
theorem dX0_casesBy_1 : decode cX0_casesBy 1 = .ok (.istore 4, 2) := by decide +kernel
theorem dX0_casesBy_3 : decode cX0_casesBy 3 = .ok (.iconst 0, 1) := by decide +kernel
theorem dX0_casesBy_4 : decode cX0_casesBy 4 = .ok (.istore 5, 2) := by decide +kernel
theorem dX0_casesBy_6 : decode cX0_casesBy 6 = .ok (.iload 5, 2) := by decide +kernel
theorem dX0_casesBy_8 : decode cX0_casesBy 8 = .ok (.iload_n 2, 1) := by decide +kernel
theorem dX0_casesBy_9 : decode cX0_casesBy 9 = .ok (.if_icmp .ge 50, 3) := by decide +kernel
theorem dX0_casesBy_12 : decode cX0_casesBy 12 = .ok (.aload_n 1, 1) := by decide +kernel
theorem dX0_casesBy_13 : decode cX0_casesBy 13 = .ok (.iload 5, 2) := by decide +kernel
theorem dX0_casesBy_15 : decode cX0_casesBy 15 = .ok (.iaload, 1) := by decide +kernel
theorem dX0_casesBy_16 : decode cX0_casesBy 16 = .ok (.istore 6, 2) := by decide +kernel
theorem dX0_casesBy_18 : decode cX0_casesBy 18 = .ok (.aload_n 0, 1) := by decide +kernel
theorem dX0_casesBy_19 : decode cX0_casesBy 19 = .ok (.iload 6, 2) := by decide +kernel
theorem dX0_casesBy_21 : decode cX0_casesBy 21 = .ok (.invokevirtual 22, 3) := by decide +kernel
theorem dX0_casesBy_24 : decode cX0_casesBy 24 = .ok (.ifCond .eq 29, 3) := by decide +kernel
theorem dX0_casesBy_27 : decode cX0_casesBy 27 = .ok (.iload 5, 2) := by decide +kernel
theorem dX0_casesBy_29 : decode cX0_casesBy 29 = .ok (.aload_n 0, 1) := by decide +kernel
theorem dX0_casesBy_30 : decode cX0_casesBy 30 = .ok (.getfield 11, 3) := by decide +kernel
theorem dX0_casesBy_33 : decode cX0_casesBy 33 = .ok (.iload 6, 2) := by decide +kernel
theorem dX0_casesBy_35 : decode cX0_casesBy 35 = .ok (.aaload, 1) := by decide +kernel
theorem dX0_casesBy_36 : decode cX0_casesBy 36 = .ok (.getfield 26, 3) := by decide +kernel
theorem dX0_casesBy_39 : decode cX0_casesBy 39 = .ok (.iadd, 1) := by decide +kernel
theorem dX0_casesBy_40 : decode cX0_casesBy 40 = .ok (.iload_n 3, 1) := by decide +kernel
theorem dX0_casesBy_41 : decode cX0_casesBy 41 = .ok (.if_icmp .le 12, 3) := by decide +kernel
theorem dX0_casesBy_44 : decode cX0_casesBy 44 = .ok (.iload 4, 2) := by decide +kernel
theorem dX0_casesBy_46 : decode cX0_casesBy 46 = .ok (.iconst 1, 1) := by decide +kernel
theorem dX0_casesBy_47 : decode cX0_casesBy 47 = .ok (.iload 6, 2) := by decide +kernel
theorem dX0_casesBy_49 : decode cX0_casesBy 49 = .ok (.ishl, 1) := by decide +kernel
theorem dX0_casesBy_50 : decode cX0_casesBy 50 = .ok (.ior, 1) := by decide +kernel
theorem dX0_casesBy_51 : decode cX0_casesBy 51 = .ok (.istore 4, 2) := by decide +kernel
theorem dX0_casesBy_53 : decode cX0_casesBy 53 = .ok (.iinc 5 1, 3) := by decide +kernel
theorem dX0_casesBy_56 : decode cX0_casesBy 56 = .ok (.goto (-50), 3) := by decide +kernel
theorem dX0_casesBy_59 : decode cX0_casesBy 59 = .ok (.iload 4, 2) := by decide +kernel
theorem dX0_casesBy_61 : decode cX0_casesBy 61 = .ok (.ireturn, 1) := by decide +kernel
theorem dX0_firstWrong_0 : decode cX0_firstWrong 0 = .ok (.iconst 0, 1) := by decide +kernel
theorem dX0_firstWrong_1 : decode cX0_firstWrong 1 = .ok (.istore_n 2, 1) := by decide +kernel
theorem dX0_firstWrong_2 : decode cX0_firstWrong 2 = .ok (.iload_n 2, 1) := by decide +kernel
theorem dX0_firstWrong_3 : decode cX0_firstWrong 3 = .ok (.bipush 6, 2) := by decide +kernel
theorem dX0_firstWrong_5 : decode cX0_firstWrong 5 = .ok (.if_icmp .ge 37, 3) := by decide +kernel
theorem dX0_firstWrong_8 : decode cX0_firstWrong 8 = .ok (.aload_n 0, 1) := by decide +kernel
theorem dX0_firstWrong_9 : decode cX0_firstWrong 9 = .ok (.aload_n 1, 1) := by decide +kernel
theorem dX0_firstWrong_10 : decode cX0_firstWrong 10 = .ok (.iload_n 2, 1) := by decide +kernel
theorem dX0_firstWrong_11 : decode cX0_firstWrong 11 = .ok (.iaload, 1) := by decide +kernel
theorem dX0_firstWrong_12 : decode cX0_firstWrong 12 = .ok (.invokevirtual 22, 3) := by decide +kernel
theorem dX0_firstWrong_15 : decode cX0_firstWrong 15 = .ok (.ifCond .eq 21, 3) := by decide +kernel
theorem dX0_firstWrong_18 : decode cX0_firstWrong 18 = .ok (.aload_n 0, 1) := by decide +kernel
theorem dX0_firstWrong_19 : decode cX0_firstWrong 19 = .ok (.aload_n 1, 1) := by decide +kernel
theorem dX0_firstWrong_20 : decode cX0_firstWrong 20 = .ok (.iload_n 2, 1) := by decide +kernel
theorem dX0_firstWrong_21 : decode cX0_firstWrong 21 = .ok (.iload_n 2, 1) := by decide +kernel
theorem dX0_firstWrong_22 : decode cX0_firstWrong 22 = .ok (.invokevirtual 29, 3) := by decide +kernel
theorem dX0_firstWrong_25 : decode cX0_firstWrong 25 = .ok (.aload_n 1, 1) := by decide +kernel
theorem dX0_firstWrong_26 : decode cX0_firstWrong 26 = .ok (.iload_n 2, 1) := by decide +kernel
theorem dX0_firstWrong_27 : decode cX0_firstWrong 27 = .ok (.iaload, 1) := by decide +kernel
theorem dX0_firstWrong_28 : decode cX0_firstWrong 28 = .ok (.invokestatic 33, 3) := by decide +kernel
theorem dX0_firstWrong_31 : decode cX0_firstWrong 31 = .ok (.ifCond .eq 5, 3) := by decide +kernel
theorem dX0_firstWrong_34 : decode cX0_firstWrong 34 = .ok (.iload_n 2, 1) := by decide +kernel
theorem dX0_firstWrong_35 : decode cX0_firstWrong 35 = .ok (.ireturn, 1) := by decide +kernel
theorem dX0_firstWrong_36 : decode cX0_firstWrong 36 = .ok (.iinc 2 1, 3) := by decide +kernel
theorem dX0_firstWrong_39 : decode cX0_firstWrong 39 = .ok (.goto (-37), 3) := by decide +kernel
theorem dX0_firstWrong_42 : decode cX0_firstWrong 42 = .ok (.bipush (-9), 2) := by decide +kernel
theorem dX0_firstWrong_44 : decode cX0_firstWrong 44 = .ok (.ireturn, 1) := by decide +kernel
theorem dX0_takingsBy_0 : decode cX0_takingsBy 0 = .ok (.iconst 0, 1) := by decide +kernel
theorem dX0_takingsBy_1 : decode cX0_takingsBy 1 = .ok (.istore_n 3, 1) := by decide +kernel
theorem dX0_takingsBy_2 : decode cX0_takingsBy 2 = .ok (.iconst 0, 1) := by decide +kernel
theorem dX0_takingsBy_3 : decode cX0_takingsBy 3 = .ok (.istore 4, 2) := by decide +kernel
theorem dX0_takingsBy_5 : decode cX0_takingsBy 5 = .ok (.iload 4, 2) := by decide +kernel
theorem dX0_takingsBy_7 : decode cX0_takingsBy 7 = .ok (.bipush 6, 2) := by decide +kernel
theorem dX0_takingsBy_9 : decode cX0_takingsBy 9 = .ok (.if_icmp .ge 43, 3) := by decide +kernel
theorem dX0_takingsBy_12 : decode cX0_takingsBy 12 = .ok (.aload_n 0, 1) := by decide +kernel
theorem dX0_takingsBy_13 : decode cX0_takingsBy 13 = .ok (.aload_n 1, 1) := by decide +kernel
theorem dX0_takingsBy_14 : decode cX0_takingsBy 14 = .ok (.iload 4, 2) := by decide +kernel
theorem dX0_takingsBy_16 : decode cX0_takingsBy 16 = .ok (.iaload, 1) := by decide +kernel
theorem dX0_takingsBy_17 : decode cX0_takingsBy 17 = .ok (.invokevirtual 22, 3) := by decide +kernel
theorem dX0_takingsBy_20 : decode cX0_takingsBy 20 = .ok (.ifCond .eq 26, 3) := by decide +kernel
theorem dX0_takingsBy_23 : decode cX0_takingsBy 23 = .ok (.iload_n 3, 1) := by decide +kernel
theorem dX0_takingsBy_24 : decode cX0_takingsBy 24 = .ok (.aload_n 0, 1) := by decide +kernel
theorem dX0_takingsBy_25 : decode cX0_takingsBy 25 = .ok (.aload_n 1, 1) := by decide +kernel
theorem dX0_takingsBy_26 : decode cX0_takingsBy 26 = .ok (.iload 4, 2) := by decide +kernel
theorem dX0_takingsBy_28 : decode cX0_takingsBy 28 = .ok (.iaload, 1) := by decide +kernel
theorem dX0_takingsBy_29 : decode cX0_takingsBy 29 = .ok (.iload 4, 2) := by decide +kernel
theorem dX0_takingsBy_31 : decode cX0_takingsBy 31 = .ok (.aload_n 0, 1) := by decide +kernel
theorem dX0_takingsBy_32 : decode cX0_takingsBy 32 = .ok (.aload_n 1, 1) := by decide +kernel
theorem dX0_takingsBy_33 : decode cX0_takingsBy 33 = .ok (.iload 4, 2) := by decide +kernel
theorem dX0_takingsBy_35 : decode cX0_takingsBy 35 = .ok (.iload 4, 2) := by decide +kernel
theorem dX0_takingsBy_37 : decode cX0_takingsBy 37 = .ok (.invokevirtual 29, 3) := by decide +kernel
theorem dX0_takingsBy_40 : decode cX0_takingsBy 40 = .ok (.iload_n 2, 1) := by decide +kernel
theorem dX0_takingsBy_41 : decode cX0_takingsBy 41 = .ok (.invokevirtual 37, 3) := by decide +kernel
theorem dX0_takingsBy_44 : decode cX0_takingsBy 44 = .ok (.iadd, 1) := by decide +kernel
theorem dX0_takingsBy_45 : decode cX0_takingsBy 45 = .ok (.istore_n 3, 1) := by decide +kernel
theorem dX0_takingsBy_46 : decode cX0_takingsBy 46 = .ok (.iinc 4 1, 3) := by decide +kernel
theorem dX0_takingsBy_49 : decode cX0_takingsBy 49 = .ok (.goto (-44), 3) := by decide +kernel
theorem dX0_takingsBy_52 : decode cX0_takingsBy 52 = .ok (.iload_n 3, 1) := by decide +kernel
theorem dX0_takingsBy_53 : decode cX0_takingsBy 53 = .ok (.ireturn, 1) := by decide +kernel
theorem dX0_missedBy_0 : decode cX0_missedBy 0 = .ok (.iconst 0, 1) := by decide +kernel
theorem dX0_missedBy_1 : decode cX0_missedBy 1 = .ok (.istore_n 2, 1) := by decide +kernel
theorem dX0_missedBy_2 : decode cX0_missedBy 2 = .ok (.iconst 0, 1) := by decide +kernel
theorem dX0_missedBy_3 : decode cX0_missedBy 3 = .ok (.istore_n 3, 1) := by decide +kernel
theorem dX0_missedBy_4 : decode cX0_missedBy 4 = .ok (.iload_n 3, 1) := by decide +kernel
theorem dX0_missedBy_5 : decode cX0_missedBy 5 = .ok (.bipush 6, 2) := by decide +kernel
theorem dX0_missedBy_7 : decode cX0_missedBy 7 = .ok (.if_icmp .ge 30, 3) := by decide +kernel
theorem dX0_missedBy_10 : decode cX0_missedBy 10 = .ok (.aload_n 0, 1) := by decide +kernel
theorem dX0_missedBy_11 : decode cX0_missedBy 11 = .ok (.aload_n 1, 1) := by decide +kernel
theorem dX0_missedBy_12 : decode cX0_missedBy 12 = .ok (.iload_n 3, 1) := by decide +kernel
theorem dX0_missedBy_13 : decode cX0_missedBy 13 = .ok (.iaload, 1) := by decide +kernel
theorem dX0_missedBy_14 : decode cX0_missedBy 14 = .ok (.invokevirtual 22, 3) := by decide +kernel
theorem dX0_missedBy_17 : decode cX0_missedBy 17 = .ok (.ifCond .eq 14, 3) := by decide +kernel
theorem dX0_missedBy_20 : decode cX0_missedBy 20 = .ok (.iload_n 2, 1) := by decide +kernel
theorem dX0_missedBy_21 : decode cX0_missedBy 21 = .ok (.aload_n 0, 1) := by decide +kernel
theorem dX0_missedBy_22 : decode cX0_missedBy 22 = .ok (.aload_n 1, 1) := by decide +kernel
theorem dX0_missedBy_23 : decode cX0_missedBy 23 = .ok (.iload_n 3, 1) := by decide +kernel
theorem dX0_missedBy_24 : decode cX0_missedBy 24 = .ok (.iaload, 1) := by decide +kernel
theorem dX0_missedBy_25 : decode cX0_missedBy 25 = .ok (.iload_n 3, 1) := by decide +kernel
theorem dX0_missedBy_26 : decode cX0_missedBy 26 = .ok (.invokevirtual 41, 3) := by decide +kernel
theorem dX0_missedBy_29 : decode cX0_missedBy 29 = .ok (.iadd, 1) := by decide +kernel
theorem dX0_missedBy_30 : decode cX0_missedBy 30 = .ok (.istore_n 2, 1) := by decide +kernel
theorem dX0_missedBy_31 : decode cX0_missedBy 31 = .ok (.iinc 3 1, 3) := by decide +kernel
theorem dX0_missedBy_34 : decode cX0_missedBy 34 = .ok (.goto (-30), 3) := by decide +kernel
theorem dX0_missedBy_37 : decode cX0_missedBy 37 = .ok (.iload_n 2, 1) := by decide +kernel
theorem dX0_missedBy_38 : decode cX0_missedBy 38 = .ok (.ireturn, 1) := by decide +kernel
theorem dX0_hoursInCase_0 : decode cX0_hoursInCase 0 = .ok (.iconst 0, 1) := by decide +kernel
theorem dX0_hoursInCase_1 : decode cX0_hoursInCase 1 = .ok (.istore_n 3, 1) := by decide +kernel
theorem dX0_hoursInCase_2 : decode cX0_hoursInCase 2 = .ok (.iconst 0, 1) := by decide +kernel
theorem dX0_hoursInCase_3 : decode cX0_hoursInCase 3 = .ok (.istore 4, 2) := by decide +kernel
theorem dX0_hoursInCase_5 : decode cX0_hoursInCase 5 = .ok (.iload 4, 2) := by decide +kernel
theorem dX0_hoursInCase_7 : decode cX0_hoursInCase 7 = .ok (.bipush 6, 2) := by decide +kernel
theorem dX0_hoursInCase_9 : decode cX0_hoursInCase 9 = .ok (.if_icmp .ge 39, 3) := by decide +kernel
theorem dX0_hoursInCase_12 : decode cX0_hoursInCase 12 = .ok (.aload_n 1, 1) := by decide +kernel
theorem dX0_hoursInCase_13 : decode cX0_hoursInCase 13 = .ok (.iload 4, 2) := by decide +kernel
theorem dX0_hoursInCase_15 : decode cX0_hoursInCase 15 = .ok (.iaload, 1) := by decide +kernel
theorem dX0_hoursInCase_16 : decode cX0_hoursInCase 16 = .ok (.iload_n 2, 1) := by decide +kernel
theorem dX0_hoursInCase_17 : decode cX0_hoursInCase 17 = .ok (.if_icmp .ne 25, 3) := by decide +kernel
theorem dX0_hoursInCase_20 : decode cX0_hoursInCase 20 = .ok (.aload_n 0, 1) := by decide +kernel
theorem dX0_hoursInCase_21 : decode cX0_hoursInCase 21 = .ok (.iload_n 2, 1) := by decide +kernel
theorem dX0_hoursInCase_22 : decode cX0_hoursInCase 22 = .ok (.invokevirtual 22, 3) := by decide +kernel
theorem dX0_hoursInCase_25 : decode cX0_hoursInCase 25 = .ok (.ifCond .eq 17, 3) := by decide +kernel
theorem dX0_hoursInCase_28 : decode cX0_hoursInCase 28 = .ok (.iload_n 3, 1) := by decide +kernel
theorem dX0_hoursInCase_29 : decode cX0_hoursInCase 29 = .ok (.aload_n 0, 1) := by decide +kernel
theorem dX0_hoursInCase_30 : decode cX0_hoursInCase 30 = .ok (.getfield 11, 3) := by decide +kernel
theorem dX0_hoursInCase_33 : decode cX0_hoursInCase 33 = .ok (.iload_n 2, 1) := by decide +kernel
theorem dX0_hoursInCase_34 : decode cX0_hoursInCase 34 = .ok (.aaload, 1) := by decide +kernel
theorem dX0_hoursInCase_35 : decode cX0_hoursInCase 35 = .ok (.iload 4, 2) := by decide +kernel
theorem dX0_hoursInCase_37 : decode cX0_hoursInCase 37 = .ok (.invokevirtual 45, 3) := by decide +kernel
theorem dX0_hoursInCase_40 : decode cX0_hoursInCase 40 = .ok (.ior, 1) := by decide +kernel
theorem dX0_hoursInCase_41 : decode cX0_hoursInCase 41 = .ok (.istore_n 3, 1) := by decide +kernel
theorem dX0_hoursInCase_42 : decode cX0_hoursInCase 42 = .ok (.iinc 4 1, 3) := by decide +kernel
theorem dX0_hoursInCase_45 : decode cX0_hoursInCase 45 = .ok (.goto (-40), 3) := by decide +kernel
theorem dX0_hoursInCase_48 : decode cX0_hoursInCase 48 = .ok (.iload_n 3, 1) := by decide +kernel
theorem dX0_hoursInCase_49 : decode cX0_hoursInCase 49 = .ok (.ireturn, 1) := by decide +kernel
theorem dX0_gain_0 : decode cX0_gain 0 = .ok (.aload_n 0, 1) := by decide +kernel
theorem dX0_gain_1 : decode cX0_gain 1 = .ok (.getfield 11, 3) := by decide +kernel
theorem dX0_gain_4 : decode cX0_gain 4 = .ok (.iload_n 1, 1) := by decide +kernel
theorem dX0_gain_5 : decode cX0_gain 5 = .ok (.aaload, 1) := by decide +kernel
theorem dX0_gain_6 : decode cX0_gain 6 = .ok (.astore 5, 2) := by decide +kernel
theorem dX0_gain_8 : decode cX0_gain 8 = .ok (.aload 5, 2) := by decide +kernel
theorem dX0_gain_10 : decode cX0_gain 10 = .ok (.invokevirtual 49, 3) := by decide +kernel
theorem dX0_gain_13 : decode cX0_gain 13 = .ok (.istore 6, 2) := by decide +kernel
theorem dX0_gain_15 : decode cX0_gain 15 = .ok (.iload 4, 2) := by decide +kernel
theorem dX0_gain_17 : decode cX0_gain 17 = .ok (.iconst 1, 1) := by decide +kernel
theorem dX0_gain_18 : decode cX0_gain 18 = .ok (.iand, 1) := by decide +kernel
theorem dX0_gain_19 : decode cX0_gain 19 = .ok (.ifCond .eq 25, 3) := by decide +kernel
theorem dX0_gain_22 : decode cX0_gain 22 = .ok (.aload 5, 2) := by decide +kernel
theorem dX0_gain_24 : decode cX0_gain 24 = .ok (.getfield 53, 3) := by decide +kernel
theorem dX0_gain_27 : decode cX0_gain 27 = .ok (.iload_n 2, 1) := by decide +kernel
theorem dX0_gain_28 : decode cX0_gain 28 = .ok (.invokestatic 33, 3) := by decide +kernel
theorem dX0_gain_31 : decode cX0_gain 31 = .ok (.ifCond .eq 13, 3) := by decide +kernel
theorem dX0_gain_34 : decode cX0_gain 34 = .ok (.iload 6, 2) := by decide +kernel
theorem dX0_gain_36 : decode cX0_gain 36 = .ok (.aload 5, 2) := by decide +kernel
theorem dX0_gain_38 : decode cX0_gain 38 = .ok (.invokevirtual 49, 3) := by decide +kernel
theorem dX0_gain_41 : decode cX0_gain 41 = .ok (.iadd, 1) := by decide +kernel
theorem dX0_gain_42 : decode cX0_gain 42 = .ok (.istore 6, 2) := by decide +kernel
theorem dX0_gain_44 : decode cX0_gain 44 = .ok (.iload 4, 2) := by decide +kernel
theorem dX0_gain_46 : decode cX0_gain 46 = .ok (.iconst 2, 1) := by decide +kernel
theorem dX0_gain_47 : decode cX0_gain 47 = .ok (.iand, 1) := by decide +kernel
theorem dX0_gain_48 : decode cX0_gain 48 = .ok (.ifCond .eq 15, 3) := by decide +kernel
theorem dX0_gain_51 : decode cX0_gain 51 = .ok (.aload_n 0, 1) := by decide +kernel
theorem dX0_gain_52 : decode cX0_gain 52 = .ok (.iload_n 1, 1) := by decide +kernel
theorem dX0_gain_53 : decode cX0_gain 53 = .ok (.iload_n 3, 1) := by decide +kernel
theorem dX0_gain_54 : decode cX0_gain 54 = .ok (.invokevirtual 56, 3) := by decide +kernel
theorem dX0_gain_57 : decode cX0_gain 57 = .ok (.ifCond .eq 6, 3) := by decide +kernel
theorem dX0_gain_60 : decode cX0_gain 60 = .ok (.iinc 6 5, 3) := by decide +kernel
theorem dX0_gain_63 : decode cX0_gain 63 = .ok (.iload 6, 2) := by decide +kernel
theorem dX0_gain_65 : decode cX0_gain 65 = .ok (.ireturn, 1) := by decide +kernel
theorem dX0_isLast_0 : decode cX0_isLast 0 = .ok (.iconst 0, 1) := by decide +kernel
theorem dX0_isLast_1 : decode cX0_isLast 1 = .ok (.istore_n 3, 1) := by decide +kernel
theorem dX0_isLast_2 : decode cX0_isLast 2 = .ok (.iload_n 3, 1) := by decide +kernel
theorem dX0_isLast_3 : decode cX0_isLast 3 = .ok (.aload_n 0, 1) := by decide +kernel
theorem dX0_isLast_4 : decode cX0_isLast 4 = .ok (.getfield 18, 3) := by decide +kernel
theorem dX0_isLast_7 : decode cX0_isLast 7 = .ok (.if_icmp .ge 45, 3) := by decide +kernel
theorem dX0_isLast_10 : decode cX0_isLast 10 = .ok (.iload_n 3, 1) := by decide +kernel
theorem dX0_isLast_11 : decode cX0_isLast 11 = .ok (.iload_n 1, 1) := by decide +kernel
theorem dX0_isLast_12 : decode cX0_isLast 12 = .ok (.if_icmp .eq 34, 3) := by decide +kernel
theorem dX0_isLast_15 : decode cX0_isLast 15 = .ok (.aload_n 0, 1) := by decide +kernel
theorem dX0_isLast_16 : decode cX0_isLast 16 = .ok (.getfield 11, 3) := by decide +kernel
theorem dX0_isLast_19 : decode cX0_isLast 19 = .ok (.iload_n 3, 1) := by decide +kernel
theorem dX0_isLast_20 : decode cX0_isLast 20 = .ok (.aaload, 1) := by decide +kernel
theorem dX0_isLast_21 : decode cX0_isLast 21 = .ok (.getfield 59, 3) := by decide +kernel
theorem dX0_isLast_24 : decode cX0_isLast 24 = .ok (.aload_n 0, 1) := by decide +kernel
theorem dX0_isLast_25 : decode cX0_isLast 25 = .ok (.getfield 11, 3) := by decide +kernel
theorem dX0_isLast_28 : decode cX0_isLast 28 = .ok (.iload_n 1, 1) := by decide +kernel
theorem dX0_isLast_29 : decode cX0_isLast 29 = .ok (.aaload, 1) := by decide +kernel
theorem dX0_isLast_30 : decode cX0_isLast 30 = .ok (.getfield 59, 3) := by decide +kernel
theorem dX0_isLast_33 : decode cX0_isLast 33 = .ok (.if_icmp .ne 13, 3) := by decide +kernel
theorem dX0_isLast_36 : decode cX0_isLast 36 = .ok (.iload_n 2, 1) := by decide +kernel
theorem dX0_isLast_37 : decode cX0_isLast 37 = .ok (.iload_n 3, 1) := by decide +kernel
theorem dX0_isLast_38 : decode cX0_isLast 38 = .ok (.invokestatic 33, 3) := by decide +kernel
theorem dX0_isLast_41 : decode cX0_isLast 41 = .ok (.ifCond .ne 5, 3) := by decide +kernel
theorem dX0_isLast_44 : decode cX0_isLast 44 = .ok (.iconst 0, 1) := by decide +kernel
theorem dX0_isLast_45 : decode cX0_isLast 45 = .ok (.ireturn, 1) := by decide +kernel
theorem dX0_isLast_46 : decode cX0_isLast 46 = .ok (.iinc 3 1, 3) := by decide +kernel
theorem dX0_isLast_49 : decode cX0_isLast 49 = .ok (.goto (-47), 3) := by decide +kernel
theorem dX0_isLast_52 : decode cX0_isLast 52 = .ok (.iconst 1, 1) := by decide +kernel
theorem dX0_isLast_53 : decode cX0_isLast 53 = .ok (.ireturn, 1) := by decide +kernel
theorem dX0_missedByTake_0 : decode cX0_missedByTake 0 = .ok (.aload_n 0, 1) := by decide +kernel
theorem dX0_missedByTake_1 : decode cX0_missedByTake 1 = .ok (.getfield 11, 3) := by decide +kernel
theorem dX0_missedByTake_4 : decode cX0_missedByTake 4 = .ok (.iload_n 1, 1) := by decide +kernel
theorem dX0_missedByTake_5 : decode cX0_missedByTake 5 = .ok (.aaload, 1) := by decide +kernel
theorem dX0_missedByTake_6 : decode cX0_missedByTake 6 = .ok (.getfield 53, 3) := by decide +kernel
theorem dX0_missedByTake_9 : decode cX0_missedByTake 9 = .ok (.aload_n 0, 1) := by decide +kernel
theorem dX0_missedByTake_10 : decode cX0_missedByTake 10 = .ok (.getfield 11, 3) := by decide +kernel
theorem dX0_missedByTake_13 : decode cX0_missedByTake 13 = .ok (.iload_n 1, 1) := by decide +kernel
theorem dX0_missedByTake_14 : decode cX0_missedByTake 14 = .ok (.aaload, 1) := by decide +kernel
theorem dX0_missedByTake_15 : decode cX0_missedByTake 15 = .ok (.iload_n 2, 1) := by decide +kernel
theorem dX0_missedByTake_16 : decode cX0_missedByTake 16 = .ok (.invokevirtual 45, 3) := by decide +kernel
theorem dX0_missedByTake_19 : decode cX0_missedByTake 19 = .ok (.iand, 1) := by decide +kernel
theorem dX0_missedByTake_20 : decode cX0_missedByTake 20 = .ok (.invokestatic 62, 3) := by decide +kernel
theorem dX0_missedByTake_23 : decode cX0_missedByTake 23 = .ok (.ireturn, 1) := by decide +kernel
theorem dX1_init_0 : decode cX1_init 0 = .ok (.aload_n 0, 1) := by decide +kernel
theorem dX1_init_1 : decode cX1_init 1 = .ok (.invokespecial 3, 3) := by decide +kernel
theorem dX1_init_4 : decode cX1_init 4 = .ok (.aload_n 0, 1) := by decide +kernel
theorem dX1_init_5 : decode cX1_init 5 = .ok (.bipush 8, 2) := by decide +kernel
theorem dX1_init_7 : decode cX1_init 7 = .ok (.newarray .int, 2) := by decide +kernel
theorem dX1_init_9 : decode cX1_init 9 = .ok (.putfield 9, 3) := by decide +kernel
theorem dX1_init_12 : decode cX1_init 12 = .ok (.aload_n 0, 1) := by decide +kernel
theorem dX1_init_13 : decode cX1_init 13 = .ok (.bipush 8, 2) := by decide +kernel
theorem dX1_init_15 : decode cX1_init 15 = .ok (.newarray .int, 2) := by decide +kernel
theorem dX1_init_17 : decode cX1_init 17 = .ok (.putfield 15, 3) := by decide +kernel
theorem dX1_init_20 : decode cX1_init 20 = .ok (.aload_n 0, 1) := by decide +kernel
theorem dX1_init_21 : decode cX1_init 21 = .ok (.bipush 8, 2) := by decide +kernel
theorem dX1_init_23 : decode cX1_init 23 = .ok (.newarray .boolean, 2) := by decide +kernel
theorem dX1_init_25 : decode cX1_init 25 = .ok (.putfield 18, 3) := by decide +kernel
theorem dX1_init_28 : decode cX1_init 28 = .ok (.return_, 1) := by decide +kernel
theorem dX1_add_0 : decode cX1_add 0 = .ok (.aload_n 0, 1) := by decide +kernel
theorem dX1_add_1 : decode cX1_add 1 = .ok (.getfield 22, 3) := by decide +kernel
theorem dX1_add_4 : decode cX1_add 4 = .ok (.bipush 8, 2) := by decide +kernel
theorem dX1_add_6 : decode cX1_add 6 = .ok (.if_icmp .lt 6, 3) := by decide +kernel
theorem dX1_add_9 : decode cX1_add 9 = .ok (.bipush (-4), 2) := by decide +kernel
theorem dX1_add_11 : decode cX1_add 11 = .ok (.ireturn, 1) := by decide +kernel
theorem dX1_add_12 : decode cX1_add 12 = .ok (.aload_n 0, 1) := by decide +kernel
theorem dX1_add_13 : decode cX1_add 13 = .ok (.getfield 9, 3) := by decide +kernel
theorem dX1_add_16 : decode cX1_add 16 = .ok (.aload_n 0, 1) := by decide +kernel
theorem dX1_add_17 : decode cX1_add 17 = .ok (.getfield 22, 3) := by decide +kernel
theorem dX1_add_20 : decode cX1_add 20 = .ok (.iload_n 1, 1) := by decide +kernel
theorem dX1_add_21 : decode cX1_add 21 = .ok (.iastore, 1) := by decide +kernel
theorem dX1_add_22 : decode cX1_add 22 = .ok (.aload_n 0, 1) := by decide +kernel
theorem dX1_add_23 : decode cX1_add 23 = .ok (.getfield 15, 3) := by decide +kernel
theorem dX1_add_26 : decode cX1_add 26 = .ok (.aload_n 0, 1) := by decide +kernel
theorem dX1_add_27 : decode cX1_add 27 = .ok (.getfield 22, 3) := by decide +kernel
theorem dX1_add_30 : decode cX1_add 30 = .ok (.iload_n 2, 1) := by decide +kernel
theorem dX1_add_31 : decode cX1_add 31 = .ok (.iastore, 1) := by decide +kernel
theorem dX1_add_32 : decode cX1_add 32 = .ok (.aload_n 0, 1) := by decide +kernel
theorem dX1_add_33 : decode cX1_add 33 = .ok (.getfield 18, 3) := by decide +kernel
theorem dX1_add_36 : decode cX1_add 36 = .ok (.aload_n 0, 1) := by decide +kernel
theorem dX1_add_37 : decode cX1_add 37 = .ok (.getfield 22, 3) := by decide +kernel
theorem dX1_add_40 : decode cX1_add 40 = .ok (.iload_n 3, 1) := by decide +kernel
theorem dX1_add_41 : decode cX1_add 41 = .ok (.bastore, 1) := by decide +kernel
theorem dX1_add_42 : decode cX1_add 42 = .ok (.aload_n 0, 1) := by decide +kernel
theorem dX1_add_43 : decode cX1_add 43 = .ok (.dup, 1) := by decide +kernel
theorem dX1_add_44 : decode cX1_add 44 = .ok (.getfield 22, 3) := by decide +kernel
theorem dX1_add_47 : decode cX1_add 47 = .ok (.dup_x1, 1) := by decide +kernel
theorem dX1_add_48 : decode cX1_add 48 = .ok (.iconst 1, 1) := by decide +kernel
theorem dX1_add_49 : decode cX1_add 49 = .ok (.iadd, 1) := by decide +kernel
theorem dX1_add_50 : decode cX1_add 50 = .ok (.putfield 22, 3) := by decide +kernel
theorem dX1_add_53 : decode cX1_add 53 = .ok (.ireturn, 1) := by decide +kernel
theorem dX1_bind_0 : decode cX1_bind 0 = .ok (.iconst 0, 1) := by decide +kernel
theorem dX1_bind_1 : decode cX1_bind 1 = .ok (.istore_n 2, 1) := by decide +kernel
theorem dX1_bind_2 : decode cX1_bind 2 = .ok (.iload_n 2, 1) := by decide +kernel
theorem dX1_bind_3 : decode cX1_bind 3 = .ok (.aload_n 0, 1) := by decide +kernel
theorem dX1_bind_4 : decode cX1_bind 4 = .ok (.getfield 22, 3) := by decide +kernel
theorem dX1_bind_7 : decode cX1_bind 7 = .ok (.if_icmp .ge 49, 3) := by decide +kernel
theorem dX1_bind_10 : decode cX1_bind 10 = .ok (.aload_n 0, 1) := by decide +kernel
theorem dX1_bind_11 : decode cX1_bind 11 = .ok (.getfield 18, 3) := by decide +kernel
theorem dX1_bind_14 : decode cX1_bind 14 = .ok (.iload_n 2, 1) := by decide +kernel
theorem dX1_bind_15 : decode cX1_bind 15 = .ok (.baload, 1) := by decide +kernel
theorem dX1_bind_16 : decode cX1_bind 16 = .ok (.ifCond .eq 10, 3) := by decide +kernel
theorem dX1_bind_19 : decode cX1_bind 19 = .ok (.aload_n 1, 1) := by decide +kernel
theorem dX1_bind_20 : decode cX1_bind 20 = .ok (.getfield 26, 3) := by decide +kernel
theorem dX1_bind_23 : decode cX1_bind 23 = .ok (.goto 7, 3) := by decide +kernel
theorem dX1_bind_26 : decode cX1_bind 26 = .ok (.aload_n 1, 1) := by decide +kernel
theorem dX1_bind_27 : decode cX1_bind 27 = .ok (.getfield 31, 3) := by decide +kernel
theorem dX1_bind_30 : decode cX1_bind 30 = .ok (.astore_n 3, 1) := by decide +kernel
theorem dX1_bind_31 : decode cX1_bind 31 = .ok (.aload_n 3, 1) := by decide +kernel
theorem dX1_bind_32 : decode cX1_bind 32 = .ok (.aload_n 0, 1) := by decide +kernel
theorem dX1_bind_33 : decode cX1_bind 33 = .ok (.getfield 15, 3) := by decide +kernel
theorem dX1_bind_36 : decode cX1_bind 36 = .ok (.iload_n 2, 1) := by decide +kernel
theorem dX1_bind_37 : decode cX1_bind 37 = .ok (.iaload, 1) := by decide +kernel
theorem dX1_bind_38 : decode cX1_bind 38 = .ok (.dup2, 1) := by decide +kernel
theorem dX1_bind_39 : decode cX1_bind 39 = .ok (.iaload, 1) := by decide +kernel
theorem dX1_bind_40 : decode cX1_bind 40 = .ok (.iconst 1, 1) := by decide +kernel
theorem dX1_bind_41 : decode cX1_bind 41 = .ok (.aload_n 0, 1) := by decide +kernel
theorem dX1_bind_42 : decode cX1_bind 42 = .ok (.getfield 9, 3) := by decide +kernel
theorem dX1_bind_45 : decode cX1_bind 45 = .ok (.iload_n 2, 1) := by decide +kernel
theorem dX1_bind_46 : decode cX1_bind 46 = .ok (.iaload, 1) := by decide +kernel
theorem dX1_bind_47 : decode cX1_bind 47 = .ok (.ishl, 1) := by decide +kernel
theorem dX1_bind_48 : decode cX1_bind 48 = .ok (.ior, 1) := by decide +kernel
theorem dX1_bind_49 : decode cX1_bind 49 = .ok (.iastore, 1) := by decide +kernel
theorem dX1_bind_50 : decode cX1_bind 50 = .ok (.iinc 2 1, 3) := by decide +kernel
theorem dX1_bind_53 : decode cX1_bind 53 = .ok (.goto (-51), 3) := by decide +kernel
theorem dX1_bind_56 : decode cX1_bind 56 = .ok (.return_, 1) := by decide +kernel
theorem dX2_init_0 : decode cX2_init 0 = .ok (.aload_n 0, 1) := by decide +kernel
theorem dX2_init_1 : decode cX2_init 1 = .ok (.invokespecial 3, 3) := by decide +kernel
theorem dX2_init_4 : decode cX2_init 4 = .ok (.aload_n 0, 1) := by decide +kernel
theorem dX2_init_5 : decode cX2_init 5 = .ok (.bipush 6, 2) := by decide +kernel
theorem dX2_init_7 : decode cX2_init 7 = .ok (.newarray .int, 2) := by decide +kernel
theorem dX2_init_9 : decode cX2_init 9 = .ok (.putfield 9, 3) := by decide +kernel
theorem dX2_init_12 : decode cX2_init 12 = .ok (.aload_n 0, 1) := by decide +kernel
theorem dX2_init_13 : decode cX2_init 13 = .ok (.bipush 6, 2) := by decide +kernel
theorem dX2_init_15 : decode cX2_init 15 = .ok (.newarray .int, 2) := by decide +kernel
theorem dX2_init_17 : decode cX2_init 17 = .ok (.putfield 15, 3) := by decide +kernel
theorem dX2_init_20 : decode cX2_init 20 = .ok (.aload_n 0, 1) := by decide +kernel
theorem dX2_init_21 : decode cX2_init 21 = .ok (.bipush 6, 2) := by decide +kernel
theorem dX2_init_23 : decode cX2_init 23 = .ok (.newarray .int, 2) := by decide +kernel
theorem dX2_init_25 : decode cX2_init 25 = .ok (.putfield 18, 3) := by decide +kernel
theorem dX2_init_28 : decode cX2_init 28 = .ok (.aload_n 0, 1) := by decide +kernel
theorem dX2_init_29 : decode cX2_init 29 = .ok (.bipush 6, 2) := by decide +kernel
theorem dX2_init_31 : decode cX2_init 31 = .ok (.newarray .int, 2) := by decide +kernel
theorem dX2_init_33 : decode cX2_init 33 = .ok (.putfield 21, 3) := by decide +kernel
theorem dX2_init_36 : decode cX2_init 36 = .ok (.aload_n 0, 1) := by decide +kernel
theorem dX2_init_37 : decode cX2_init 37 = .ok (.bipush 6, 2) := by decide +kernel
theorem dX2_init_39 : decode cX2_init 39 = .ok (.newarray .int, 2) := by decide +kernel
theorem dX2_init_41 : decode cX2_init 41 = .ok (.putfield 24, 3) := by decide +kernel
theorem dX2_init_44 : decode cX2_init 44 = .ok (.aload_n 0, 1) := by decide +kernel
theorem dX2_init_45 : decode cX2_init 45 = .ok (.bipush 6, 2) := by decide +kernel
theorem dX2_init_47 : decode cX2_init 47 = .ok (.newarray .int, 2) := by decide +kernel
theorem dX2_init_49 : decode cX2_init 49 = .ok (.putfield 27, 3) := by decide +kernel
theorem dX2_init_52 : decode cX2_init 52 = .ok (.return_, 1) := by decide +kernel
theorem dX2_clear_0 : decode cX2_clear 0 = .ok (.iconst 0, 1) := by decide +kernel
theorem dX2_clear_1 : decode cX2_clear 1 = .ok (.istore_n 1, 1) := by decide +kernel
theorem dX2_clear_2 : decode cX2_clear 2 = .ok (.iload_n 1, 1) := by decide +kernel
theorem dX2_clear_3 : decode cX2_clear 3 = .ok (.bipush 6, 2) := by decide +kernel
theorem dX2_clear_5 : decode cX2_clear 5 = .ok (.if_icmp .ge 54, 3) := by decide +kernel
theorem dX2_clear_8 : decode cX2_clear 8 = .ok (.aload_n 0, 1) := by decide +kernel
theorem dX2_clear_9 : decode cX2_clear 9 = .ok (.getfield 9, 3) := by decide +kernel
theorem dX2_clear_12 : decode cX2_clear 12 = .ok (.iload_n 1, 1) := by decide +kernel
theorem dX2_clear_13 : decode cX2_clear 13 = .ok (.bipush (-9), 2) := by decide +kernel
theorem dX2_clear_15 : decode cX2_clear 15 = .ok (.iastore, 1) := by decide +kernel
theorem dX2_clear_16 : decode cX2_clear 16 = .ok (.aload_n 0, 1) := by decide +kernel
theorem dX2_clear_17 : decode cX2_clear 17 = .ok (.getfield 15, 3) := by decide +kernel
theorem dX2_clear_20 : decode cX2_clear 20 = .ok (.iload_n 1, 1) := by decide +kernel
theorem dX2_clear_21 : decode cX2_clear 21 = .ok (.bipush (-9), 2) := by decide +kernel
theorem dX2_clear_23 : decode cX2_clear 23 = .ok (.iastore, 1) := by decide +kernel
theorem dX2_clear_24 : decode cX2_clear 24 = .ok (.aload_n 0, 1) := by decide +kernel
theorem dX2_clear_25 : decode cX2_clear 25 = .ok (.getfield 18, 3) := by decide +kernel
theorem dX2_clear_28 : decode cX2_clear 28 = .ok (.iload_n 1, 1) := by decide +kernel
theorem dX2_clear_29 : decode cX2_clear 29 = .ok (.bipush (-9), 2) := by decide +kernel
theorem dX2_clear_31 : decode cX2_clear 31 = .ok (.iastore, 1) := by decide +kernel
theorem dX2_clear_32 : decode cX2_clear 32 = .ok (.aload_n 0, 1) := by decide +kernel
theorem dX2_clear_33 : decode cX2_clear 33 = .ok (.getfield 21, 3) := by decide +kernel
theorem dX2_clear_36 : decode cX2_clear 36 = .ok (.iload_n 1, 1) := by decide +kernel
theorem dX2_clear_37 : decode cX2_clear 37 = .ok (.iconst 0, 1) := by decide +kernel
theorem dX2_clear_38 : decode cX2_clear 38 = .ok (.iastore, 1) := by decide +kernel
theorem dX2_clear_39 : decode cX2_clear 39 = .ok (.aload_n 0, 1) := by decide +kernel
theorem dX2_clear_40 : decode cX2_clear 40 = .ok (.getfield 24, 3) := by decide +kernel
theorem dX2_clear_43 : decode cX2_clear 43 = .ok (.iload_n 1, 1) := by decide +kernel
theorem dX2_clear_44 : decode cX2_clear 44 = .ok (.iconst 0, 1) := by decide +kernel
theorem dX2_clear_45 : decode cX2_clear 45 = .ok (.iastore, 1) := by decide +kernel
theorem dX2_clear_46 : decode cX2_clear 46 = .ok (.aload_n 0, 1) := by decide +kernel
theorem dX2_clear_47 : decode cX2_clear 47 = .ok (.getfield 27, 3) := by decide +kernel
theorem dX2_clear_50 : decode cX2_clear 50 = .ok (.iload_n 1, 1) := by decide +kernel
theorem dX2_clear_51 : decode cX2_clear 51 = .ok (.iconst 0, 1) := by decide +kernel
theorem dX2_clear_52 : decode cX2_clear 52 = .ok (.iastore, 1) := by decide +kernel
theorem dX2_clear_53 : decode cX2_clear 53 = .ok (.iinc 1 1, 3) := by decide +kernel
theorem dX2_clear_56 : decode cX2_clear 56 = .ok (.goto (-54), 3) := by decide +kernel
theorem dX2_clear_59 : decode cX2_clear 59 = .ok (.aload_n 0, 1) := by decide +kernel
theorem dX2_clear_60 : decode cX2_clear 60 = .ok (.bipush (-9), 2) := by decide +kernel
theorem dX2_clear_62 : decode cX2_clear 62 = .ok (.putfield 30, 3) := by decide +kernel
theorem dX2_clear_65 : decode cX2_clear 65 = .ok (.aload_n 0, 1) := by decide +kernel
theorem dX2_clear_66 : decode cX2_clear 66 = .ok (.bipush 30, 2) := by decide +kernel
theorem dX2_clear_68 : decode cX2_clear 68 = .ok (.putfield 34, 3) := by decide +kernel
theorem dX2_clear_71 : decode cX2_clear 71 = .ok (.aload_n 0, 1) := by decide +kernel
theorem dX2_clear_72 : decode cX2_clear 72 = .ok (.iconst 0, 1) := by decide +kernel
theorem dX2_clear_73 : decode cX2_clear 73 = .ok (.putfield 37, 3) := by decide +kernel
theorem dX2_clear_76 : decode cX2_clear 76 = .ok (.aload_n 0, 1) := by decide +kernel
theorem dX2_clear_77 : decode cX2_clear 77 = .ok (.iconst 0, 1) := by decide +kernel
theorem dX2_clear_78 : decode cX2_clear 78 = .ok (.putfield 40, 3) := by decide +kernel
theorem dX2_clear_81 : decode cX2_clear 81 = .ok (.aload_n 0, 1) := by decide +kernel
theorem dX2_clear_82 : decode cX2_clear 82 = .ok (.iconst 0, 1) := by decide +kernel
theorem dX2_clear_83 : decode cX2_clear 83 = .ok (.putfield 43, 3) := by decide +kernel
theorem dX2_clear_86 : decode cX2_clear 86 = .ok (.return_, 1) := by decide +kernel
theorem dX2_fits_0 : decode cX2_fits 0 = .ok (.aload_n 0, 1) := by decide +kernel
theorem dX2_fits_1 : decode cX2_fits 1 = .ok (.getfield 24, 3) := by decide +kernel
theorem dX2_fits_4 : decode cX2_fits 4 = .ok (.iload_n 1, 1) := by decide +kernel
theorem dX2_fits_5 : decode cX2_fits 5 = .ok (.iaload, 1) := by decide +kernel
theorem dX2_fits_6 : decode cX2_fits 6 = .ok (.iload_n 2, 1) := by decide +kernel
theorem dX2_fits_7 : decode cX2_fits 7 = .ok (.iconst (-1), 1) := by decide +kernel
theorem dX2_fits_8 : decode cX2_fits 8 = .ok (.ixor, 1) := by decide +kernel
theorem dX2_fits_9 : decode cX2_fits 9 = .ok (.iand, 1) := by decide +kernel
theorem dX2_fits_10 : decode cX2_fits 10 = .ok (.ifCond .ne 18, 3) := by decide +kernel
theorem dX2_fits_13 : decode cX2_fits 13 = .ok (.aload_n 0, 1) := by decide +kernel
theorem dX2_fits_14 : decode cX2_fits 14 = .ok (.getfield 27, 3) := by decide +kernel
theorem dX2_fits_17 : decode cX2_fits 17 = .ok (.iload_n 1, 1) := by decide +kernel
theorem dX2_fits_18 : decode cX2_fits 18 = .ok (.iaload, 1) := by decide +kernel
theorem dX2_fits_19 : decode cX2_fits 19 = .ok (.iload_n 2, 1) := by decide +kernel
theorem dX2_fits_20 : decode cX2_fits 20 = .ok (.iand, 1) := by decide +kernel
theorem dX2_fits_21 : decode cX2_fits 21 = .ok (.ifCond .ne 7, 3) := by decide +kernel
theorem dX2_fits_24 : decode cX2_fits 24 = .ok (.iconst 1, 1) := by decide +kernel
theorem dX2_fits_25 : decode cX2_fits 25 = .ok (.goto 4, 3) := by decide +kernel
theorem dX2_fits_28 : decode cX2_fits 28 = .ok (.iconst 0, 1) := by decide +kernel
theorem dX2_fits_29 : decode cX2_fits 29 = .ok (.ireturn, 1) := by decide +kernel
theorem dX2_arrive_0 : decode cX2_arrive 0 = .ok (.iload_n 1, 1) := by decide +kernel
theorem dX2_arrive_1 : decode cX2_arrive 1 = .ok (.iload_n 3, 1) := by decide +kernel
theorem dX2_arrive_2 : decode cX2_arrive 2 = .ok (.iload_n 2, 1) := by decide +kernel
theorem dX2_arrive_3 : decode cX2_arrive 3 = .ok (.imul, 1) := by decide +kernel
theorem dX2_arrive_4 : decode cX2_arrive 4 = .ok (.isub, 1) := by decide +kernel
theorem dX2_arrive_5 : decode cX2_arrive 5 = .ok (.istore 4, 2) := by decide +kernel
theorem dX2_arrive_7 : decode cX2_arrive 7 = .ok (.aload_n 0, 1) := by decide +kernel
theorem dX2_arrive_8 : decode cX2_arrive 8 = .ok (.getfield 37, 3) := by decide +kernel
theorem dX2_arrive_11 : decode cX2_arrive 11 = .ok (.ifCond .ne 18, 3) := by decide +kernel
theorem dX2_arrive_14 : decode cX2_arrive 14 = .ok (.aload_n 0, 1) := by decide +kernel
theorem dX2_arrive_15 : decode cX2_arrive 15 = .ok (.getfield 9, 3) := by decide +kernel
theorem dX2_arrive_18 : decode cX2_arrive 18 = .ok (.iconst 0, 1) := by decide +kernel
theorem dX2_arrive_19 : decode cX2_arrive 19 = .ok (.aload_n 0, 1) := by decide +kernel
theorem dX2_arrive_20 : decode cX2_arrive 20 = .ok (.getfield 15, 3) := by decide +kernel
theorem dX2_arrive_23 : decode cX2_arrive 23 = .ok (.iconst 0, 1) := by decide +kernel
theorem dX2_arrive_24 : decode cX2_arrive 24 = .ok (.bipush 6, 2) := by decide +kernel
theorem dX2_arrive_26 : decode cX2_arrive 26 = .ok (.invokestatic 46, 3) := by decide +kernel
theorem dX2_arrive_29 : decode cX2_arrive 29 = .ok (.aload_n 0, 1) := by decide +kernel
theorem dX2_arrive_30 : decode cX2_arrive 30 = .ok (.getfield 37, 3) := by decide +kernel
theorem dX2_arrive_33 : decode cX2_arrive 33 = .ok (.ifCond .eq 12, 3) := by decide +kernel
theorem dX2_arrive_36 : decode cX2_arrive 36 = .ok (.iload 4, 2) := by decide +kernel
theorem dX2_arrive_38 : decode cX2_arrive 38 = .ok (.aload_n 0, 1) := by decide +kernel
theorem dX2_arrive_39 : decode cX2_arrive 39 = .ok (.getfield 40, 3) := by decide +kernel
theorem dX2_arrive_42 : decode cX2_arrive 42 = .ok (.if_icmp .le 24, 3) := by decide +kernel
theorem dX2_arrive_45 : decode cX2_arrive 45 = .ok (.aload_n 0, 1) := by decide +kernel
theorem dX2_arrive_46 : decode cX2_arrive 46 = .ok (.iload 4, 2) := by decide +kernel
theorem dX2_arrive_48 : decode cX2_arrive 48 = .ok (.putfield 40, 3) := by decide +kernel
theorem dX2_arrive_51 : decode cX2_arrive 51 = .ok (.aload_n 0, 1) := by decide +kernel
theorem dX2_arrive_52 : decode cX2_arrive 52 = .ok (.getfield 9, 3) := by decide +kernel
theorem dX2_arrive_55 : decode cX2_arrive 55 = .ok (.iconst 0, 1) := by decide +kernel
theorem dX2_arrive_56 : decode cX2_arrive 56 = .ok (.aload_n 0, 1) := by decide +kernel
theorem dX2_arrive_57 : decode cX2_arrive 57 = .ok (.getfield 18, 3) := by decide +kernel
theorem dX2_arrive_60 : decode cX2_arrive 60 = .ok (.iconst 0, 1) := by decide +kernel
theorem dX2_arrive_61 : decode cX2_arrive 61 = .ok (.bipush 6, 2) := by decide +kernel
theorem dX2_arrive_63 : decode cX2_arrive 63 = .ok (.invokestatic 46, 3) := by decide +kernel
theorem dX2_arrive_66 : decode cX2_arrive 66 = .ok (.iload_n 2, 1) := by decide +kernel
theorem dX2_arrive_67 : decode cX2_arrive 67 = .ok (.aload_n 0, 1) := by decide +kernel
theorem dX2_arrive_68 : decode cX2_arrive 68 = .ok (.getfield 34, 3) := by decide +kernel
theorem dX2_arrive_71 : decode cX2_arrive 71 = .ok (.if_icmp .gt 16, 3) := by decide +kernel
theorem dX2_arrive_74 : decode cX2_arrive 74 = .ok (.iload_n 1, 1) := by decide +kernel
theorem dX2_arrive_75 : decode cX2_arrive 75 = .ok (.aload_n 0, 1) := by decide +kernel
theorem dX2_arrive_76 : decode cX2_arrive 76 = .ok (.getfield 43, 3) := by decide +kernel
theorem dX2_arrive_79 : decode cX2_arrive 79 = .ok (.if_icmp .le 8, 3) := by decide +kernel
theorem dX2_arrive_82 : decode cX2_arrive 82 = .ok (.aload_n 0, 1) := by decide +kernel
theorem dX2_arrive_83 : decode cX2_arrive 83 = .ok (.iload_n 1, 1) := by decide +kernel
theorem dX2_arrive_84 : decode cX2_arrive 84 = .ok (.putfield 43, 3) := by decide +kernel
theorem dX2_arrive_87 : decode cX2_arrive 87 = .ok (.aload_n 0, 1) := by decide +kernel
theorem dX2_arrive_88 : decode cX2_arrive 88 = .ok (.dup, 1) := by decide +kernel
theorem dX2_arrive_89 : decode cX2_arrive 89 = .ok (.getfield 37, 3) := by decide +kernel
theorem dX2_arrive_92 : decode cX2_arrive 92 = .ok (.iconst 1, 1) := by decide +kernel
theorem dX2_arrive_93 : decode cX2_arrive 93 = .ok (.iadd, 1) := by decide +kernel
theorem dX2_arrive_94 : decode cX2_arrive 94 = .ok (.putfield 37, 3) := by decide +kernel
theorem dX2_arrive_97 : decode cX2_arrive 97 = .ok (.return_, 1) := by decide +kernel
theorem dX2_note_0 : decode cX2_note 0 = .ok (.aload_n 0, 1) := by decide +kernel
theorem dX2_note_1 : decode cX2_note 1 = .ok (.getfield 37, 3) := by decide +kernel
theorem dX2_note_4 : decode cX2_note 4 = .ok (.iload_n 3, 1) := by decide +kernel
theorem dX2_note_5 : decode cX2_note 5 = .ok (.if_icmp .le 15, 3) := by decide +kernel
theorem dX2_note_8 : decode cX2_note 8 = .ok (.aload_n 0, 1) := by decide +kernel
theorem dX2_note_9 : decode cX2_note 9 = .ok (.getfield 21, 3) := by decide +kernel
theorem dX2_note_12 : decode cX2_note 12 = .ok (.iload_n 1, 1) := by decide +kernel
theorem dX2_note_13 : decode cX2_note 13 = .ok (.dup2, 1) := by decide +kernel
theorem dX2_note_14 : decode cX2_note 14 = .ok (.iaload, 1) := by decide +kernel
theorem dX2_note_15 : decode cX2_note 15 = .ok (.iconst 1, 1) := by decide +kernel
theorem dX2_note_16 : decode cX2_note 16 = .ok (.iload_n 2, 1) := by decide +kernel
theorem dX2_note_17 : decode cX2_note 17 = .ok (.ishl, 1) := by decide +kernel
theorem dX2_note_18 : decode cX2_note 18 = .ok (.ior, 1) := by decide +kernel
theorem dX2_note_19 : decode cX2_note 19 = .ok (.iastore, 1) := by decide +kernel
theorem dX2_note_20 : decode cX2_note 20 = .ok (.return_, 1) := by decide +kernel
theorem dX3_init_0 : decode cX3_init 0 = .ok (.aload_n 0, 1) := by decide +kernel
theorem dX3_init_1 : decode cX3_init 1 = .ok (.invokespecial 3, 3) := by decide +kernel
theorem dX3_init_4 : decode cX3_init 4 = .ok (.aload_n 0, 1) := by decide +kernel
theorem dX3_init_5 : decode cX3_init 5 = .ok (.bipush 60, 2) := by decide +kernel
theorem dX3_init_7 : decode cX3_init 7 = .ok (.newarray .int, 2) := by decide +kernel
theorem dX3_init_9 : decode cX3_init 9 = .ok (.putfield 9, 3) := by decide +kernel
theorem dX3_init_12 : decode cX3_init 12 = .ok (.return_, 1) := by decide +kernel
theorem dX3_begin_0 : decode cX3_begin 0 = .ok (.aload_n 0, 1) := by decide +kernel
theorem dX3_begin_1 : decode cX3_begin 1 = .ok (.iconst 1, 1) := by decide +kernel
theorem dX3_begin_2 : decode cX3_begin 2 = .ok (.putfield 15, 3) := by decide +kernel
theorem dX3_begin_5 : decode cX3_begin 5 = .ok (.aload_n 0, 1) := by decide +kernel
theorem dX3_begin_6 : decode cX3_begin 6 = .ok (.iload_n 1, 1) := by decide +kernel
theorem dX3_begin_7 : decode cX3_begin 7 = .ok (.putfield 19, 3) := by decide +kernel
theorem dX3_begin_10 : decode cX3_begin 10 = .ok (.aload_n 0, 1) := by decide +kernel
theorem dX3_begin_11 : decode cX3_begin 11 = .ok (.iload_n 2, 1) := by decide +kernel
theorem dX3_begin_12 : decode cX3_begin 12 = .ok (.putfield 23, 3) := by decide +kernel
theorem dX3_begin_15 : decode cX3_begin 15 = .ok (.iconst 0, 1) := by decide +kernel
theorem dX3_begin_16 : decode cX3_begin 16 = .ok (.istore_n 3, 1) := by decide +kernel
theorem dX3_begin_17 : decode cX3_begin 17 = .ok (.iload_n 3, 1) := by decide +kernel
theorem dX3_begin_18 : decode cX3_begin 18 = .ok (.bipush 60, 2) := by decide +kernel
theorem dX3_begin_20 : decode cX3_begin 20 = .ok (.if_icmp .ge 16, 3) := by decide +kernel
theorem dX3_begin_23 : decode cX3_begin 23 = .ok (.aload_n 0, 1) := by decide +kernel
theorem dX3_begin_24 : decode cX3_begin 24 = .ok (.getfield 9, 3) := by decide +kernel
theorem dX3_begin_27 : decode cX3_begin 27 = .ok (.iload_n 3, 1) := by decide +kernel
theorem dX3_begin_28 : decode cX3_begin 28 = .ok (.iconst 0, 1) := by decide +kernel
theorem dX3_begin_29 : decode cX3_begin 29 = .ok (.iastore, 1) := by decide +kernel
theorem dX3_begin_30 : decode cX3_begin 30 = .ok (.iinc 3 1, 3) := by decide +kernel
theorem dX3_begin_33 : decode cX3_begin 33 = .ok (.goto (-16), 3) := by decide +kernel
theorem dX3_begin_36 : decode cX3_begin 36 = .ok (.return_, 1) := by decide +kernel
theorem dX3_holds_0 : decode cX3_holds 0 = .ok (.iload_n 1, 1) := by decide +kernel
theorem dX3_holds_1 : decode cX3_holds 1 = .ok (.ifCond .lt 29, 3) := by decide +kernel
theorem dX3_holds_4 : decode cX3_holds 4 = .ok (.iload_n 1, 1) := by decide +kernel
theorem dX3_holds_5 : decode cX3_holds 5 = .ok (.aload_n 0, 1) := by decide +kernel
theorem dX3_holds_6 : decode cX3_holds 6 = .ok (.getfield 23, 3) := by decide +kernel
theorem dX3_holds_9 : decode cX3_holds 9 = .ok (.if_icmp .gt 21, 3) := by decide +kernel
theorem dX3_holds_12 : decode cX3_holds 12 = .ok (.iload_n 2, 1) := by decide +kernel
theorem dX3_holds_13 : decode cX3_holds 13 = .ok (.ifCond .lt 17, 3) := by decide +kernel
theorem dX3_holds_16 : decode cX3_holds 16 = .ok (.iload_n 2, 1) := by decide +kernel
theorem dX3_holds_17 : decode cX3_holds 17 = .ok (.aload_n 0, 1) := by decide +kernel
theorem dX3_holds_18 : decode cX3_holds 18 = .ok (.getfield 23, 3) := by decide +kernel
theorem dX3_holds_21 : decode cX3_holds 21 = .ok (.iload_n 1, 1) := by decide +kernel
theorem dX3_holds_22 : decode cX3_holds 22 = .ok (.isub, 1) := by decide +kernel
theorem dX3_holds_23 : decode cX3_holds 23 = .ok (.if_icmp .gt 7, 3) := by decide +kernel
theorem dX3_holds_26 : decode cX3_holds 26 = .ok (.iconst 1, 1) := by decide +kernel
theorem dX3_holds_27 : decode cX3_holds 27 = .ok (.goto 4, 3) := by decide +kernel
theorem dX3_holds_30 : decode cX3_holds 30 = .ok (.iconst 0, 1) := by decide +kernel
theorem dX3_holds_31 : decode cX3_holds 31 = .ok (.ireturn, 1) := by decide +kernel
theorem dX3_faultOfCells_0 : decode cX3_faultOfCells 0 = .ok (.aload_n 0, 1) := by decide +kernel
theorem dX3_faultOfCells_1 : decode cX3_faultOfCells 1 = .ok (.getfield 15, 3) := by decide +kernel
theorem dX3_faultOfCells_4 : decode cX3_faultOfCells 4 = .ok (.ifCond .ne 5, 3) := by decide +kernel
theorem dX3_faultOfCells_7 : decode cX3_faultOfCells 7 = .ok (.iconst 1, 1) := by decide +kernel
theorem dX3_faultOfCells_8 : decode cX3_faultOfCells 8 = .ok (.ireturn, 1) := by decide +kernel
theorem dX3_faultOfCells_9 : decode cX3_faultOfCells 9 = .ok (.aload_n 0, 1) := by decide +kernel
theorem dX3_faultOfCells_10 : decode cX3_faultOfCells 10 = .ok (.getfield 19, 3) := by decide +kernel
theorem dX3_faultOfCells_13 : decode cX3_faultOfCells 13 = .ok (.iload_n 1, 1) := by decide +kernel
theorem dX3_faultOfCells_14 : decode cX3_faultOfCells 14 = .ok (.if_icmp .eq 5, 3) := by decide +kernel
theorem dX3_faultOfCells_17 : decode cX3_faultOfCells 17 = .ok (.iconst 2, 1) := by decide +kernel
theorem dX3_faultOfCells_18 : decode cX3_faultOfCells 18 = .ok (.ireturn, 1) := by decide +kernel
theorem dX3_faultOfCells_19 : decode cX3_faultOfCells 19 = .ok (.iload_n 3, 1) := by decide +kernel
theorem dX3_faultOfCells_20 : decode cX3_faultOfCells 20 = .ok (.ifCond .ge 5, 3) := by decide +kernel
theorem dX3_faultOfCells_23 : decode cX3_faultOfCells 23 = .ok (.iconst 4, 1) := by decide +kernel
theorem dX3_faultOfCells_24 : decode cX3_faultOfCells 24 = .ok (.ireturn, 1) := by decide +kernel
theorem dX3_faultOfCells_25 : decode cX3_faultOfCells 25 = .ok (.aload_n 0, 1) := by decide +kernel
theorem dX3_faultOfCells_26 : decode cX3_faultOfCells 26 = .ok (.iload_n 2, 1) := by decide +kernel
theorem dX3_faultOfCells_27 : decode cX3_faultOfCells 27 = .ok (.iload_n 3, 1) := by decide +kernel
theorem dX3_faultOfCells_28 : decode cX3_faultOfCells 28 = .ok (.invokevirtual 26, 3) := by decide +kernel
theorem dX3_faultOfCells_31 : decode cX3_faultOfCells 31 = .ok (.ifCond .eq 7, 3) := by decide +kernel
theorem dX3_faultOfCells_34 : decode cX3_faultOfCells 34 = .ok (.iconst 0, 1) := by decide +kernel
theorem dX3_faultOfCells_35 : decode cX3_faultOfCells 35 = .ok (.goto 4, 3) := by decide +kernel
theorem dX3_faultOfCells_38 : decode cX3_faultOfCells 38 = .ok (.iconst 3, 1) := by decide +kernel
theorem dX3_faultOfCells_39 : decode cX3_faultOfCells 39 = .ok (.ireturn, 1) := by decide +kernel
theorem dX3_cut_0 : decode cX3_cut 0 = .ok (.aload_n 0, 1) := by decide +kernel
theorem dX3_cut_1 : decode cX3_cut 1 = .ok (.getfield 19, 3) := by decide +kernel
theorem dX3_cut_4 : decode cX3_cut 4 = .ok (.ifCond .ne 6, 3) := by decide +kernel
theorem dX3_cut_7 : decode cX3_cut 7 = .ok (.iload_n 1, 1) := by decide +kernel
theorem dX3_cut_8 : decode cX3_cut 8 = .ok (.i2b, 1) := by decide +kernel
theorem dX3_cut_9 : decode cX3_cut 9 = .ok (.ireturn, 1) := by decide +kernel
theorem dX3_cut_10 : decode cX3_cut 10 = .ok (.aload_n 0, 1) := by decide +kernel
theorem dX3_cut_11 : decode cX3_cut 11 = .ok (.getfield 19, 3) := by decide +kernel
theorem dX3_cut_14 : decode cX3_cut 14 = .ok (.iconst 1, 1) := by decide +kernel
theorem dX3_cut_15 : decode cX3_cut 15 = .ok (.if_icmp .ne 8, 3) := by decide +kernel
theorem dX3_cut_18 : decode cX3_cut 18 = .ok (.iload_n 1, 1) := by decide +kernel
theorem dX3_cut_19 : decode cX3_cut 19 = .ok (.i2s, 1) := by decide +kernel
theorem dX3_cut_20 : decode cX3_cut 20 = .ok (.goto 4, 3) := by decide +kernel
theorem dX3_cut_23 : decode cX3_cut 23 = .ok (.iload_n 1, 1) := by decide +kernel
theorem dX3_cut_24 : decode cX3_cut 24 = .ok (.ireturn, 1) := by decide +kernel
theorem dX4_firstFault_0 : decode cX4_firstFault 0 = .ok (.iconst 0, 1) := by decide +kernel
theorem dX4_firstFault_1 : decode cX4_firstFault 1 = .ok (.istore_n 3, 1) := by decide +kernel
theorem dX4_firstFault_2 : decode cX4_firstFault 2 = .ok (.iconst 0, 1) := by decide +kernel
theorem dX4_firstFault_3 : decode cX4_firstFault 3 = .ok (.istore 4, 2) := by decide +kernel
theorem dX4_firstFault_5 : decode cX4_firstFault 5 = .ok (.iload 4, 2) := by decide +kernel
theorem dX4_firstFault_7 : decode cX4_firstFault 7 = .ok (.iload_n 2, 1) := by decide +kernel
theorem dX4_firstFault_8 : decode cX4_firstFault 8 = .ok (.if_icmp .ge 34, 3) := by decide +kernel
theorem dX4_firstFault_11 : decode cX4_firstFault 11 = .ok (.aload_n 0, 1) := by decide +kernel
theorem dX4_firstFault_12 : decode cX4_firstFault 12 = .ok (.iload_n 1, 1) := by decide +kernel
theorem dX4_firstFault_13 : decode cX4_firstFault 13 = .ok (.iload 4, 2) := by decide +kernel
theorem dX4_firstFault_15 : decode cX4_firstFault 15 = .ok (.iadd, 1) := by decide +kernel
theorem dX4_firstFault_16 : decode cX4_firstFault 16 = .ok (.iaload, 1) := by decide +kernel
theorem dX4_firstFault_17 : decode cX4_firstFault 17 = .ok (.istore 5, 2) := by decide +kernel
theorem dX4_firstFault_19 : decode cX4_firstFault 19 = .ok (.iload 4, 2) := by decide +kernel
theorem dX4_firstFault_21 : decode cX4_firstFault 21 = .ok (.iload_n 3, 1) := by decide +kernel
theorem dX4_firstFault_22 : decode cX4_firstFault 22 = .ok (.iload 5, 2) := by decide +kernel
theorem dX4_firstFault_24 : decode cX4_firstFault 24 = .ok (.invokestatic 11, 3) := by decide +kernel
theorem dX4_firstFault_27 : decode cX4_firstFault 27 = .ok (.ifCond .ne 6, 3) := by decide +kernel
theorem dX4_firstFault_30 : decode cX4_firstFault 30 = .ok (.iload 4, 2) := by decide +kernel
theorem dX4_firstFault_32 : decode cX4_firstFault 32 = .ok (.ireturn, 1) := by decide +kernel
theorem dX4_firstFault_33 : decode cX4_firstFault 33 = .ok (.iload 5, 2) := by decide +kernel
theorem dX4_firstFault_35 : decode cX4_firstFault 35 = .ok (.istore_n 3, 1) := by decide +kernel
theorem dX4_firstFault_36 : decode cX4_firstFault 36 = .ok (.iinc 4 1, 3) := by decide +kernel
theorem dX4_firstFault_39 : decode cX4_firstFault 39 = .ok (.goto (-34), 3) := by decide +kernel
theorem dX4_firstFault_42 : decode cX4_firstFault 42 = .ok (.iload_n 2, 1) := by decide +kernel
theorem dX4_firstFault_43 : decode cX4_firstFault 43 = .ok (.iconst 2, 1) := by decide +kernel
theorem dX4_firstFault_44 : decode cX4_firstFault 44 = .ok (.if_icmp .le 17, 3) := by decide +kernel
theorem dX4_firstFault_47 : decode cX4_firstFault 47 = .ok (.iload_n 2, 1) := by decide +kernel
theorem dX4_firstFault_48 : decode cX4_firstFault 48 = .ok (.iconst 2, 1) := by decide +kernel
theorem dX4_firstFault_49 : decode cX4_firstFault 49 = .ok (.isub, 1) := by decide +kernel
theorem dX4_firstFault_50 : decode cX4_firstFault 50 = .ok (.bipush 7, 2) := by decide +kernel
theorem dX4_firstFault_52 : decode cX4_firstFault 52 = .ok (.irem, 1) := by decide +kernel
theorem dX4_firstFault_53 : decode cX4_firstFault 53 = .ok (.ifCond .ne 8, 3) := by decide +kernel
theorem dX4_firstFault_56 : decode cX4_firstFault 56 = .ok (.bipush (-9), 2) := by decide +kernel
theorem dX4_firstFault_58 : decode cX4_firstFault 58 = .ok (.goto 4, 3) := by decide +kernel
theorem dX4_firstFault_61 : decode cX4_firstFault 61 = .ok (.iload_n 2, 1) := by decide +kernel
theorem dX4_firstFault_62 : decode cX4_firstFault 62 = .ok (.ireturn, 1) := by decide +kernel
theorem dX4_goesOn_0 : decode cX4_goesOn 0 = .ok (.iload_n 0, 1) := by decide +kernel
theorem dX4_goesOn_1 : decode cX4_goesOn 1 = .ok (.ifCond .ne 15, 3) := by decide +kernel
theorem dX4_goesOn_4 : decode cX4_goesOn 4 = .ok (.iload_n 2, 1) := by decide +kernel
theorem dX4_goesOn_5 : decode cX4_goesOn 5 = .ok (.bipush 117, 2) := by decide +kernel
theorem dX4_goesOn_7 : decode cX4_goesOn 7 = .ok (.if_icmp .ne 7, 3) := by decide +kernel
theorem dX4_goesOn_10 : decode cX4_goesOn 10 = .ok (.iconst 1, 1) := by decide +kernel
theorem dX4_goesOn_11 : decode cX4_goesOn 11 = .ok (.goto 4, 3) := by decide +kernel
theorem dX4_goesOn_14 : decode cX4_goesOn 14 = .ok (.iconst 0, 1) := by decide +kernel
theorem dX4_goesOn_15 : decode cX4_goesOn 15 = .ok (.ireturn, 1) := by decide +kernel
theorem dX4_goesOn_16 : decode cX4_goesOn 16 = .ok (.iload_n 0, 1) := by decide +kernel
theorem dX4_goesOn_17 : decode cX4_goesOn 17 = .ok (.iconst 1, 1) := by decide +kernel
theorem dX4_goesOn_18 : decode cX4_goesOn 18 = .ok (.if_icmp .ne 11, 3) := by decide +kernel
theorem dX4_goesOn_21 : decode cX4_goesOn 21 = .ok (.iload_n 2, 1) := by decide +kernel
theorem dX4_goesOn_22 : decode cX4_goesOn 22 = .ok (.iconst 0, 1) := by decide +kernel
theorem dX4_goesOn_23 : decode cX4_goesOn 23 = .ok (.bipush 9, 2) := by decide +kernel
theorem dX4_goesOn_25 : decode cX4_goesOn 25 = .ok (.invokestatic 15, 3) := by decide +kernel
theorem dX4_goesOn_28 : decode cX4_goesOn 28 = .ok (.ireturn, 1) := by decide +kernel
theorem dX4_goesOn_29 : decode cX4_goesOn 29 = .ok (.iload_n 0, 1) := by decide +kernel
theorem dX4_goesOn_30 : decode cX4_goesOn 30 = .ok (.bipush 37, 2) := by decide +kernel
theorem dX4_goesOn_32 : decode cX4_goesOn 32 = .ok (.if_icmp .lt 5, 3) := by decide +kernel
theorem dX4_goesOn_35 : decode cX4_goesOn 35 = .ok (.iconst 0, 1) := by decide +kernel
theorem dX4_goesOn_36 : decode cX4_goesOn 36 = .ok (.ireturn, 1) := by decide +kernel
theorem dX4_goesOn_37 : decode cX4_goesOn 37 = .ok (.iload_n 0, 1) := by decide +kernel
theorem dX4_goesOn_38 : decode cX4_goesOn 38 = .ok (.iconst 2, 1) := by decide +kernel
theorem dX4_goesOn_39 : decode cX4_goesOn 39 = .ok (.isub, 1) := by decide +kernel
theorem dX4_goesOn_40 : decode cX4_goesOn 40 = .ok (.bipush 7, 2) := by decide +kernel
theorem dX4_goesOn_42 : decode cX4_goesOn 42 = .ok (.irem, 1) := by decide +kernel
theorem dX4_goesOn_43 : decode cX4_goesOn 43 = .ok (.tableswitch 104 0 5 #[37, 49, 73, 80, 88, 96], 37) := by decide +kernel
theorem dX4_goesOn_80 : decode cX4_goesOn 80 = .ok (.iload_n 2, 1) := by decide +kernel
theorem dX4_goesOn_81 : decode cX4_goesOn 81 = .ok (.bipush 59, 2) := by decide +kernel
theorem dX4_goesOn_83 : decode cX4_goesOn 83 = .ok (.if_icmp .ne 7, 3) := by decide +kernel
theorem dX4_goesOn_86 : decode cX4_goesOn 86 = .ok (.iconst 1, 1) := by decide +kernel
theorem dX4_goesOn_87 : decode cX4_goesOn 87 = .ok (.goto 4, 3) := by decide +kernel
theorem dX4_goesOn_90 : decode cX4_goesOn 90 = .ok (.iconst 0, 1) := by decide +kernel
theorem dX4_goesOn_91 : decode cX4_goesOn 91 = .ok (.ireturn, 1) := by decide +kernel
theorem dX4_goesOn_92 : decode cX4_goesOn 92 = .ok (.iload_n 2, 1) := by decide +kernel
theorem dX4_goesOn_93 : decode cX4_goesOn 93 = .ok (.bipush 116, 2) := by decide +kernel
theorem dX4_goesOn_95 : decode cX4_goesOn 95 = .ok (.if_icmp .eq 15, 3) := by decide +kernel
theorem dX4_goesOn_98 : decode cX4_goesOn 98 = .ok (.iload_n 2, 1) := by decide +kernel
theorem dX4_goesOn_99 : decode cX4_goesOn 99 = .ok (.bipush 104, 2) := by decide +kernel
theorem dX4_goesOn_101 : decode cX4_goesOn 101 = .ok (.if_icmp .eq 9, 3) := by decide +kernel
theorem dX4_goesOn_104 : decode cX4_goesOn 104 = .ok (.iload_n 2, 1) := by decide +kernel
theorem dX4_goesOn_105 : decode cX4_goesOn 105 = .ok (.bipush 108, 2) := by decide +kernel
theorem dX4_goesOn_107 : decode cX4_goesOn 107 = .ok (.if_icmp .ne 7, 3) := by decide +kernel
theorem dX4_goesOn_110 : decode cX4_goesOn 110 = .ok (.iconst 1, 1) := by decide +kernel
theorem dX4_goesOn_111 : decode cX4_goesOn 111 = .ok (.goto 4, 3) := by decide +kernel
theorem dX4_goesOn_114 : decode cX4_goesOn 114 = .ok (.iconst 0, 1) := by decide +kernel
theorem dX4_goesOn_115 : decode cX4_goesOn 115 = .ok (.ireturn, 1) := by decide +kernel
theorem dX4_goesOn_116 : decode cX4_goesOn 116 = .ok (.iload_n 2, 1) := by decide +kernel
theorem dX4_goesOn_117 : decode cX4_goesOn 117 = .ok (.iconst 0, 1) := by decide +kernel
theorem dX4_goesOn_118 : decode cX4_goesOn 118 = .ok (.iconst 3, 1) := by decide +kernel
theorem dX4_goesOn_119 : decode cX4_goesOn 119 = .ok (.invokestatic 15, 3) := by decide +kernel
theorem dX4_goesOn_122 : decode cX4_goesOn 122 = .ok (.ireturn, 1) := by decide +kernel
theorem dX4_goesOn_123 : decode cX4_goesOn 123 = .ok (.iload_n 2, 1) := by decide +kernel
theorem dX4_goesOn_124 : decode cX4_goesOn 124 = .ok (.iconst 1, 1) := by decide +kernel
theorem dX4_goesOn_125 : decode cX4_goesOn 125 = .ok (.bipush 9, 2) := by decide +kernel
theorem dX4_goesOn_127 : decode cX4_goesOn 127 = .ok (.invokestatic 15, 3) := by decide +kernel
theorem dX4_goesOn_130 : decode cX4_goesOn 130 = .ok (.ireturn, 1) := by decide +kernel
theorem dX4_goesOn_131 : decode cX4_goesOn 131 = .ok (.iload_n 2, 1) := by decide +kernel
theorem dX4_goesOn_132 : decode cX4_goesOn 132 = .ok (.iconst 1, 1) := by decide +kernel
theorem dX4_goesOn_133 : decode cX4_goesOn 133 = .ok (.bipush 6, 2) := by decide +kernel
theorem dX4_goesOn_135 : decode cX4_goesOn 135 = .ok (.invokestatic 15, 3) := by decide +kernel
theorem dX4_goesOn_138 : decode cX4_goesOn 138 = .ok (.ireturn, 1) := by decide +kernel
theorem dX4_goesOn_139 : decode cX4_goesOn 139 = .ok (.iload_n 2, 1) := by decide +kernel
theorem dX4_goesOn_140 : decode cX4_goesOn 140 = .ok (.iconst 0, 1) := by decide +kernel
theorem dX4_goesOn_141 : decode cX4_goesOn 141 = .ok (.bipush 6, 2) := by decide +kernel
theorem dX4_goesOn_143 : decode cX4_goesOn 143 = .ok (.invokestatic 15, 3) := by decide +kernel
theorem dX4_goesOn_146 : decode cX4_goesOn 146 = .ok (.ireturn, 1) := by decide +kernel
theorem dX4_goesOn_147 : decode cX4_goesOn 147 = .ok (.iload_n 2, 1) := by decide +kernel
theorem dX4_goesOn_148 : decode cX4_goesOn 148 = .ok (.iconst 0, 1) := by decide +kernel
theorem dX4_goesOn_149 : decode cX4_goesOn 149 = .ok (.iload_n 1, 1) := by decide +kernel
theorem dX4_goesOn_150 : decode cX4_goesOn 150 = .ok (.bipush 54, 2) := by decide +kernel
theorem dX4_goesOn_152 : decode cX4_goesOn 152 = .ok (.if_icmp .ne 7, 3) := by decide +kernel
theorem dX4_goesOn_155 : decode cX4_goesOn 155 = .ok (.iconst 3, 1) := by decide +kernel
theorem dX4_goesOn_156 : decode cX4_goesOn 156 = .ok (.goto 5, 3) := by decide +kernel
theorem dX4_goesOn_159 : decode cX4_goesOn 159 = .ok (.bipush 9, 2) := by decide +kernel
theorem dX4_goesOn_161 : decode cX4_goesOn 161 = .ok (.invokestatic 15, 3) := by decide +kernel
theorem dX4_goesOn_164 : decode cX4_goesOn 164 = .ok (.ireturn, 1) := by decide +kernel
theorem dX4_isDigit_0 : decode cX4_isDigit 0 = .ok (.iload_n 0, 1) := by decide +kernel
theorem dX4_isDigit_1 : decode cX4_isDigit 1 = .ok (.bipush 48, 2) := by decide +kernel
theorem dX4_isDigit_3 : decode cX4_isDigit 3 = .ok (.iload_n 1, 1) := by decide +kernel
theorem dX4_isDigit_4 : decode cX4_isDigit 4 = .ok (.iadd, 1) := by decide +kernel
theorem dX4_isDigit_5 : decode cX4_isDigit 5 = .ok (.if_icmp .lt 15, 3) := by decide +kernel
theorem dX4_isDigit_8 : decode cX4_isDigit 8 = .ok (.iload_n 0, 1) := by decide +kernel
theorem dX4_isDigit_9 : decode cX4_isDigit 9 = .ok (.bipush 48, 2) := by decide +kernel
theorem dX4_isDigit_11 : decode cX4_isDigit 11 = .ok (.iload_n 2, 1) := by decide +kernel
theorem dX4_isDigit_12 : decode cX4_isDigit 12 = .ok (.iadd, 1) := by decide +kernel
theorem dX4_isDigit_13 : decode cX4_isDigit 13 = .ok (.if_icmp .gt 7, 3) := by decide +kernel
theorem dX4_isDigit_16 : decode cX4_isDigit 16 = .ok (.iconst 1, 1) := by decide +kernel
theorem dX4_isDigit_17 : decode cX4_isDigit 17 = .ok (.goto 4, 3) := by decide +kernel
theorem dX4_isDigit_20 : decode cX4_isDigit 20 = .ok (.iconst 0, 1) := by decide +kernel
theorem dX4_isDigit_21 : decode cX4_isDigit 21 = .ok (.ireturn, 1) := by decide +kernel
theorem dX4_fill_0 : decode cX4_fill 0 = .ok (.aload_n 0, 1) := by decide +kernel
theorem dX4_fill_1 : decode cX4_fill 1 = .ok (.iload_n 3, 1) := by decide +kernel
theorem dX4_fill_2 : decode cX4_fill 2 = .ok (.iconst 2, 1) := by decide +kernel
theorem dX4_fill_3 : decode cX4_fill 3 = .ok (.isub, 1) := by decide +kernel
theorem dX4_fill_4 : decode cX4_fill 4 = .ok (.bipush 7, 2) := by decide +kernel
theorem dX4_fill_6 : decode cX4_fill 6 = .ok (.idiv, 1) := by decide +kernel
theorem dX4_fill_7 : decode cX4_fill 7 = .ok (.putfield 18, 3) := by decide +kernel
theorem dX4_fill_10 : decode cX4_fill 10 = .ok (.aload_n 0, 1) := by decide +kernel
theorem dX4_fill_11 : decode cX4_fill 11 = .ok (.aload_n 1, 1) := by decide +kernel
theorem dX4_fill_12 : decode cX4_fill 12 = .ok (.iload_n 2, 1) := by decide +kernel
theorem dX4_fill_13 : decode cX4_fill 13 = .ok (.iconst 1, 1) := by decide +kernel
theorem dX4_fill_14 : decode cX4_fill 14 = .ok (.iadd, 1) := by decide +kernel
theorem dX4_fill_15 : decode cX4_fill 15 = .ok (.iaload, 1) := by decide +kernel
theorem dX4_fill_16 : decode cX4_fill 16 = .ok (.bipush 48, 2) := by decide +kernel
theorem dX4_fill_18 : decode cX4_fill 18 = .ok (.isub, 1) := by decide +kernel
theorem dX4_fill_19 : decode cX4_fill 19 = .ok (.putfield 24, 3) := by decide +kernel
theorem dX4_fill_22 : decode cX4_fill 22 = .ok (.aload_n 0, 1) := by decide +kernel
theorem dX4_fill_23 : decode cX4_fill 23 = .ok (.iconst 3, 1) := by decide +kernel
theorem dX4_fill_24 : decode cX4_fill 24 = .ok (.putfield 27, 3) := by decide +kernel
theorem dX4_fill_27 : decode cX4_fill 27 = .ok (.iconst 0, 1) := by decide +kernel
theorem dX4_fill_28 : decode cX4_fill 28 = .ok (.istore 4, 2) := by decide +kernel
theorem dX4_fill_30 : decode cX4_fill 30 = .ok (.iload 4, 2) := by decide +kernel
theorem dX4_fill_32 : decode cX4_fill 32 = .ok (.aload_n 0, 1) := by decide +kernel
theorem dX4_fill_33 : decode cX4_fill 33 = .ok (.getfield 18, 3) := by decide +kernel
theorem dX4_fill_36 : decode cX4_fill 36 = .ok (.if_icmp .ge 113, 3) := by decide +kernel
theorem dX4_fill_39 : decode cX4_fill 39 = .ok (.iload_n 2, 1) := by decide +kernel
theorem dX4_fill_40 : decode cX4_fill 40 = .ok (.iconst 2, 1) := by decide +kernel
theorem dX4_fill_41 : decode cX4_fill 41 = .ok (.iadd, 1) := by decide +kernel
theorem dX4_fill_42 : decode cX4_fill 42 = .ok (.iload 4, 2) := by decide +kernel
theorem dX4_fill_44 : decode cX4_fill 44 = .ok (.bipush 7, 2) := by decide +kernel
theorem dX4_fill_46 : decode cX4_fill 46 = .ok (.imul, 1) := by decide +kernel
theorem dX4_fill_47 : decode cX4_fill 47 = .ok (.iadd, 1) := by decide +kernel
theorem dX4_fill_48 : decode cX4_fill 48 = .ok (.istore 5, 2) := by decide +kernel
theorem dX4_fill_50 : decode cX4_fill 50 = .ok (.aload_n 0, 1) := by decide +kernel
theorem dX4_fill_51 : decode cX4_fill 51 = .ok (.getfield 30, 3) := by decide +kernel
theorem dX4_fill_54 : decode cX4_fill 54 = .ok (.iload 4, 2) := by decide +kernel
theorem dX4_fill_56 : decode cX4_fill 56 = .ok (.aaload, 1) := by decide +kernel
theorem dX4_fill_57 : decode cX4_fill 57 = .ok (.astore 6, 2) := by decide +kernel
theorem dX4_fill_59 : decode cX4_fill 59 = .ok (.aload 6, 2) := by decide +kernel
theorem dX4_fill_61 : decode cX4_fill 61 = .ok (.aload_n 1, 1) := by decide +kernel
theorem dX4_fill_62 : decode cX4_fill 62 = .ok (.iload 5, 2) := by decide +kernel
theorem dX4_fill_64 : decode cX4_fill 64 = .ok (.iconst 1, 1) := by decide +kernel
theorem dX4_fill_65 : decode cX4_fill 65 = .ok (.iadd, 1) := by decide +kernel
theorem dX4_fill_66 : decode cX4_fill 66 = .ok (.iaload, 1) := by decide +kernel
theorem dX4_fill_67 : decode cX4_fill 67 = .ok (.invokestatic 34, 3) := by decide +kernel
theorem dX4_fill_70 : decode cX4_fill 70 = .ok (.putfield 38, 3) := by decide +kernel
theorem dX4_fill_73 : decode cX4_fill 73 = .ok (.aload 6, 2) := by decide +kernel
theorem dX4_fill_75 : decode cX4_fill 75 = .ok (.aload_n 1, 1) := by decide +kernel
theorem dX4_fill_76 : decode cX4_fill 76 = .ok (.iload 5, 2) := by decide +kernel
theorem dX4_fill_78 : decode cX4_fill 78 = .ok (.iconst 2, 1) := by decide +kernel
theorem dX4_fill_79 : decode cX4_fill 79 = .ok (.iadd, 1) := by decide +kernel
theorem dX4_fill_80 : decode cX4_fill 80 = .ok (.iaload, 1) := by decide +kernel
theorem dX4_fill_81 : decode cX4_fill 81 = .ok (.bipush 48, 2) := by decide +kernel
theorem dX4_fill_83 : decode cX4_fill 83 = .ok (.isub, 1) := by decide +kernel
theorem dX4_fill_84 : decode cX4_fill 84 = .ok (.putfield 43, 3) := by decide +kernel
theorem dX4_fill_87 : decode cX4_fill 87 = .ok (.aload 6, 2) := by decide +kernel
theorem dX4_fill_89 : decode cX4_fill 89 = .ok (.aload_n 1, 1) := by decide +kernel
theorem dX4_fill_90 : decode cX4_fill 90 = .ok (.iload 5, 2) := by decide +kernel
theorem dX4_fill_92 : decode cX4_fill 92 = .ok (.iconst 3, 1) := by decide +kernel
theorem dX4_fill_93 : decode cX4_fill 93 = .ok (.iadd, 1) := by decide +kernel
theorem dX4_fill_94 : decode cX4_fill 94 = .ok (.iaload, 1) := by decide +kernel
theorem dX4_fill_95 : decode cX4_fill 95 = .ok (.bipush 48, 2) := by decide +kernel
theorem dX4_fill_97 : decode cX4_fill 97 = .ok (.isub, 1) := by decide +kernel
theorem dX4_fill_98 : decode cX4_fill 98 = .ok (.putfield 46, 3) := by decide +kernel
theorem dX4_fill_101 : decode cX4_fill 101 = .ok (.aload 6, 2) := by decide +kernel
theorem dX4_fill_103 : decode cX4_fill 103 = .ok (.aload_n 1, 1) := by decide +kernel
theorem dX4_fill_104 : decode cX4_fill 104 = .ok (.iload 5, 2) := by decide +kernel
theorem dX4_fill_106 : decode cX4_fill 106 = .ok (.iconst 4, 1) := by decide +kernel
theorem dX4_fill_107 : decode cX4_fill 107 = .ok (.iadd, 1) := by decide +kernel
theorem dX4_fill_108 : decode cX4_fill 108 = .ok (.iaload, 1) := by decide +kernel
theorem dX4_fill_109 : decode cX4_fill 109 = .ok (.bipush 48, 2) := by decide +kernel
theorem dX4_fill_111 : decode cX4_fill 111 = .ok (.isub, 1) := by decide +kernel
theorem dX4_fill_112 : decode cX4_fill 112 = .ok (.putfield 49, 3) := by decide +kernel
theorem dX4_fill_115 : decode cX4_fill 115 = .ok (.aload 6, 2) := by decide +kernel
theorem dX4_fill_117 : decode cX4_fill 117 = .ok (.bipush 10, 2) := by decide +kernel
theorem dX4_fill_119 : decode cX4_fill 119 = .ok (.aload_n 1, 1) := by decide +kernel
theorem dX4_fill_120 : decode cX4_fill 120 = .ok (.iload 5, 2) := by decide +kernel
theorem dX4_fill_122 : decode cX4_fill 122 = .ok (.iconst 5, 1) := by decide +kernel
theorem dX4_fill_123 : decode cX4_fill 123 = .ok (.iadd, 1) := by decide +kernel
theorem dX4_fill_124 : decode cX4_fill 124 = .ok (.iaload, 1) := by decide +kernel
theorem dX4_fill_125 : decode cX4_fill 125 = .ok (.bipush 48, 2) := by decide +kernel
theorem dX4_fill_127 : decode cX4_fill 127 = .ok (.isub, 1) := by decide +kernel
theorem dX4_fill_128 : decode cX4_fill 128 = .ok (.imul, 1) := by decide +kernel
theorem dX4_fill_129 : decode cX4_fill 129 = .ok (.aload_n 1, 1) := by decide +kernel
theorem dX4_fill_130 : decode cX4_fill 130 = .ok (.iload 5, 2) := by decide +kernel
theorem dX4_fill_132 : decode cX4_fill 132 = .ok (.bipush 6, 2) := by decide +kernel
theorem dX4_fill_134 : decode cX4_fill 134 = .ok (.iadd, 1) := by decide +kernel
theorem dX4_fill_135 : decode cX4_fill 135 = .ok (.iaload, 1) := by decide +kernel
theorem dX4_fill_136 : decode cX4_fill 136 = .ok (.iadd, 1) := by decide +kernel
theorem dX4_fill_137 : decode cX4_fill 137 = .ok (.bipush 48, 2) := by decide +kernel
theorem dX4_fill_139 : decode cX4_fill 139 = .ok (.isub, 1) := by decide +kernel
theorem dX4_fill_140 : decode cX4_fill 140 = .ok (.putfield 52, 3) := by decide +kernel
theorem dX4_fill_143 : decode cX4_fill 143 = .ok (.iinc 4 1, 3) := by decide +kernel
theorem dX4_fill_146 : decode cX4_fill 146 = .ok (.goto (-116), 3) := by decide +kernel
theorem dX4_fill_149 : decode cX4_fill 149 = .ok (.return_, 1) := by decide +kernel
theorem dX4_kindOf_0 : decode cX4_kindOf 0 = .ok (.iload_n 0, 1) := by decide +kernel
theorem dX4_kindOf_1 : decode cX4_kindOf 1 = .ok (.bipush 108, 2) := by decide +kernel
theorem dX4_kindOf_3 : decode cX4_kindOf 3 = .ok (.if_icmp .ne 5, 3) := by decide +kernel
theorem dX4_kindOf_6 : decode cX4_kindOf 6 = .ok (.iconst 2, 1) := by decide +kernel
theorem dX4_kindOf_7 : decode cX4_kindOf 7 = .ok (.ireturn, 1) := by decide +kernel
theorem dX4_kindOf_8 : decode cX4_kindOf 8 = .ok (.iload_n 0, 1) := by decide +kernel
theorem dX4_kindOf_9 : decode cX4_kindOf 9 = .ok (.bipush 104, 2) := by decide +kernel
theorem dX4_kindOf_11 : decode cX4_kindOf 11 = .ok (.if_icmp .ne 7, 3) := by decide +kernel
theorem dX4_kindOf_14 : decode cX4_kindOf 14 = .ok (.iconst 1, 1) := by decide +kernel
theorem dX4_kindOf_15 : decode cX4_kindOf 15 = .ok (.goto 4, 3) := by decide +kernel
theorem dX4_kindOf_18 : decode cX4_kindOf 18 = .ok (.iconst 0, 1) := by decide +kernel
theorem dX4_kindOf_19 : decode cX4_kindOf 19 = .ok (.ireturn, 1) := by decide +kernel
theorem dX5_init_0 : decode cX5_init 0 = .ok (.aload_n 0, 1) := by decide +kernel
theorem dX5_init_1 : decode cX5_init 1 = .ok (.invokespecial 3, 3) := by decide +kernel
theorem dX5_init_4 : decode cX5_init 4 = .ok (.return_, 1) := by decide +kernel
theorem dX5_value_0 : decode cX5_value 0 = .ok (.aload_n 0, 1) := by decide +kernel
theorem dX5_value_1 : decode cX5_value 1 = .ok (.getfield 9, 3) := by decide +kernel
theorem dX5_value_4 : decode cX5_value 4 = .ok (.iconst 2, 1) := by decide +kernel
theorem dX5_value_5 : decode cX5_value 5 = .ok (.if_icmp .ne 12, 3) := by decide +kernel
theorem dX5_value_8 : decode cX5_value 8 = .ok (.iconst 2, 1) := by decide +kernel
theorem dX5_value_9 : decode cX5_value 9 = .ok (.aload_n 0, 1) := by decide +kernel
theorem dX5_value_10 : decode cX5_value 10 = .ok (.getfield 15, 3) := by decide +kernel
theorem dX5_value_13 : decode cX5_value 13 = .ok (.iconst 1, 1) := by decide +kernel
theorem dX5_value_14 : decode cX5_value 14 = .ok (.iadd, 1) := by decide +kernel
theorem dX5_value_15 : decode cX5_value 15 = .ok (.imul, 1) := by decide +kernel
theorem dX5_value_16 : decode cX5_value 16 = .ok (.ireturn, 1) := by decide +kernel
theorem dX5_value_17 : decode cX5_value 17 = .ok (.aload_n 0, 1) := by decide +kernel
theorem dX5_value_18 : decode cX5_value 18 = .ok (.getfield 9, 3) := by decide +kernel
theorem dX5_value_21 : decode cX5_value 21 = .ok (.iconst 1, 1) := by decide +kernel
theorem dX5_value_22 : decode cX5_value 22 = .ok (.if_icmp .ne 12, 3) := by decide +kernel
theorem dX5_value_25 : decode cX5_value 25 = .ok (.aload_n 0, 1) := by decide +kernel
theorem dX5_value_26 : decode cX5_value 26 = .ok (.getfield 15, 3) := by decide +kernel
theorem dX5_value_29 : decode cX5_value 29 = .ok (.iconst 1, 1) := by decide +kernel
theorem dX5_value_30 : decode cX5_value 30 = .ok (.iadd, 1) := by decide +kernel
theorem dX5_value_31 : decode cX5_value 31 = .ok (.goto 7, 3) := by decide +kernel
theorem dX5_value_34 : decode cX5_value 34 = .ok (.aload_n 0, 1) := by decide +kernel
theorem dX5_value_35 : decode cX5_value 35 = .ok (.getfield 15, 3) := by decide +kernel
theorem dX5_value_38 : decode cX5_value 38 = .ok (.ireturn, 1) := by decide +kernel
theorem dX5_span_0 : decode cX5_span 0 = .ok (.iconst 1, 1) := by decide +kernel
theorem dX5_span_1 : decode cX5_span 1 = .ok (.aload_n 0, 1) := by decide +kernel
theorem dX5_span_2 : decode cX5_span 2 = .ok (.getfield 18, 3) := by decide +kernel
theorem dX5_span_5 : decode cX5_span 5 = .ok (.ishl, 1) := by decide +kernel
theorem dX5_span_6 : decode cX5_span 6 = .ok (.iconst 1, 1) := by decide +kernel
theorem dX5_span_7 : decode cX5_span 7 = .ok (.isub, 1) := by decide +kernel
theorem dX5_span_8 : decode cX5_span 8 = .ok (.iload_n 1, 1) := by decide +kernel
theorem dX5_span_9 : decode cX5_span 9 = .ok (.ishl, 1) := by decide +kernel
theorem dX5_span_10 : decode cX5_span 10 = .ok (.bipush 63, 2) := by decide +kernel
theorem dX5_span_12 : decode cX5_span 12 = .ok (.iand, 1) := by decide +kernel
theorem dX5_span_13 : decode cX5_span 13 = .ok (.ireturn, 1) := by decide +kernel
theorem dX6_init_0 : decode cX6_init 0 = .ok (.aload_n 0, 1) := by decide +kernel
theorem dX6_init_1 : decode cX6_init 1 = .ok (.invokespecial 5, 3) := by decide +kernel
theorem dX6_init_4 : decode cX6_init 4 = .ok (.aload_n 0, 1) := by decide +kernel
theorem dX6_init_5 : decode cX6_init 5 = .ok (.iconst 4, 1) := by decide +kernel
theorem dX6_init_6 : decode cX6_init 6 = .ok (.anewarray 11, 3) := by decide +kernel
theorem dX6_init_9 : decode cX6_init 9 = .ok (.putfield 13, 3) := by decide +kernel
theorem dX6_init_12 : decode cX6_init 12 = .ok (.iconst 0, 1) := by decide +kernel
theorem dX6_init_13 : decode cX6_init 13 = .ok (.istore_n 1, 1) := by decide +kernel
theorem dX6_init_14 : decode cX6_init 14 = .ok (.iload_n 1, 1) := by decide +kernel
theorem dX6_init_15 : decode cX6_init 15 = .ok (.iconst 4, 1) := by decide +kernel
theorem dX6_init_16 : decode cX6_init 16 = .ok (.if_icmp .ge 22, 3) := by decide +kernel
theorem dX6_init_19 : decode cX6_init 19 = .ok (.aload_n 0, 1) := by decide +kernel
theorem dX6_init_20 : decode cX6_init 20 = .ok (.getfield 13, 3) := by decide +kernel
theorem dX6_init_23 : decode cX6_init 23 = .ok (.iload_n 1, 1) := by decide +kernel
theorem dX6_init_24 : decode cX6_init 24 = .ok (.new 11, 3) := by decide +kernel
theorem dX6_init_27 : decode cX6_init 27 = .ok (.dup, 1) := by decide +kernel
theorem dX6_init_28 : decode cX6_init 28 = .ok (.invokespecial 17, 3) := by decide +kernel
theorem dX6_init_31 : decode cX6_init 31 = .ok (.aastore, 1) := by decide +kernel
theorem dX6_init_32 : decode cX6_init 32 = .ok (.iinc 1 1, 3) := by decide +kernel
theorem dX6_init_35 : decode cX6_init 35 = .ok (.goto (-21), 3) := by decide +kernel
theorem dX6_init_38 : decode cX6_init 38 = .ok (.aload_n 0, 1) := by decide +kernel
theorem dX6_init_39 : decode cX6_init 39 = .ok (.new 18, 3) := by decide +kernel
theorem dX6_init_42 : decode cX6_init 42 = .ok (.dup, 1) := by decide +kernel
theorem dX6_init_43 : decode cX6_init 43 = .ok (.invokespecial 20, 3) := by decide +kernel
theorem dX6_init_46 : decode cX6_init 46 = .ok (.putfield 21, 3) := by decide +kernel
theorem dX6_init_49 : decode cX6_init 49 = .ok (.aload_n 0, 1) := by decide +kernel
theorem dX6_init_50 : decode cX6_init 50 = .ok (.new 25, 3) := by decide +kernel
theorem dX6_init_53 : decode cX6_init 53 = .ok (.dup, 1) := by decide +kernel
theorem dX6_init_54 : decode cX6_init 54 = .ok (.invokespecial 27, 3) := by decide +kernel
theorem dX6_init_57 : decode cX6_init 57 = .ok (.putfield 28, 3) := by decide +kernel
theorem dX6_init_60 : decode cX6_init 60 = .ok (.aload_n 0, 1) := by decide +kernel
theorem dX6_init_61 : decode cX6_init 61 = .ok (.new 32, 3) := by decide +kernel
theorem dX6_init_64 : decode cX6_init 64 = .ok (.dup, 1) := by decide +kernel
theorem dX6_init_65 : decode cX6_init 65 = .ok (.invokespecial 34, 3) := by decide +kernel
theorem dX6_init_68 : decode cX6_init 68 = .ok (.putfield 35, 3) := by decide +kernel
theorem dX6_init_71 : decode cX6_init 71 = .ok (.aload_n 0, 1) := by decide +kernel
theorem dX6_init_72 : decode cX6_init 72 = .ok (.bipush 6, 2) := by decide +kernel
theorem dX6_init_74 : decode cX6_init 74 = .ok (.newarray .int, 2) := by decide +kernel
theorem dX6_init_76 : decode cX6_init 76 = .ok (.putfield 39, 3) := by decide +kernel
theorem dX6_init_79 : decode cX6_init 79 = .ok (.return_, 1) := by decide +kernel
theorem dX6_museum_0 : decode cX6_museum 0 = .ok (.aload_n 0, 1) := by decide +kernel
theorem dX6_museum_1 : decode cX6_museum 1 = .ok (.iconst 0, 1) := by decide +kernel
theorem dX6_museum_2 : decode cX6_museum 2 = .ok (.putfield 43, 3) := by decide +kernel
theorem dX6_museum_5 : decode cX6_museum 5 = .ok (.iload_n 1, 1) := by decide +kernel
theorem dX6_museum_6 : decode cX6_museum 6 = .ok (.invokestatic 47, 3) := by decide +kernel
theorem dX6_museum_9 : decode cX6_museum 9 = .ok (.ifCond .ne 5, 3) := by decide +kernel
theorem dX6_museum_12 : decode cX6_museum 12 = .ok (.iconst (-1), 1) := by decide +kernel
theorem dX6_museum_13 : decode cX6_museum 13 = .ok (.ireturn, 1) := by decide +kernel
theorem dX6_museum_14 : decode cX6_museum 14 = .ok (.iload_n 2, 1) := by decide +kernel
theorem dX6_museum_15 : decode cX6_museum 15 = .ok (.invokestatic 51, 3) := by decide +kernel
theorem dX6_museum_18 : decode cX6_museum 18 = .ok (.ifCond .ne 6, 3) := by decide +kernel
theorem dX6_museum_21 : decode cX6_museum 21 = .ok (.bipush (-2), 2) := by decide +kernel
theorem dX6_museum_23 : decode cX6_museum 23 = .ok (.ireturn, 1) := by decide +kernel
theorem dX6_museum_24 : decode cX6_museum 24 = .ok (.aload_n 0, 1) := by decide +kernel
theorem dX6_museum_25 : decode cX6_museum 25 = .ok (.getfield 13, 3) := by decide +kernel
theorem dX6_museum_28 : decode cX6_museum 28 = .ok (.iload_n 1, 1) := by decide +kernel
theorem dX6_museum_29 : decode cX6_museum 29 = .ok (.aaload, 1) := by decide +kernel
theorem dX6_museum_30 : decode cX6_museum 30 = .ok (.astore 5, 2) := by decide +kernel
theorem dX6_museum_32 : decode cX6_museum 32 = .ok (.aload 5, 2) := by decide +kernel
theorem dX6_museum_34 : decode cX6_museum 34 = .ok (.iload_n 2, 1) := by decide +kernel
theorem dX6_museum_35 : decode cX6_museum 35 = .ok (.iload_n 3, 1) := by decide +kernel
theorem dX6_museum_36 : decode cX6_museum 36 = .ok (.iload 4, 2) := by decide +kernel
theorem dX6_museum_38 : decode cX6_museum 38 = .ok (.invokevirtual 54, 3) := by decide +kernel
theorem dX6_museum_41 : decode cX6_museum 41 = .ok (.istore 6, 2) := by decide +kernel
theorem dX6_museum_43 : decode cX6_museum 43 = .ok (.iload 6, 2) := by decide +kernel
theorem dX6_museum_45 : decode cX6_museum 45 = .ok (.ifCond .eq 10, 3) := by decide +kernel
theorem dX6_museum_48 : decode cX6_museum 48 = .ok (.aload_n 0, 1) := by decide +kernel
theorem dX6_museum_49 : decode cX6_museum 49 = .ok (.iload 6, 2) := by decide +kernel
theorem dX6_museum_51 : decode cX6_museum 51 = .ok (.invokevirtual 58, 3) := by decide +kernel
theorem dX6_museum_54 : decode cX6_museum 54 = .ok (.ireturn, 1) := by decide +kernel
theorem dX6_museum_55 : decode cX6_museum 55 = .ok (.aload 5, 2) := by decide +kernel
theorem dX6_museum_57 : decode cX6_museum 57 = .ok (.getfield 62, 3) := by decide +kernel
theorem dX6_museum_60 : decode cX6_museum 60 = .ok (.iload_n 3, 1) := by decide +kernel
theorem dX6_museum_61 : decode cX6_museum 61 = .ok (.iload 4, 2) := by decide +kernel
theorem dX6_museum_63 : decode cX6_museum 63 = .ok (.invokestatic 65, 3) := by decide +kernel
theorem dX6_museum_66 : decode cX6_museum 66 = .ok (.istore 7, 2) := by decide +kernel
theorem dX6_museum_68 : decode cX6_museum 68 = .ok (.iload 7, 2) := by decide +kernel
theorem dX6_museum_70 : decode cX6_museum 70 = .ok (.bipush (-9), 2) := by decide +kernel
theorem dX6_museum_72 : decode cX6_museum 72 = .ok (.if_icmp .eq 9, 3) := by decide +kernel
theorem dX6_museum_75 : decode cX6_museum 75 = .ok (.bipush (-100), 2) := by decide +kernel
theorem dX6_museum_77 : decode cX6_museum 77 = .ok (.iload 7, 2) := by decide +kernel
theorem dX6_museum_79 : decode cX6_museum 79 = .ok (.isub, 1) := by decide +kernel
theorem dX6_museum_80 : decode cX6_museum 80 = .ok (.ireturn, 1) := by decide +kernel
theorem dX6_museum_81 : decode cX6_museum 81 = .ok (.aload_n 0, 1) := by decide +kernel
theorem dX6_museum_82 : decode cX6_museum 82 = .ok (.getfield 21, 3) := by decide +kernel
theorem dX6_museum_85 : decode cX6_museum 85 = .ok (.aload 5, 2) := by decide +kernel
theorem dX6_museum_87 : decode cX6_museum 87 = .ok (.getfield 62, 3) := by decide +kernel
theorem dX6_museum_90 : decode cX6_museum 90 = .ok (.iload_n 3, 1) := by decide +kernel
theorem dX6_museum_91 : decode cX6_museum 91 = .ok (.iload 4, 2) := by decide +kernel
theorem dX6_museum_93 : decode cX6_museum 93 = .ok (.invokestatic 71, 3) := by decide +kernel
theorem dX6_museum_96 : decode cX6_museum 96 = .ok (.aload_n 0, 1) := by decide +kernel
theorem dX6_museum_97 : decode cX6_museum 97 = .ok (.getfield 28, 3) := by decide +kernel
theorem dX6_museum_100 : decode cX6_museum 100 = .ok (.iconst 0, 1) := by decide +kernel
theorem dX6_museum_101 : decode cX6_museum 101 = .ok (.putfield 75, 3) := by decide +kernel
theorem dX6_museum_104 : decode cX6_museum 104 = .ok (.aload_n 0, 1) := by decide +kernel
theorem dX6_museum_105 : decode cX6_museum 105 = .ok (.getfield 21, 3) := by decide +kernel
theorem dX6_museum_108 : decode cX6_museum 108 = .ok (.getfield 78, 3) := by decide +kernel
theorem dX6_museum_111 : decode cX6_museum 111 = .ok (.ireturn, 1) := by decide +kernel
theorem dX6_ofThing_0 : decode cX6_ofThing 0 = .ok (.aload_n 0, 1) := by decide +kernel
theorem dX6_ofThing_1 : decode cX6_ofThing 1 = .ok (.getfield 21, 3) := by decide +kernel
theorem dX6_ofThing_4 : decode cX6_ofThing 4 = .ok (.iload_n 1, 1) := by decide +kernel
theorem dX6_ofThing_5 : decode cX6_ofThing 5 = .ok (.invokevirtual 79, 3) := by decide +kernel
theorem dX6_ofThing_8 : decode cX6_ofThing 8 = .ok (.ifCond .ne 5, 3) := by decide +kernel
theorem dX6_ofThing_11 : decode cX6_ofThing 11 = .ok (.iconst (-1), 1) := by decide +kernel
theorem dX6_ofThing_12 : decode cX6_ofThing 12 = .ok (.ireturn, 1) := by decide +kernel
theorem dX6_ofThing_13 : decode cX6_ofThing 13 = .ok (.aload_n 0, 1) := by decide +kernel
theorem dX6_ofThing_14 : decode cX6_ofThing 14 = .ok (.getfield 21, 3) := by decide +kernel
theorem dX6_ofThing_17 : decode cX6_ofThing 17 = .ok (.getfield 82, 3) := by decide +kernel
theorem dX6_ofThing_20 : decode cX6_ofThing 20 = .ok (.iload_n 1, 1) := by decide +kernel
theorem dX6_ofThing_21 : decode cX6_ofThing 21 = .ok (.aaload, 1) := by decide +kernel
theorem dX6_ofThing_22 : decode cX6_ofThing 22 = .ok (.astore_n 3, 1) := by decide +kernel
theorem dX6_ofThing_23 : decode cX6_ofThing 23 = .ok (.iload_n 2, 1) := by decide +kernel
theorem dX6_ofThing_24 : decode cX6_ofThing 24 = .ok (.tableswitch 70 0 5 #[40, 45, 50, 55, 60, 65], 40) := by decide +kernel
theorem dX6_ofThing_64 : decode cX6_ofThing 64 = .ok (.aload_n 3, 1) := by decide +kernel
theorem dX6_ofThing_65 : decode cX6_ofThing 65 = .ok (.getfield 86, 3) := by decide +kernel
theorem dX6_ofThing_68 : decode cX6_ofThing 68 = .ok (.ireturn, 1) := by decide +kernel
theorem dX6_ofThing_69 : decode cX6_ofThing 69 = .ok (.aload_n 3, 1) := by decide +kernel
theorem dX6_ofThing_70 : decode cX6_ofThing 70 = .ok (.getfield 91, 3) := by decide +kernel
theorem dX6_ofThing_73 : decode cX6_ofThing 73 = .ok (.ireturn, 1) := by decide +kernel
theorem dX6_ofThing_74 : decode cX6_ofThing 74 = .ok (.aload_n 3, 1) := by decide +kernel
theorem dX6_ofThing_75 : decode cX6_ofThing 75 = .ok (.getfield 94, 3) := by decide +kernel
theorem dX6_ofThing_78 : decode cX6_ofThing 78 = .ok (.ireturn, 1) := by decide +kernel
theorem dX6_ofThing_79 : decode cX6_ofThing 79 = .ok (.aload_n 3, 1) := by decide +kernel
theorem dX6_ofThing_80 : decode cX6_ofThing 80 = .ok (.getfield 97, 3) := by decide +kernel
theorem dX6_ofThing_83 : decode cX6_ofThing 83 = .ok (.ireturn, 1) := by decide +kernel
theorem dX6_ofThing_84 : decode cX6_ofThing 84 = .ok (.aload_n 3, 1) := by decide +kernel
theorem dX6_ofThing_85 : decode cX6_ofThing 85 = .ok (.getfield 100, 3) := by decide +kernel
theorem dX6_ofThing_88 : decode cX6_ofThing 88 = .ok (.ireturn, 1) := by decide +kernel
theorem dX6_ofThing_89 : decode cX6_ofThing 89 = .ok (.aload_n 3, 1) := by decide +kernel
theorem dX6_ofThing_90 : decode cX6_ofThing 90 = .ok (.invokevirtual 103, 3) := by decide +kernel
theorem dX6_ofThing_93 : decode cX6_ofThing 93 = .ok (.ireturn, 1) := by decide +kernel
theorem dX6_ofThing_94 : decode cX6_ofThing 94 = .ok (.bipush (-2), 2) := by decide +kernel
theorem dX6_ofThing_96 : decode cX6_ofThing 96 = .ok (.ireturn, 1) := by decide +kernel
theorem dX6_penalty_0 : decode cX6_penalty 0 = .ok (.iload_n 1, 1) := by decide +kernel
theorem dX6_penalty_1 : decode cX6_penalty 1 = .ok (.ifCond .lt 9, 3) := by decide +kernel
theorem dX6_penalty_4 : decode cX6_penalty 4 = .ok (.iload_n 1, 1) := by decide +kernel
theorem dX6_penalty_5 : decode cX6_penalty 5 = .ok (.bipush 9, 2) := by decide +kernel
theorem dX6_penalty_7 : decode cX6_penalty 7 = .ok (.if_icmp .le 6, 3) := by decide +kernel
theorem dX6_penalty_10 : decode cX6_penalty 10 = .ok (.bipush (-2), 2) := by decide +kernel
theorem dX6_penalty_12 : decode cX6_penalty 12 = .ok (.ireturn, 1) := by decide +kernel
theorem dX6_penalty_13 : decode cX6_penalty 13 = .ok (.aload_n 0, 1) := by decide +kernel
theorem dX6_penalty_14 : decode cX6_penalty 14 = .ok (.getfield 21, 3) := by decide +kernel
theorem dX6_penalty_17 : decode cX6_penalty 17 = .ok (.invokevirtual 107, 3) := by decide +kernel
theorem dX6_penalty_20 : decode cX6_penalty 20 = .ok (.ifCond .ne 6, 3) := by decide +kernel
theorem dX6_penalty_23 : decode cX6_penalty 23 = .ok (.bipush (-3), 2) := by decide +kernel
theorem dX6_penalty_25 : decode cX6_penalty 25 = .ok (.ireturn, 1) := by decide +kernel
theorem dX6_penalty_26 : decode cX6_penalty 26 = .ok (.aload_n 0, 1) := by decide +kernel
theorem dX6_penalty_27 : decode cX6_penalty 27 = .ok (.getfield 21, 3) := by decide +kernel
theorem dX6_penalty_30 : decode cX6_penalty 30 = .ok (.getfield 111, 3) := by decide +kernel
theorem dX6_penalty_33 : decode cX6_penalty 33 = .ok (.istore_n 2, 1) := by decide +kernel
theorem dX6_penalty_34 : decode cX6_penalty 34 = .ok (.aload_n 0, 1) := by decide +kernel
theorem dX6_penalty_35 : decode cX6_penalty 35 = .ok (.getfield 21, 3) := by decide +kernel
theorem dX6_penalty_38 : decode cX6_penalty 38 = .ok (.iload_n 1, 1) := by decide +kernel
theorem dX6_penalty_39 : decode cX6_penalty 39 = .ok (.putfield 111, 3) := by decide +kernel
theorem dX6_penalty_42 : decode cX6_penalty 42 = .ok (.iload_n 2, 1) := by decide +kernel
theorem dX6_penalty_43 : decode cX6_penalty 43 = .ok (.ireturn, 1) := by decide +kernel
theorem dX6_law_0 : decode cX6_law 0 = .ok (.iload_n 1, 1) := by decide +kernel
theorem dX6_law_1 : decode cX6_law 1 = .ok (.ifCond .lt 8, 3) := by decide +kernel
theorem dX6_law_4 : decode cX6_law 4 = .ok (.iload_n 1, 1) := by decide +kernel
theorem dX6_law_5 : decode cX6_law 5 = .ok (.iconst 4, 1) := by decide +kernel
theorem dX6_law_6 : decode cX6_law 6 = .ok (.if_icmp .lt 6, 3) := by decide +kernel
theorem dX6_law_9 : decode cX6_law 9 = .ok (.bipush (-2), 2) := by decide +kernel
theorem dX6_law_11 : decode cX6_law 11 = .ok (.ireturn, 1) := by decide +kernel
theorem dX6_law_12 : decode cX6_law 12 = .ok (.aload_n 0, 1) := by decide +kernel
theorem dX6_law_13 : decode cX6_law 13 = .ok (.getfield 21, 3) := by decide +kernel
theorem dX6_law_16 : decode cX6_law 16 = .ok (.invokevirtual 107, 3) := by decide +kernel
theorem dX6_law_19 : decode cX6_law 19 = .ok (.ifCond .ne 6, 3) := by decide +kernel
theorem dX6_law_22 : decode cX6_law 22 = .ok (.bipush (-3), 2) := by decide +kernel
theorem dX6_law_24 : decode cX6_law 24 = .ok (.ireturn, 1) := by decide +kernel
theorem dX6_law_25 : decode cX6_law 25 = .ok (.aload_n 0, 1) := by decide +kernel
theorem dX6_law_26 : decode cX6_law 26 = .ok (.getfield 21, 3) := by decide +kernel
theorem dX6_law_29 : decode cX6_law 29 = .ok (.getfield 114, 3) := by decide +kernel
theorem dX6_law_32 : decode cX6_law 32 = .ok (.istore_n 2, 1) := by decide +kernel
theorem dX6_law_33 : decode cX6_law 33 = .ok (.aload_n 0, 1) := by decide +kernel
theorem dX6_law_34 : decode cX6_law 34 = .ok (.getfield 21, 3) := by decide +kernel
theorem dX6_law_37 : decode cX6_law 37 = .ok (.iload_n 1, 1) := by decide +kernel
theorem dX6_law_38 : decode cX6_law 38 = .ok (.putfield 114, 3) := by decide +kernel
theorem dX6_law_41 : decode cX6_law 41 = .ok (.iload_n 2, 1) := by decide +kernel
theorem dX6_law_42 : decode cX6_law 42 = .ok (.ireturn, 1) := by decide +kernel
theorem dX6_use_0 : decode cX6_use 0 = .ok (.aload_n 0, 1) := by decide +kernel
theorem dX6_use_1 : decode cX6_use 1 = .ok (.getfield 21, 3) := by decide +kernel
theorem dX6_use_4 : decode cX6_use 4 = .ok (.iload_n 1, 1) := by decide +kernel
theorem dX6_use_5 : decode cX6_use 5 = .ok (.invokevirtual 79, 3) := by decide +kernel
theorem dX6_use_8 : decode cX6_use 8 = .ok (.ifCond .ne 5, 3) := by decide +kernel
theorem dX6_use_11 : decode cX6_use 11 = .ok (.iconst (-1), 1) := by decide +kernel
theorem dX6_use_12 : decode cX6_use 12 = .ok (.ireturn, 1) := by decide +kernel
theorem dX6_use_13 : decode cX6_use 13 = .ok (.iload_n 2, 1) := by decide +kernel
theorem dX6_use_14 : decode cX6_use 14 = .ok (.ifCond .lt 9, 3) := by decide +kernel
theorem dX6_use_17 : decode cX6_use 17 = .ok (.iload_n 2, 1) := by decide +kernel
theorem dX6_use_18 : decode cX6_use 18 = .ok (.bipush 64, 2) := by decide +kernel
theorem dX6_use_20 : decode cX6_use 20 = .ok (.if_icmp .lt 6, 3) := by decide +kernel
theorem dX6_use_23 : decode cX6_use 23 = .ok (.bipush (-2), 2) := by decide +kernel
theorem dX6_use_25 : decode cX6_use 25 = .ok (.ireturn, 1) := by decide +kernel
theorem dX6_use_26 : decode cX6_use 26 = .ok (.aload_n 0, 1) := by decide +kernel
theorem dX6_use_27 : decode cX6_use 27 = .ok (.getfield 21, 3) := by decide +kernel
theorem dX6_use_30 : decode cX6_use 30 = .ok (.getfield 82, 3) := by decide +kernel
theorem dX6_use_33 : decode cX6_use 33 = .ok (.iload_n 1, 1) := by decide +kernel
theorem dX6_use_34 : decode cX6_use 34 = .ok (.aaload, 1) := by decide +kernel
theorem dX6_use_35 : decode cX6_use 35 = .ok (.getfield 100, 3) := by decide +kernel
theorem dX6_use_38 : decode cX6_use 38 = .ok (.istore_n 3, 1) := by decide +kernel
theorem dX6_use_39 : decode cX6_use 39 = .ok (.aload_n 0, 1) := by decide +kernel
theorem dX6_use_40 : decode cX6_use 40 = .ok (.getfield 21, 3) := by decide +kernel
theorem dX6_use_43 : decode cX6_use 43 = .ok (.getfield 82, 3) := by decide +kernel
theorem dX6_use_46 : decode cX6_use 46 = .ok (.iload_n 1, 1) := by decide +kernel
theorem dX6_use_47 : decode cX6_use 47 = .ok (.aaload, 1) := by decide +kernel
theorem dX6_use_48 : decode cX6_use 48 = .ok (.iload_n 2, 1) := by decide +kernel
theorem dX6_use_49 : decode cX6_use 49 = .ok (.putfield 100, 3) := by decide +kernel
theorem dX6_use_52 : decode cX6_use 52 = .ok (.iload_n 3, 1) := by decide +kernel
theorem dX6_use_53 : decode cX6_use 53 = .ok (.ireturn, 1) := by decide +kernel
theorem dX6_round_0 : decode cX6_round 0 = .ok (.iload 4, 2) := by decide +kernel
theorem dX6_round_2 : decode cX6_round 2 = .ok (.bipush 10, 2) := by decide +kernel
theorem dX6_round_4 : decode cX6_round 4 = .ok (.if_icmp .lt 14, 3) := by decide +kernel
theorem dX6_round_7 : decode cX6_round 7 = .ok (.iload 4, 2) := by decide +kernel
theorem dX6_round_9 : decode cX6_round 9 = .ok (.bipush 16, 2) := by decide +kernel
theorem dX6_round_11 : decode cX6_round 11 = .ok (.if_icmp .ge 7, 3) := by decide +kernel
theorem dX6_round_14 : decode cX6_round 14 = .ok (.iconst 1, 1) := by decide +kernel
theorem dX6_round_15 : decode cX6_round 15 = .ok (.goto 4, 3) := by decide +kernel
theorem dX6_round_18 : decode cX6_round 18 = .ok (.iconst 0, 1) := by decide +kernel
theorem dX6_round_19 : decode cX6_round 19 = .ok (.istore 5, 2) := by decide +kernel
theorem dX6_round_21 : decode cX6_round 21 = .ok (.aload_n 0, 1) := by decide +kernel
theorem dX6_round_22 : decode cX6_round 22 = .ok (.iload_n 1, 1) := by decide +kernel
theorem dX6_round_23 : decode cX6_round 23 = .ok (.iload_n 2, 1) := by decide +kernel
theorem dX6_round_24 : decode cX6_round 24 = .ok (.iload_n 3, 1) := by decide +kernel
theorem dX6_round_25 : decode cX6_round 25 = .ok (.iload 5, 2) := by decide +kernel
theorem dX6_round_27 : decode cX6_round 27 = .ok (.ifCond .ne 14, 3) := by decide +kernel
theorem dX6_round_30 : decode cX6_round 30 = .ok (.iload 4, 2) := by decide +kernel
theorem dX6_round_32 : decode cX6_round 32 = .ok (.ifCond .lt 13, 3) := by decide +kernel
theorem dX6_round_35 : decode cX6_round 35 = .ok (.iload 4, 2) := by decide +kernel
theorem dX6_round_37 : decode cX6_round 37 = .ok (.iconst 3, 1) := by decide +kernel
theorem dX6_round_38 : decode cX6_round 38 = .ok (.if_icmp .gt 7, 3) := by decide +kernel
theorem dX6_round_41 : decode cX6_round 41 = .ok (.iconst 1, 1) := by decide +kernel
theorem dX6_round_42 : decode cX6_round 42 = .ok (.goto 4, 3) := by decide +kernel
theorem dX6_round_45 : decode cX6_round 45 = .ok (.iconst 0, 1) := by decide +kernel
theorem dX6_round_46 : decode cX6_round 46 = .ok (.invokevirtual 117, 3) := by decide +kernel
theorem dX6_round_49 : decode cX6_round 49 = .ok (.istore 6, 2) := by decide +kernel
theorem dX6_round_51 : decode cX6_round 51 = .ok (.iload 6, 2) := by decide +kernel
theorem dX6_round_53 : decode cX6_round 53 = .ok (.ifCond .eq 6, 3) := by decide +kernel
theorem dX6_round_56 : decode cX6_round 56 = .ok (.iload 6, 2) := by decide +kernel
theorem dX6_round_58 : decode cX6_round 58 = .ok (.ireturn, 1) := by decide +kernel
theorem dX6_round_59 : decode cX6_round 59 = .ok (.aload_n 0, 1) := by decide +kernel
theorem dX6_round_60 : decode cX6_round 60 = .ok (.getfield 21, 3) := by decide +kernel
theorem dX6_round_63 : decode cX6_round 63 = .ok (.aload_n 0, 1) := by decide +kernel
theorem dX6_round_64 : decode cX6_round 64 = .ok (.getfield 39, 3) := by decide +kernel
theorem dX6_round_67 : decode cX6_round 67 = .ok (.invokevirtual 121, 3) := by decide +kernel
theorem dX6_round_70 : decode cX6_round 70 = .ok (.istore 7, 2) := by decide +kernel
theorem dX6_round_72 : decode cX6_round 72 = .ok (.iload 4, 2) := by decide +kernel
theorem dX6_round_74 : decode cX6_round 74 = .ok (.iconst 1, 1) := by decide +kernel
theorem dX6_round_75 : decode cX6_round 75 = .ok (.if_icmp .ne 6, 3) := by decide +kernel
theorem dX6_round_78 : decode cX6_round 78 = .ok (.iload 7, 2) := by decide +kernel
theorem dX6_round_80 : decode cX6_round 80 = .ok (.ireturn, 1) := by decide +kernel
theorem dX6_round_81 : decode cX6_round 81 = .ok (.iload 7, 2) := by decide +kernel
theorem dX6_round_83 : decode cX6_round 83 = .ok (.bipush (-9), 2) := by decide +kernel
theorem dX6_round_85 : decode cX6_round 85 = .ok (.if_icmp .eq 9, 3) := by decide +kernel
theorem dX6_round_88 : decode cX6_round 88 = .ok (.bipush (-100), 2) := by decide +kernel
theorem dX6_round_90 : decode cX6_round 90 = .ok (.iload 7, 2) := by decide +kernel
theorem dX6_round_92 : decode cX6_round 92 = .ok (.isub, 1) := by decide +kernel
theorem dX6_round_93 : decode cX6_round 93 = .ok (.ireturn, 1) := by decide +kernel
theorem dX6_round_94 : decode cX6_round 94 = .ok (.iload 5, 2) := by decide +kernel
theorem dX6_round_96 : decode cX6_round 96 = .ok (.ifCond .eq 27, 3) := by decide +kernel
theorem dX6_round_99 : decode cX6_round 99 = .ok (.aload_n 0, 1) := by decide +kernel
theorem dX6_round_100 : decode cX6_round 100 = .ok (.getfield 21, 3) := by decide +kernel
theorem dX6_round_103 : decode cX6_round 103 = .ok (.aload_n 0, 1) := by decide +kernel
theorem dX6_round_104 : decode cX6_round 104 = .ok (.getfield 39, 3) := by decide +kernel
theorem dX6_round_107 : decode cX6_round 107 = .ok (.iload 4, 2) := by decide +kernel
theorem dX6_round_109 : decode cX6_round 109 = .ok (.bipush 10, 2) := by decide +kernel
theorem dX6_round_111 : decode cX6_round 111 = .ok (.isub, 1) := by decide +kernel
theorem dX6_round_112 : decode cX6_round 112 = .ok (.iconst 1, 1) := by decide +kernel
theorem dX6_round_113 : decode cX6_round 113 = .ok (.iadd, 1) := by decide +kernel
theorem dX6_round_114 : decode cX6_round 114 = .ok (.iload 4, 2) := by decide +kernel
theorem dX6_round_116 : decode cX6_round 116 = .ok (.bipush 10, 2) := by decide +kernel
theorem dX6_round_118 : decode cX6_round 118 = .ok (.isub, 1) := by decide +kernel
theorem dX6_round_119 : decode cX6_round 119 = .ok (.invokevirtual 125, 3) := by decide +kernel
theorem dX6_round_122 : decode cX6_round 122 = .ok (.ireturn, 1) := by decide +kernel
theorem dX6_round_123 : decode cX6_round 123 = .ok (.aload_n 0, 1) := by decide +kernel
theorem dX6_round_124 : decode cX6_round 124 = .ok (.getfield 21, 3) := by decide +kernel
theorem dX6_round_127 : decode cX6_round 127 = .ok (.aload_n 0, 1) := by decide +kernel
theorem dX6_round_128 : decode cX6_round 128 = .ok (.getfield 39, 3) := by decide +kernel
theorem dX6_round_131 : decode cX6_round 131 = .ok (.invokevirtual 128, 3) := by decide +kernel
theorem dX6_round_134 : decode cX6_round 134 = .ok (.istore 8, 2) := by decide +kernel
theorem dX6_round_136 : decode cX6_round 136 = .ok (.iload 4, 2) := by decide +kernel
theorem dX6_round_138 : decode cX6_round 138 = .ok (.iconst 2, 1) := by decide +kernel
theorem dX6_round_139 : decode cX6_round 139 = .ok (.if_icmp .ne 6, 3) := by decide +kernel
theorem dX6_round_142 : decode cX6_round 142 = .ok (.iload 8, 2) := by decide +kernel
theorem dX6_round_144 : decode cX6_round 144 = .ok (.ireturn, 1) := by decide +kernel
theorem dX6_round_145 : decode cX6_round 145 = .ok (.aload_n 0, 1) := by decide +kernel
theorem dX6_round_146 : decode cX6_round 146 = .ok (.getfield 21, 3) := by decide +kernel
theorem dX6_round_149 : decode cX6_round 149 = .ok (.aload_n 0, 1) := by decide +kernel
theorem dX6_round_150 : decode cX6_round 150 = .ok (.getfield 39, 3) := by decide +kernel
theorem dX6_round_153 : decode cX6_round 153 = .ok (.aload_n 0, 1) := by decide +kernel
theorem dX6_round_154 : decode cX6_round 154 = .ok (.getfield 21, 3) := by decide +kernel
theorem dX6_round_157 : decode cX6_round 157 = .ok (.getfield 114, 3) := by decide +kernel
theorem dX6_round_160 : decode cX6_round 160 = .ok (.invokevirtual 131, 3) := by decide +kernel
theorem dX6_round_163 : decode cX6_round 163 = .ok (.istore 9, 2) := by decide +kernel
theorem dX6_round_165 : decode cX6_round 165 = .ok (.iload 4, 2) := by decide +kernel
theorem dX6_round_167 : decode cX6_round 167 = .ok (.ifCond .ne 8, 3) := by decide +kernel
theorem dX6_round_170 : decode cX6_round 170 = .ok (.iload 9, 2) := by decide +kernel
theorem dX6_round_172 : decode cX6_round 172 = .ok (.goto 20, 3) := by decide +kernel
theorem dX6_round_175 : decode cX6_round 175 = .ok (.iload 9, 2) := by decide +kernel
theorem dX6_round_177 : decode cX6_round 177 = .ok (.aload_n 0, 1) := by decide +kernel
theorem dX6_round_178 : decode cX6_round 178 = .ok (.getfield 21, 3) := by decide +kernel
theorem dX6_round_181 : decode cX6_round 181 = .ok (.getfield 111, 3) := by decide +kernel
theorem dX6_round_184 : decode cX6_round 184 = .ok (.iload 8, 2) := by decide +kernel
theorem dX6_round_186 : decode cX6_round 186 = .ok (.imul, 1) := by decide +kernel
theorem dX6_round_187 : decode cX6_round 187 = .ok (.isub, 1) := by decide +kernel
theorem dX6_round_188 : decode cX6_round 188 = .ok (.sipush 1000, 3) := by decide +kernel
theorem dX6_round_191 : decode cX6_round 191 = .ok (.iadd, 1) := by decide +kernel
theorem dX6_round_192 : decode cX6_round 192 = .ok (.ireturn, 1) := by decide +kernel
theorem dX6_best_0 : decode cX6_best 0 = .ok (.iload_n 1, 1) := by decide +kernel
theorem dX6_best_1 : decode cX6_best 1 = .ok (.iconst (-1), 1) := by decide +kernel
theorem dX6_best_2 : decode cX6_best 2 = .ok (.if_icmp .lt 9, 3) := by decide +kernel
theorem dX6_best_5 : decode cX6_best 5 = .ok (.iload_n 1, 1) := by decide +kernel
theorem dX6_best_6 : decode cX6_best 6 = .ok (.bipush 6, 2) := by decide +kernel
theorem dX6_best_8 : decode cX6_best 8 = .ok (.if_icmp .lt 6, 3) := by decide +kernel
theorem dX6_best_11 : decode cX6_best 11 = .ok (.bipush (-2), 2) := by decide +kernel
theorem dX6_best_13 : decode cX6_best 13 = .ok (.ireturn, 1) := by decide +kernel
theorem dX6_best_14 : decode cX6_best 14 = .ok (.aload_n 0, 1) := by decide +kernel
theorem dX6_best_15 : decode cX6_best 15 = .ok (.getfield 21, 3) := by decide +kernel
theorem dX6_best_18 : decode cX6_best 18 = .ok (.invokevirtual 107, 3) := by decide +kernel
theorem dX6_best_21 : decode cX6_best 21 = .ok (.ifCond .ne 6, 3) := by decide +kernel
theorem dX6_best_24 : decode cX6_best 24 = .ok (.bipush (-3), 2) := by decide +kernel
theorem dX6_best_26 : decode cX6_best 26 = .ok (.ireturn, 1) := by decide +kernel
theorem dX6_best_27 : decode cX6_best 27 = .ok (.aload_n 0, 1) := by decide +kernel
theorem dX6_best_28 : decode cX6_best 28 = .ok (.bipush (-9), 2) := by decide +kernel
theorem dX6_best_30 : decode cX6_best 30 = .ok (.invokevirtual 135, 3) := by decide +kernel
theorem dX6_best_33 : decode cX6_best 33 = .ok (.iload_n 1, 1) := by decide +kernel
theorem dX6_best_34 : decode cX6_best 34 = .ok (.iconst (-1), 1) := by decide +kernel
theorem dX6_best_35 : decode cX6_best 35 = .ok (.if_icmp .ne 17, 3) := by decide +kernel
theorem dX6_best_38 : decode cX6_best 38 = .ok (.aload_n 0, 1) := by decide +kernel
theorem dX6_best_39 : decode cX6_best 39 = .ok (.getfield 35, 3) := by decide +kernel
theorem dX6_best_42 : decode cX6_best 42 = .ok (.getfield 139, 3) := by decide +kernel
theorem dX6_best_45 : decode cX6_best 45 = .ok (.sipush 1000, 3) := by decide +kernel
theorem dX6_best_48 : decode cX6_best 48 = .ok (.iadd, 1) := by decide +kernel
theorem dX6_best_49 : decode cX6_best 49 = .ok (.goto 12, 3) := by decide +kernel
theorem dX6_best_52 : decode cX6_best 52 = .ok (.aload_n 0, 1) := by decide +kernel
theorem dX6_best_53 : decode cX6_best 53 = .ok (.getfield 35, 3) := by decide +kernel
theorem dX6_best_56 : decode cX6_best 56 = .ok (.getfield 142, 3) := by decide +kernel
theorem dX6_best_59 : decode cX6_best 59 = .ok (.iload_n 1, 1) := by decide +kernel
theorem dX6_best_60 : decode cX6_best 60 = .ok (.iaload, 1) := by decide +kernel
theorem dX6_best_61 : decode cX6_best 61 = .ok (.ireturn, 1) := by decide +kernel
theorem dX6_mild_0 : decode cX6_mild 0 = .ok (.iload_n 1, 1) := by decide +kernel
theorem dX6_mild_1 : decode cX6_mild 1 = .ok (.ifCond .lt 9, 3) := by decide +kernel
theorem dX6_mild_4 : decode cX6_mild 4 = .ok (.iload_n 1, 1) := by decide +kernel
theorem dX6_mild_5 : decode cX6_mild 5 = .ok (.bipush 30, 2) := by decide +kernel
theorem dX6_mild_7 : decode cX6_mild 7 = .ok (.if_icmp .le 6, 3) := by decide +kernel
theorem dX6_mild_10 : decode cX6_mild 10 = .ok (.bipush (-2), 2) := by decide +kernel
theorem dX6_mild_12 : decode cX6_mild 12 = .ok (.ireturn, 1) := by decide +kernel
theorem dX6_mild_13 : decode cX6_mild 13 = .ok (.aload_n 0, 1) := by decide +kernel
theorem dX6_mild_14 : decode cX6_mild 14 = .ok (.getfield 21, 3) := by decide +kernel
theorem dX6_mild_17 : decode cX6_mild 17 = .ok (.invokevirtual 107, 3) := by decide +kernel
theorem dX6_mild_20 : decode cX6_mild 20 = .ok (.ifCond .ne 6, 3) := by decide +kernel
theorem dX6_mild_23 : decode cX6_mild 23 = .ok (.bipush (-3), 2) := by decide +kernel
theorem dX6_mild_25 : decode cX6_mild 25 = .ok (.ireturn, 1) := by decide +kernel
theorem dX6_mild_26 : decode cX6_mild 26 = .ok (.aload_n 0, 1) := by decide +kernel
theorem dX6_mild_27 : decode cX6_mild 27 = .ok (.getfield 35, 3) := by decide +kernel
theorem dX6_mild_30 : decode cX6_mild 30 = .ok (.invokevirtual 145, 3) := by decide +kernel
theorem dX6_mild_33 : decode cX6_mild 33 = .ok (.aload_n 0, 1) := by decide +kernel
theorem dX6_mild_34 : decode cX6_mild 34 = .ok (.getfield 35, 3) := by decide +kernel
theorem dX6_mild_37 : decode cX6_mild 37 = .ok (.iload_n 1, 1) := by decide +kernel
theorem dX6_mild_38 : decode cX6_mild 38 = .ok (.putfield 148, 3) := by decide +kernel
theorem dX6_mild_41 : decode cX6_mild 41 = .ok (.aload_n 0, 1) := by decide +kernel
theorem dX6_mild_42 : decode cX6_mild 42 = .ok (.getfield 35, 3) := by decide +kernel
theorem dX6_mild_45 : decode cX6_mild 45 = .ok (.aload_n 0, 1) := by decide +kernel
theorem dX6_mild_46 : decode cX6_mild 46 = .ok (.getfield 21, 3) := by decide +kernel
theorem dX6_mild_49 : decode cX6_mild 49 = .ok (.iconst 0, 1) := by decide +kernel
theorem dX6_mild_50 : decode cX6_mild 50 = .ok (.iconst 0, 1) := by decide +kernel
theorem dX6_mild_51 : decode cX6_mild 51 = .ok (.iconst 0, 1) := by decide +kernel
theorem dX6_mild_52 : decode cX6_mild 52 = .ok (.invokestatic 151, 3) := by decide +kernel
theorem dX6_mild_55 : decode cX6_mild 55 = .ok (.aload_n 0, 1) := by decide +kernel
theorem dX6_mild_56 : decode cX6_mild 56 = .ok (.getfield 35, 3) := by decide +kernel
theorem dX6_mild_59 : decode cX6_mild 59 = .ok (.getfield 155, 3) := by decide +kernel
theorem dX6_mild_62 : decode cX6_mild 62 = .ok (.ireturn, 1) := by decide +kernel
theorem dX6_worth_0 : decode cX6_worth 0 = .ok (.aload_n 0, 1) := by decide +kernel
theorem dX6_worth_1 : decode cX6_worth 1 = .ok (.getfield 21, 3) := by decide +kernel
theorem dX6_worth_4 : decode cX6_worth 4 = .ok (.iload_n 1, 1) := by decide +kernel
theorem dX6_worth_5 : decode cX6_worth 5 = .ok (.invokevirtual 79, 3) := by decide +kernel
theorem dX6_worth_8 : decode cX6_worth 8 = .ok (.ifCond .ne 5, 3) := by decide +kernel
theorem dX6_worth_11 : decode cX6_worth 11 = .ok (.iconst (-1), 1) := by decide +kernel
theorem dX6_worth_12 : decode cX6_worth 12 = .ok (.ireturn, 1) := by decide +kernel
theorem dX6_worth_13 : decode cX6_worth 13 = .ok (.aload_n 0, 1) := by decide +kernel
theorem dX6_worth_14 : decode cX6_worth 14 = .ok (.bipush (-9), 2) := by decide +kernel
theorem dX6_worth_16 : decode cX6_worth 16 = .ok (.invokevirtual 135, 3) := by decide +kernel
theorem dX6_worth_19 : decode cX6_worth 19 = .ok (.aload_n 0, 1) := by decide +kernel
theorem dX6_worth_20 : decode cX6_worth 20 = .ok (.getfield 35, 3) := by decide +kernel
theorem dX6_worth_23 : decode cX6_worth 23 = .ok (.getfield 139, 3) := by decide +kernel
theorem dX6_worth_26 : decode cX6_worth 26 = .ok (.istore_n 2, 1) := by decide +kernel
theorem dX6_worth_27 : decode cX6_worth 27 = .ok (.aload_n 0, 1) := by decide +kernel
theorem dX6_worth_28 : decode cX6_worth 28 = .ok (.iload_n 1, 1) := by decide +kernel
theorem dX6_worth_29 : decode cX6_worth 29 = .ok (.invokevirtual 135, 3) := by decide +kernel
theorem dX6_worth_32 : decode cX6_worth 32 = .ok (.iload_n 2, 1) := by decide +kernel
theorem dX6_worth_33 : decode cX6_worth 33 = .ok (.aload_n 0, 1) := by decide +kernel
theorem dX6_worth_34 : decode cX6_worth 34 = .ok (.getfield 35, 3) := by decide +kernel
theorem dX6_worth_37 : decode cX6_worth 37 = .ok (.getfield 139, 3) := by decide +kernel
theorem dX6_worth_40 : decode cX6_worth 40 = .ok (.isub, 1) := by decide +kernel
theorem dX6_worth_41 : decode cX6_worth 41 = .ok (.sipush 1000, 3) := by decide +kernel
theorem dX6_worth_44 : decode cX6_worth 44 = .ok (.iadd, 1) := by decide +kernel
theorem dX6_worth_45 : decode cX6_worth 45 = .ok (.ireturn, 1) := by decide +kernel
theorem dX6_shift_0 : decode cX6_shift 0 = .ok (.aload_n 0, 1) := by decide +kernel
theorem dX6_shift_1 : decode cX6_shift 1 = .ok (.getfield 21, 3) := by decide +kernel
theorem dX6_shift_4 : decode cX6_shift 4 = .ok (.iload_n 1, 1) := by decide +kernel
theorem dX6_shift_5 : decode cX6_shift 5 = .ok (.invokevirtual 79, 3) := by decide +kernel
theorem dX6_shift_8 : decode cX6_shift 8 = .ok (.ifCond .ne 5, 3) := by decide +kernel
theorem dX6_shift_11 : decode cX6_shift 11 = .ok (.iconst (-1), 1) := by decide +kernel
theorem dX6_shift_12 : decode cX6_shift 12 = .ok (.ireturn, 1) := by decide +kernel
theorem dX6_shift_13 : decode cX6_shift 13 = .ok (.aload_n 0, 1) := by decide +kernel
theorem dX6_shift_14 : decode cX6_shift 14 = .ok (.getfield 21, 3) := by decide +kernel
theorem dX6_shift_17 : decode cX6_shift 17 = .ok (.getfield 82, 3) := by decide +kernel
theorem dX6_shift_20 : decode cX6_shift 20 = .ok (.iload_n 1, 1) := by decide +kernel
theorem dX6_shift_21 : decode cX6_shift 21 = .ok (.aaload, 1) := by decide +kernel
theorem dX6_shift_22 : decode cX6_shift 22 = .ok (.astore_n 2, 1) := by decide +kernel
theorem dX6_shift_23 : decode cX6_shift 23 = .ok (.aload_n 2, 1) := by decide +kernel
theorem dX6_shift_24 : decode cX6_shift 24 = .ok (.getfield 100, 3) := by decide +kernel
theorem dX6_shift_27 : decode cX6_shift 27 = .ok (.istore_n 3, 1) := by decide +kernel
theorem dX6_shift_28 : decode cX6_shift 28 = .ok (.aload_n 0, 1) := by decide +kernel
theorem dX6_shift_29 : decode cX6_shift 29 = .ok (.iload_n 1, 1) := by decide +kernel
theorem dX6_shift_30 : decode cX6_shift 30 = .ok (.invokevirtual 158, 3) := by decide +kernel
theorem dX6_shift_33 : decode cX6_shift 33 = .ok (.istore 4, 2) := by decide +kernel
theorem dX6_shift_35 : decode cX6_shift 35 = .ok (.bipush (-9), 2) := by decide +kernel
theorem dX6_shift_37 : decode cX6_shift 37 = .ok (.istore 5, 2) := by decide +kernel
theorem dX6_shift_39 : decode cX6_shift 39 = .ok (.iconst 0, 1) := by decide +kernel
theorem dX6_shift_40 : decode cX6_shift 40 = .ok (.istore 6, 2) := by decide +kernel
theorem dX6_shift_42 : decode cX6_shift 42 = .ok (.iload 6, 2) := by decide +kernel
theorem dX6_shift_44 : decode cX6_shift 44 = .ok (.bipush 6, 2) := by decide +kernel
theorem dX6_shift_46 : decode cX6_shift 46 = .ok (.if_icmp .ge 52, 3) := by decide +kernel
theorem dX6_shift_49 : decode cX6_shift 49 = .ok (.iload_n 3, 1) := by decide +kernel
theorem dX6_shift_50 : decode cX6_shift 50 = .ok (.iload 6, 2) := by decide +kernel
theorem dX6_shift_52 : decode cX6_shift 52 = .ok (.invokestatic 161, 3) := by decide +kernel
theorem dX6_shift_55 : decode cX6_shift 55 = .ok (.ifCond .eq 37, 3) := by decide +kernel
theorem dX6_shift_58 : decode cX6_shift 58 = .ok (.aload_n 2, 1) := by decide +kernel
theorem dX6_shift_59 : decode cX6_shift 59 = .ok (.iload_n 3, 1) := by decide +kernel
theorem dX6_shift_60 : decode cX6_shift 60 = .ok (.iconst 1, 1) := by decide +kernel
theorem dX6_shift_61 : decode cX6_shift 61 = .ok (.iload 6, 2) := by decide +kernel
theorem dX6_shift_63 : decode cX6_shift 63 = .ok (.ishl, 1) := by decide +kernel
theorem dX6_shift_64 : decode cX6_shift 64 = .ok (.iconst (-1), 1) := by decide +kernel
theorem dX6_shift_65 : decode cX6_shift 65 = .ok (.ixor, 1) := by decide +kernel
theorem dX6_shift_66 : decode cX6_shift 66 = .ok (.iand, 1) := by decide +kernel
theorem dX6_shift_67 : decode cX6_shift 67 = .ok (.putfield 100, 3) := by decide +kernel
theorem dX6_shift_70 : decode cX6_shift 70 = .ok (.aload_n 0, 1) := by decide +kernel
theorem dX6_shift_71 : decode cX6_shift 71 = .ok (.iload_n 1, 1) := by decide +kernel
theorem dX6_shift_72 : decode cX6_shift 72 = .ok (.invokevirtual 158, 3) := by decide +kernel
theorem dX6_shift_75 : decode cX6_shift 75 = .ok (.istore 7, 2) := by decide +kernel
theorem dX6_shift_77 : decode cX6_shift 77 = .ok (.iload 7, 2) := by decide +kernel
theorem dX6_shift_79 : decode cX6_shift 79 = .ok (.iload 4, 2) := by decide +kernel
theorem dX6_shift_81 : decode cX6_shift 81 = .ok (.if_icmp .ge 11, 3) := by decide +kernel
theorem dX6_shift_84 : decode cX6_shift 84 = .ok (.iload 7, 2) := by decide +kernel
theorem dX6_shift_86 : decode cX6_shift 86 = .ok (.istore 4, 2) := by decide +kernel
theorem dX6_shift_88 : decode cX6_shift 88 = .ok (.iload 6, 2) := by decide +kernel
theorem dX6_shift_90 : decode cX6_shift 90 = .ok (.istore 5, 2) := by decide +kernel
theorem dX6_shift_92 : decode cX6_shift 92 = .ok (.iinc 6 1, 3) := by decide +kernel
theorem dX6_shift_95 : decode cX6_shift 95 = .ok (.goto (-53), 3) := by decide +kernel
theorem dX6_shift_98 : decode cX6_shift 98 = .ok (.aload_n 2, 1) := by decide +kernel
theorem dX6_shift_99 : decode cX6_shift 99 = .ok (.iload_n 3, 1) := by decide +kernel
theorem dX6_shift_100 : decode cX6_shift 100 = .ok (.putfield 100, 3) := by decide +kernel
theorem dX6_shift_103 : decode cX6_shift 103 = .ok (.iload 5, 2) := by decide +kernel
theorem dX6_shift_105 : decode cX6_shift 105 = .ok (.ireturn, 1) := by decide +kernel
theorem dX6_reading_0 : decode cX6_reading 0 = .ok (.aload_n 0, 1) := by decide +kernel
theorem dX6_reading_1 : decode cX6_reading 1 = .ok (.getfield 21, 3) := by decide +kernel
theorem dX6_reading_4 : decode cX6_reading 4 = .ok (.iload_n 1, 1) := by decide +kernel
theorem dX6_reading_5 : decode cX6_reading 5 = .ok (.invokevirtual 79, 3) := by decide +kernel
theorem dX6_reading_8 : decode cX6_reading 8 = .ok (.ifCond .ne 5, 3) := by decide +kernel
theorem dX6_reading_11 : decode cX6_reading 11 = .ok (.iconst (-1), 1) := by decide +kernel
theorem dX6_reading_12 : decode cX6_reading 12 = .ok (.ireturn, 1) := by decide +kernel
theorem dX6_reading_13 : decode cX6_reading 13 = .ok (.iload_n 2, 1) := by decide +kernel
theorem dX6_reading_14 : decode cX6_reading 14 = .ok (.invokestatic 165, 3) := by decide +kernel
theorem dX6_reading_17 : decode cX6_reading 17 = .ok (.ifCond .ne 6, 3) := by decide +kernel
theorem dX6_reading_20 : decode cX6_reading 20 = .ok (.bipush (-2), 2) := by decide +kernel
theorem dX6_reading_22 : decode cX6_reading 22 = .ok (.ireturn, 1) := by decide +kernel
theorem dX6_reading_23 : decode cX6_reading 23 = .ok (.aload_n 0, 1) := by decide +kernel
theorem dX6_reading_24 : decode cX6_reading 24 = .ok (.getfield 28, 3) := by decide +kernel
theorem dX6_reading_27 : decode cX6_reading 27 = .ok (.iload_n 1, 1) := by decide +kernel
theorem dX6_reading_28 : decode cX6_reading 28 = .ok (.iload_n 2, 1) := by decide +kernel
theorem dX6_reading_29 : decode cX6_reading 29 = .ok (.iload_n 3, 1) := by decide +kernel
theorem dX6_reading_30 : decode cX6_reading 30 = .ok (.invokevirtual 168, 3) := by decide +kernel
theorem dX6_reading_33 : decode cX6_reading 33 = .ok (.ireturn, 1) := by decide +kernel
theorem dX6_back_0 : decode cX6_back 0 = .ok (.iload_n 1, 1) := by decide +kernel
theorem dX6_back_1 : decode cX6_back 1 = .ok (.ifCond .lt 14, 3) := by decide +kernel
theorem dX6_back_4 : decode cX6_back 4 = .ok (.iload_n 1, 1) := by decide +kernel
theorem dX6_back_5 : decode cX6_back 5 = .ok (.aload_n 0, 1) := by decide +kernel
theorem dX6_back_6 : decode cX6_back 6 = .ok (.getfield 28, 3) := by decide +kernel
theorem dX6_back_9 : decode cX6_back 9 = .ok (.getfield 75, 3) := by decide +kernel
theorem dX6_back_12 : decode cX6_back 12 = .ok (.if_icmp .le 6, 3) := by decide +kernel
theorem dX6_back_15 : decode cX6_back 15 = .ok (.bipush (-2), 2) := by decide +kernel
theorem dX6_back_17 : decode cX6_back 17 = .ok (.ireturn, 1) := by decide +kernel
theorem dX6_back_18 : decode cX6_back 18 = .ok (.aload_n 0, 1) := by decide +kernel
theorem dX6_back_19 : decode cX6_back 19 = .ok (.getfield 28, 3) := by decide +kernel
theorem dX6_back_22 : decode cX6_back 22 = .ok (.dup, 1) := by decide +kernel
theorem dX6_back_23 : decode cX6_back 23 = .ok (.getfield 75, 3) := by decide +kernel
theorem dX6_back_26 : decode cX6_back 26 = .ok (.iload_n 1, 1) := by decide +kernel
theorem dX6_back_27 : decode cX6_back 27 = .ok (.isub, 1) := by decide +kernel
theorem dX6_back_28 : decode cX6_back 28 = .ok (.putfield 75, 3) := by decide +kernel
theorem dX6_back_31 : decode cX6_back 31 = .ok (.aload_n 0, 1) := by decide +kernel
theorem dX6_back_32 : decode cX6_back 32 = .ok (.getfield 28, 3) := by decide +kernel
theorem dX6_back_35 : decode cX6_back 35 = .ok (.getfield 75, 3) := by decide +kernel
theorem dX6_back_38 : decode cX6_back 38 = .ok (.ireturn, 1) := by decide +kernel
theorem dX6_rounds_0 : decode cX6_rounds 0 = .ok (.iload_n 1, 1) := by decide +kernel
theorem dX6_rounds_1 : decode cX6_rounds 1 = .ok (.iconst (-1), 1) := by decide +kernel
theorem dX6_rounds_2 : decode cX6_rounds 2 = .ok (.if_icmp .lt 9, 3) := by decide +kernel
theorem dX6_rounds_5 : decode cX6_rounds 5 = .ok (.iload_n 1, 1) := by decide +kernel
theorem dX6_rounds_6 : decode cX6_rounds 6 = .ok (.bipush 6, 2) := by decide +kernel
theorem dX6_rounds_8 : decode cX6_rounds 8 = .ok (.if_icmp .lt 6, 3) := by decide +kernel
theorem dX6_rounds_11 : decode cX6_rounds 11 = .ok (.bipush (-2), 2) := by decide +kernel
theorem dX6_rounds_13 : decode cX6_rounds 13 = .ok (.ireturn, 1) := by decide +kernel
theorem dX6_rounds_14 : decode cX6_rounds 14 = .ok (.aload_n 0, 1) := by decide +kernel
theorem dX6_rounds_15 : decode cX6_rounds 15 = .ok (.getfield 21, 3) := by decide +kernel
theorem dX6_rounds_18 : decode cX6_rounds 18 = .ok (.invokevirtual 107, 3) := by decide +kernel
theorem dX6_rounds_21 : decode cX6_rounds 21 = .ok (.ifCond .ne 6, 3) := by decide +kernel
theorem dX6_rounds_24 : decode cX6_rounds 24 = .ok (.bipush (-3), 2) := by decide +kernel
theorem dX6_rounds_26 : decode cX6_rounds 26 = .ok (.ireturn, 1) := by decide +kernel
theorem dX6_rounds_27 : decode cX6_rounds 27 = .ok (.aload_n 0, 1) := by decide +kernel
theorem dX6_rounds_28 : decode cX6_rounds 28 = .ok (.invokevirtual 172, 3) := by decide +kernel
theorem dX6_rounds_31 : decode cX6_rounds 31 = .ok (.iload_n 1, 1) := by decide +kernel
theorem dX6_rounds_32 : decode cX6_rounds 32 = .ok (.iconst (-1), 1) := by decide +kernel
theorem dX6_rounds_33 : decode cX6_rounds 33 = .ok (.if_icmp .ne 13, 3) := by decide +kernel
theorem dX6_rounds_36 : decode cX6_rounds 36 = .ok (.aload_n 0, 1) := by decide +kernel
theorem dX6_rounds_37 : decode cX6_rounds 37 = .ok (.getfield 35, 3) := by decide +kernel
theorem dX6_rounds_40 : decode cX6_rounds 40 = .ok (.getfield 175, 3) := by decide +kernel
theorem dX6_rounds_43 : decode cX6_rounds 43 = .ok (.goto 12, 3) := by decide +kernel
theorem dX6_rounds_46 : decode cX6_rounds 46 = .ok (.aload_n 0, 1) := by decide +kernel
theorem dX6_rounds_47 : decode cX6_rounds 47 = .ok (.getfield 35, 3) := by decide +kernel
theorem dX6_rounds_50 : decode cX6_rounds 50 = .ok (.getfield 176, 3) := by decide +kernel
theorem dX6_rounds_53 : decode cX6_rounds 53 = .ok (.iload_n 1, 1) := by decide +kernel
theorem dX6_rounds_54 : decode cX6_rounds 54 = .ok (.iaload, 1) := by decide +kernel
theorem dX6_rounds_55 : decode cX6_rounds 55 = .ok (.ireturn, 1) := by decide +kernel
theorem dX6_sure_0 : decode cX6_sure 0 = .ok (.iload_n 1, 1) := by decide +kernel
theorem dX6_sure_1 : decode cX6_sure 1 = .ok (.invokestatic 165, 3) := by decide +kernel
theorem dX6_sure_4 : decode cX6_sure 4 = .ok (.ifCond .ne 6, 3) := by decide +kernel
theorem dX6_sure_7 : decode cX6_sure 7 = .ok (.bipush (-2), 2) := by decide +kernel
theorem dX6_sure_9 : decode cX6_sure 9 = .ok (.ireturn, 1) := by decide +kernel
