theorem dX0_init_0 : decode cX0_init 0 = .ok (.aload_n 0, 1) := by decide +kernel
theorem dX0_init_1 : decode cX0_init 1 = .ok (.invokespecial 3, 3) := by decide +kernel
theorem dX0_init_4 : decode cX0_init 4 = .ok (.aload_n 0, 1) := by decide +kernel
theorem dX0_init_5 : decode cX0_init 5 = .ok (.iconst (-1), 1) := by decide +kernel
theorem dX0_init_6 : decode cX0_init 6 = .ok (.putfield 9, 3) := by decide +kernel
theorem dX0_init_9 : decode cX0_init 9 = .ok (.aload_n 0, 1) := by decide +kernel
theorem dX0_init_10 : decode cX0_init 10 = .ok (.iconst 0, 1) := by decide +kernel
theorem dX0_init_11 : decode cX0_init 11 = .ok (.putfield 15, 3) := by decide +kernel
theorem dX0_init_14 : decode cX0_init 14 = .ok (.aload_n 0, 1) := by decide +kernel
theorem dX0_init_15 : decode cX0_init 15 = .ok (.iconst 0, 1) := by decide +kernel
theorem dX0_init_16 : decode cX0_init 16 = .ok (.putfield 18, 3) := by decide +kernel
theorem dX0_init_19 : decode cX0_init 19 = .ok (.aload_n 0, 1) := by decide +kernel
theorem dX0_init_20 : decode cX0_init 20 = .ok (.iconst 0, 1) := by decide +kernel
theorem dX0_init_21 : decode cX0_init 21 = .ok (.putfield 21, 3) := by decide +kernel
theorem dX0_init_24 : decode cX0_init 24 = .ok (.aload_n 0, 1) := by decide +kernel
theorem dX0_init_25 : decode cX0_init 25 = .ok (.iconst (-1), 1) := by decide +kernel
theorem dX0_init_26 : decode cX0_init 26 = .ok (.putfield 24, 3) := by decide +kernel
theorem dX0_init_29 : decode cX0_init 29 = .ok (.aload_n 0, 1) := by decide +kernel
theorem dX0_init_30 : decode cX0_init 30 = .ok (.iconst (-1), 1) := by decide +kernel
theorem dX0_init_31 : decode cX0_init 31 = .ok (.putfield 27, 3) := by decide +kernel
theorem dX0_init_34 : decode cX0_init 34 = .ok (.aload_n 0, 1) := by decide +kernel
theorem dX0_init_35 : decode cX0_init 35 = .ok (.iconst 0, 1) := by decide +kernel
theorem dX0_init_36 : decode cX0_init 36 = .ok (.putfield 30, 3) := by decide +kernel
theorem dX0_init_39 : decode cX0_init 39 = .ok (.aload_n 0, 1) := by decide +kernel
theorem dX0_init_40 : decode cX0_init 40 = .ok (.iload_n 1, 1) := by decide +kernel
theorem dX0_init_41 : decode cX0_init 41 = .ok (.putfield 33, 3) := by decide +kernel
theorem dX0_init_44 : decode cX0_init 44 = .ok (.aload_n 0, 1) := by decide +kernel
theorem dX0_init_45 : decode cX0_init 45 = .ok (.iload_n 2, 1) := by decide +kernel
theorem dX0_init_46 : decode cX0_init 46 = .ok (.putfield 36, 3) := by decide +kernel
theorem dX0_init_49 : decode cX0_init 49 = .ok (.aload_n 0, 1) := by decide +kernel
theorem dX0_init_50 : decode cX0_init 50 = .ok (.iload_n 3, 1) := by decide +kernel
theorem dX0_init_51 : decode cX0_init 51 = .ok (.putfield 39, 3) := by decide +kernel
theorem dX0_init_54 : decode cX0_init 54 = .ok (.aload_n 0, 1) := by decide +kernel
theorem dX0_init_55 : decode cX0_init 55 = .ok (.iload 4, 2) := by decide +kernel
theorem dX0_init_57 : decode cX0_init 57 = .ok (.putfield 42, 3) := by decide +kernel
theorem dX0_init_60 : decode cX0_init 60 = .ok (.aload_n 0, 1) := by decide +kernel
theorem dX0_init_61 : decode cX0_init 61 = .ok (.iload_n 3, 1) := by decide +kernel
theorem dX0_init_62 : decode cX0_init 62 = .ok (.ifCond .ne 7, 3) := by decide +kernel
theorem dX0_init_65 : decode cX0_init 65 = .ok (.iconst 1, 1) := by decide +kernel
theorem dX0_init_66 : decode cX0_init 66 = .ok (.goto 4, 3) := by decide +kernel
theorem dX0_init_69 : decode cX0_init 69 = .ok (.iconst 0, 1) := by decide +kernel
theorem dX0_init_70 : decode cX0_init 70 = .ok (.putfield 45, 3) := by decide +kernel
theorem dX0_init_73 : decode cX0_init 73 = .ok (.return_, 1) := by decide +kernel
theorem dX0_takePart_0 : decode cX0_takePart 0 = .ok (.aload_n 0, 1) := by decide +kernel
theorem dX0_takePart_1 : decode cX0_takePart 1 = .ok (.getfield 15, 3) := by decide +kernel
theorem dX0_takePart_4 : decode cX0_takePart 4 = .ok (.ifCond .eq 11, 3) := by decide +kernel
theorem dX0_takePart_7 : decode cX0_takePart 7 = .ok (.aload_n 0, 1) := by decide +kernel
theorem dX0_takePart_8 : decode cX0_takePart 8 = .ok (.getfield 15, 3) := by decide +kernel
theorem dX0_takePart_11 : decode cX0_takePart 11 = .ok (.iconst 4, 1) := by decide +kernel
theorem dX0_takePart_12 : decode cX0_takePart 12 = .ok (.if_icmp .ne 7, 3) := by decide +kernel
theorem dX0_takePart_15 : decode cX0_takePart 15 = .ok (.iconst 1, 1) := by decide +kernel
theorem dX0_takePart_16 : decode cX0_takePart 16 = .ok (.goto 4, 3) := by decide +kernel
theorem dX0_takePart_19 : decode cX0_takePart 19 = .ok (.iconst 0, 1) := by decide +kernel
theorem dX0_takePart_20 : decode cX0_takePart 20 = .ok (.istore_n 2, 1) := by decide +kernel
theorem dX0_takePart_21 : decode cX0_takePart 21 = .ok (.iload_n 2, 1) := by decide +kernel
theorem dX0_takePart_22 : decode cX0_takePart 22 = .ok (.ifCond .eq 15, 3) := by decide +kernel
theorem dX0_takePart_25 : decode cX0_takePart 25 = .ok (.iload_n 1, 1) := by decide +kernel
theorem dX0_takePart_26 : decode cX0_takePart 26 = .ok (.ifCond .ne 7, 3) := by decide +kernel
theorem dX0_takePart_29 : decode cX0_takePart 29 = .ok (.iconst 1, 1) := by decide +kernel
theorem dX0_takePart_30 : decode cX0_takePart 30 = .ok (.goto 28, 3) := by decide +kernel
theorem dX0_takePart_33 : decode cX0_takePart 33 = .ok (.iconst 0, 1) := by decide +kernel
theorem dX0_takePart_34 : decode cX0_takePart 34 = .ok (.goto 24, 3) := by decide +kernel
theorem dX0_takePart_37 : decode cX0_takePart 37 = .ok (.aload_n 0, 1) := by decide +kernel
theorem dX0_takePart_38 : decode cX0_takePart 38 = .ok (.getfield 15, 3) := by decide +kernel
theorem dX0_takePart_41 : decode cX0_takePart 41 = .ok (.iconst 1, 1) := by decide +kernel
theorem dX0_takePart_42 : decode cX0_takePart 42 = .ok (.if_icmp .ne 15, 3) := by decide +kernel
theorem dX0_takePart_45 : decode cX0_takePart 45 = .ok (.iload_n 1, 1) := by decide +kernel
theorem dX0_takePart_46 : decode cX0_takePart 46 = .ok (.aload_n 0, 1) := by decide +kernel
theorem dX0_takePart_47 : decode cX0_takePart 47 = .ok (.getfield 21, 3) := by decide +kernel
theorem dX0_takePart_50 : decode cX0_takePart 50 = .ok (.if_icmp .ne 7, 3) := by decide +kernel
theorem dX0_takePart_53 : decode cX0_takePart 53 = .ok (.iconst 1, 1) := by decide +kernel
theorem dX0_takePart_54 : decode cX0_takePart 54 = .ok (.goto 4, 3) := by decide +kernel
theorem dX0_takePart_57 : decode cX0_takePart 57 = .ok (.iconst 0, 1) := by decide +kernel
theorem dX0_takePart_58 : decode cX0_takePart 58 = .ok (.istore_n 3, 1) := by decide +kernel
theorem dX0_takePart_59 : decode cX0_takePart 59 = .ok (.iload_n 3, 1) := by decide +kernel
theorem dX0_takePart_60 : decode cX0_takePart 60 = .ok (.ifCond .ne 5, 3) := by decide +kernel
theorem dX0_takePart_63 : decode cX0_takePart 63 = .ok (.iconst 0, 1) := by decide +kernel
theorem dX0_takePart_64 : decode cX0_takePart 64 = .ok (.ireturn, 1) := by decide +kernel
theorem dX0_takePart_65 : decode cX0_takePart 65 = .ok (.iload_n 2, 1) := by decide +kernel
theorem dX0_takePart_66 : decode cX0_takePart 66 = .ok (.ifCond .eq 11, 3) := by decide +kernel
theorem dX0_takePart_69 : decode cX0_takePart 69 = .ok (.aload_n 0, 1) := by decide +kernel
theorem dX0_takePart_70 : decode cX0_takePart 70 = .ok (.aload_n 0, 1) := by decide +kernel
theorem dX0_takePart_71 : decode cX0_takePart 71 = .ok (.getfield 15, 3) := by decide +kernel
theorem dX0_takePart_74 : decode cX0_takePart 74 = .ok (.putfield 18, 3) := by decide +kernel
theorem dX0_takePart_77 : decode cX0_takePart 77 = .ok (.aload_n 0, 1) := by decide +kernel
theorem dX0_takePart_78 : decode cX0_takePart 78 = .ok (.iload_n 1, 1) := by decide +kernel
theorem dX0_takePart_79 : decode cX0_takePart 79 = .ok (.iconst 1, 1) := by decide +kernel
theorem dX0_takePart_80 : decode cX0_takePart 80 = .ok (.iadd, 1) := by decide +kernel
theorem dX0_takePart_81 : decode cX0_takePart 81 = .ok (.putfield 21, 3) := by decide +kernel
theorem dX0_takePart_84 : decode cX0_takePart 84 = .ok (.aload_n 0, 1) := by decide +kernel
theorem dX0_takePart_85 : decode cX0_takePart 85 = .ok (.aload_n 0, 1) := by decide +kernel
theorem dX0_takePart_86 : decode cX0_takePart 86 = .ok (.getfield 21, 3) := by decide +kernel
theorem dX0_takePart_89 : decode cX0_takePart 89 = .ok (.aload_n 0, 1) := by decide +kernel
theorem dX0_takePart_90 : decode cX0_takePart 90 = .ok (.getfield 42, 3) := by decide +kernel
theorem dX0_takePart_93 : decode cX0_takePart 93 = .ok (.if_icmp .ne 7, 3) := by decide +kernel
theorem dX0_takePart_96 : decode cX0_takePart 96 = .ok (.iconst 2, 1) := by decide +kernel
theorem dX0_takePart_97 : decode cX0_takePart 97 = .ok (.goto 4, 3) := by decide +kernel
theorem dX0_takePart_100 : decode cX0_takePart 100 = .ok (.iconst 1, 1) := by decide +kernel
theorem dX0_takePart_101 : decode cX0_takePart 101 = .ok (.putfield 15, 3) := by decide +kernel
theorem dX0_takePart_104 : decode cX0_takePart 104 = .ok (.aload_n 0, 1) := by decide +kernel
theorem dX0_takePart_105 : decode cX0_takePart 105 = .ok (.getfield 15, 3) := by decide +kernel
theorem dX0_takePart_108 : decode cX0_takePart 108 = .ok (.iconst 2, 1) := by decide +kernel
theorem dX0_takePart_109 : decode cX0_takePart 109 = .ok (.if_icmp .ne 7, 3) := by decide +kernel
theorem dX0_takePart_112 : decode cX0_takePart 112 = .ok (.iconst 1, 1) := by decide +kernel
theorem dX0_takePart_113 : decode cX0_takePart 113 = .ok (.goto 4, 3) := by decide +kernel
theorem dX0_takePart_116 : decode cX0_takePart 116 = .ok (.iconst 0, 1) := by decide +kernel
theorem dX0_takePart_117 : decode cX0_takePart 117 = .ok (.ireturn, 1) := by decide +kernel
theorem dX0_takeDecision_0 : decode cX0_takeDecision 0 = .ok (.iload_n 1, 1) := by decide +kernel
theorem dX0_takeDecision_1 : decode cX0_takeDecision 1 = .ok (.ifCond .ne 13, 3) := by decide +kernel
theorem dX0_takeDecision_4 : decode cX0_takeDecision 4 = .ok (.aload_n 0, 1) := by decide +kernel
theorem dX0_takeDecision_5 : decode cX0_takeDecision 5 = .ok (.dup, 1) := by decide +kernel
theorem dX0_takeDecision_6 : decode cX0_takeDecision 6 = .ok (.getfield 30, 3) := by decide +kernel
theorem dX0_takeDecision_9 : decode cX0_takeDecision 9 = .ok (.iconst 1, 1) := by decide +kernel
theorem dX0_takeDecision_10 : decode cX0_takeDecision 10 = .ok (.iadd, 1) := by decide +kernel
theorem dX0_takeDecision_11 : decode cX0_takeDecision 11 = .ok (.putfield 30, 3) := by decide +kernel
theorem dX0_takeDecision_14 : decode cX0_takeDecision 14 = .ok (.aload_n 0, 1) := by decide +kernel
theorem dX0_takeDecision_15 : decode cX0_takeDecision 15 = .ok (.iload_n 1, 1) := by decide +kernel
theorem dX0_takeDecision_16 : decode cX0_takeDecision 16 = .ok (.putfield 24, 3) := by decide +kernel
theorem dX0_takeDecision_19 : decode cX0_takeDecision 19 = .ok (.aload_n 0, 1) := by decide +kernel
theorem dX0_takeDecision_20 : decode cX0_takeDecision 20 = .ok (.aload_n 0, 1) := by decide +kernel
theorem dX0_takeDecision_21 : decode cX0_takeDecision 21 = .ok (.getfield 39, 3) := by decide +kernel
theorem dX0_takeDecision_24 : decode cX0_takeDecision 24 = .ok (.iconst 2, 1) := by decide +kernel
theorem dX0_takeDecision_25 : decode cX0_takeDecision 25 = .ok (.if_icmp .ne 7, 3) := by decide +kernel
theorem dX0_takeDecision_28 : decode cX0_takeDecision 28 = .ok (.iconst 3, 1) := by decide +kernel
theorem dX0_takeDecision_29 : decode cX0_takeDecision 29 = .ok (.goto 4, 3) := by decide +kernel
theorem dX0_takeDecision_32 : decode cX0_takeDecision 32 = .ok (.iconst 4, 1) := by decide +kernel
theorem dX0_takeDecision_33 : decode cX0_takeDecision 33 = .ok (.putfield 15, 3) := by decide +kernel
theorem dX0_takeDecision_36 : decode cX0_takeDecision 36 = .ok (.return_, 1) := by decide +kernel
theorem dX0_forgetDecided_0 : decode cX0_forgetDecided 0 = .ok (.aload_n 0, 1) := by decide +kernel
theorem dX0_forgetDecided_1 : decode cX0_forgetDecided 1 = .ok (.getfield 15, 3) := by decide +kernel
theorem dX0_forgetDecided_4 : decode cX0_forgetDecided 4 = .ok (.iconst 3, 1) := by decide +kernel
theorem dX0_forgetDecided_5 : decode cX0_forgetDecided 5 = .ok (.if_icmp .ne 8, 3) := by decide +kernel
theorem dX0_forgetDecided_8 : decode cX0_forgetDecided 8 = .ok (.aload_n 0, 1) := by decide +kernel
theorem dX0_forgetDecided_9 : decode cX0_forgetDecided 9 = .ok (.iconst 4, 1) := by decide +kernel
theorem dX0_forgetDecided_10 : decode cX0_forgetDecided 10 = .ok (.putfield 15, 3) := by decide +kernel
theorem dX0_forgetDecided_13 : decode cX0_forgetDecided 13 = .ok (.return_, 1) := by decide +kernel
theorem dX0_settle_0 : decode cX0_settle 0 = .ok (.aload_n 0, 1) := by decide +kernel
theorem dX0_settle_1 : decode cX0_settle 1 = .ok (.getfield 45, 3) := by decide +kernel
theorem dX0_settle_4 : decode cX0_settle 4 = .ok (.ifCond .eq 5, 3) := by decide +kernel
theorem dX0_settle_7 : decode cX0_settle 7 = .ok (.iconst 0, 1) := by decide +kernel
theorem dX0_settle_8 : decode cX0_settle 8 = .ok (.ireturn, 1) := by decide +kernel
theorem dX0_settle_9 : decode cX0_settle 9 = .ok (.aload_n 0, 1) := by decide +kernel
theorem dX0_settle_10 : decode cX0_settle 10 = .ok (.iconst 1, 1) := by decide +kernel
theorem dX0_settle_11 : decode cX0_settle 11 = .ok (.putfield 45, 3) := by decide +kernel
theorem dX0_settle_14 : decode cX0_settle 14 = .ok (.aload_n 0, 1) := by decide +kernel
theorem dX0_settle_15 : decode cX0_settle 15 = .ok (.iload_n 1, 1) := by decide +kernel
theorem dX0_settle_16 : decode cX0_settle 16 = .ok (.putfield 9, 3) := by decide +kernel
theorem dX0_settle_19 : decode cX0_settle 19 = .ok (.iconst 1, 1) := by decide +kernel
theorem dX0_settle_20 : decode cX0_settle 20 = .ok (.ireturn, 1) := by decide +kernel
theorem dX0_bringTogether_0 : decode cX0_bringTogether 0 = .ok (.aload_n 0, 1) := by decide +kernel
theorem dX0_bringTogether_1 : decode cX0_bringTogether 1 = .ok (.getfield 15, 3) := by decide +kernel
theorem dX0_bringTogether_4 : decode cX0_bringTogether 4 = .ok (.iconst 1, 1) := by decide +kernel
theorem dX0_bringTogether_5 : decode cX0_bringTogether 5 = .ok (.if_icmp .ne 14, 3) := by decide +kernel
theorem dX0_bringTogether_8 : decode cX0_bringTogether 8 = .ok (.aload_n 0, 1) := by decide +kernel
theorem dX0_bringTogether_9 : decode cX0_bringTogether 9 = .ok (.aload_n 0, 1) := by decide +kernel
theorem dX0_bringTogether_10 : decode cX0_bringTogether 10 = .ok (.getfield 18, 3) := by decide +kernel
theorem dX0_bringTogether_13 : decode cX0_bringTogether 13 = .ok (.putfield 15, 3) := by decide +kernel
theorem dX0_bringTogether_16 : decode cX0_bringTogether 16 = .ok (.goto 25, 3) := by decide +kernel
theorem dX0_bringTogether_19 : decode cX0_bringTogether 19 = .ok (.aload_n 0, 1) := by decide +kernel
theorem dX0_bringTogether_20 : decode cX0_bringTogether 20 = .ok (.getfield 15, 3) := by decide +kernel
theorem dX0_bringTogether_23 : decode cX0_bringTogether 23 = .ok (.iconst 3, 1) := by decide +kernel
theorem dX0_bringTogether_24 : decode cX0_bringTogether 24 = .ok (.if_icmp .ne 17, 3) := by decide +kernel
theorem dX0_bringTogether_27 : decode cX0_bringTogether 27 = .ok (.aload_n 0, 1) := by decide +kernel
theorem dX0_bringTogether_28 : decode cX0_bringTogether 28 = .ok (.aload_n 0, 1) := by decide +kernel
theorem dX0_bringTogether_29 : decode cX0_bringTogether 29 = .ok (.getfield 24, 3) := by decide +kernel
theorem dX0_bringTogether_32 : decode cX0_bringTogether 32 = .ok (.invokevirtual 48, 3) := by decide +kernel
theorem dX0_bringTogether_35 : decode cX0_bringTogether 35 = .ok (.pop, 1) := by decide +kernel
theorem dX0_bringTogether_36 : decode cX0_bringTogether 36 = .ok (.aload_n 0, 1) := by decide +kernel
theorem dX0_bringTogether_37 : decode cX0_bringTogether 37 = .ok (.iconst 4, 1) := by decide +kernel
theorem dX0_bringTogether_38 : decode cX0_bringTogether 38 = .ok (.putfield 15, 3) := by decide +kernel
theorem dX0_bringTogether_41 : decode cX0_bringTogether 41 = .ok (.return_, 1) := by decide +kernel
theorem dX0_goesAnew_0 : decode cX0_goesAnew 0 = .ok (.aload_n 0, 1) := by decide +kernel
theorem dX0_goesAnew_1 : decode cX0_goesAnew 1 = .ok (.getfield 15, 3) := by decide +kernel
theorem dX0_goesAnew_4 : decode cX0_goesAnew 4 = .ok (.ifCond .eq 19, 3) := by decide +kernel
theorem dX0_goesAnew_7 : decode cX0_goesAnew 7 = .ok (.aload_n 0, 1) := by decide +kernel
theorem dX0_goesAnew_8 : decode cX0_goesAnew 8 = .ok (.getfield 15, 3) := by decide +kernel
theorem dX0_goesAnew_11 : decode cX0_goesAnew 11 = .ok (.iconst 1, 1) := by decide +kernel
theorem dX0_goesAnew_12 : decode cX0_goesAnew 12 = .ok (.if_icmp .eq 11, 3) := by decide +kernel
theorem dX0_goesAnew_15 : decode cX0_goesAnew 15 = .ok (.aload_n 0, 1) := by decide +kernel
theorem dX0_goesAnew_16 : decode cX0_goesAnew 16 = .ok (.getfield 15, 3) := by decide +kernel
theorem dX0_goesAnew_19 : decode cX0_goesAnew 19 = .ok (.iconst 4, 1) := by decide +kernel
theorem dX0_goesAnew_20 : decode cX0_goesAnew 20 = .ok (.if_icmp .ne 7, 3) := by decide +kernel
theorem dX0_goesAnew_23 : decode cX0_goesAnew 23 = .ok (.iconst 1, 1) := by decide +kernel
theorem dX0_goesAnew_24 : decode cX0_goesAnew 24 = .ok (.goto 4, 3) := by decide +kernel
theorem dX0_goesAnew_27 : decode cX0_goesAnew 27 = .ok (.iconst 0, 1) := by decide +kernel
theorem dX0_goesAnew_28 : decode cX0_goesAnew 28 = .ok (.istore_n 1, 1) := by decide +kernel
theorem dX0_goesAnew_29 : decode cX0_goesAnew 29 = .ok (.aload_n 0, 1) := by decide +kernel
theorem dX0_goesAnew_30 : decode cX0_goesAnew 30 = .ok (.getfield 45, 3) := by decide +kernel
theorem dX0_goesAnew_33 : decode cX0_goesAnew 33 = .ok (.ifCond .ne 11, 3) := by decide +kernel
theorem dX0_goesAnew_36 : decode cX0_goesAnew 36 = .ok (.iload_n 1, 1) := by decide +kernel
theorem dX0_goesAnew_37 : decode cX0_goesAnew 37 = .ok (.ifCond .eq 7, 3) := by decide +kernel
theorem dX0_goesAnew_40 : decode cX0_goesAnew 40 = .ok (.iconst 1, 1) := by decide +kernel
theorem dX0_goesAnew_41 : decode cX0_goesAnew 41 = .ok (.goto 4, 3) := by decide +kernel
theorem dX0_goesAnew_44 : decode cX0_goesAnew 44 = .ok (.iconst 0, 1) := by decide +kernel
theorem dX0_goesAnew_45 : decode cX0_goesAnew 45 = .ok (.ireturn, 1) := by decide +kernel
theorem dX1_init_0 : decode cX1_init 0 = .ok (.aload_n 0, 1) := by decide +kernel
theorem dX1_init_1 : decode cX1_init 1 = .ok (.invokespecial 3, 3) := by decide +kernel
theorem dX1_init_4 : decode cX1_init 4 = .ok (.aload_n 0, 1) := by decide +kernel
theorem dX1_init_5 : decode cX1_init 5 = .ok (.iconst 0, 1) := by decide +kernel
theorem dX1_init_6 : decode cX1_init 6 = .ok (.putfield 9, 3) := by decide +kernel
theorem dX1_init_9 : decode cX1_init 9 = .ok (.aload_n 0, 1) := by decide +kernel
theorem dX1_init_10 : decode cX1_init 10 = .ok (.iconst 0, 1) := by decide +kernel
theorem dX1_init_11 : decode cX1_init 11 = .ok (.putfield 15, 3) := by decide +kernel
theorem dX1_init_14 : decode cX1_init 14 = .ok (.aload_n 0, 1) := by decide +kernel
theorem dX1_init_15 : decode cX1_init 15 = .ok (.iconst 0, 1) := by decide +kernel
theorem dX1_init_16 : decode cX1_init 16 = .ok (.putfield 18, 3) := by decide +kernel
theorem dX1_init_19 : decode cX1_init 19 = .ok (.aload_n 0, 1) := by decide +kernel
theorem dX1_init_20 : decode cX1_init 20 = .ok (.iconst 0, 1) := by decide +kernel
theorem dX1_init_21 : decode cX1_init 21 = .ok (.putfield 21, 3) := by decide +kernel
theorem dX1_init_24 : decode cX1_init 24 = .ok (.return_, 1) := by decide +kernel
theorem dX1_creditLeft_0 : decode cX1_creditLeft 0 = .ok (.aload_n 0, 1) := by decide +kernel
theorem dX1_creditLeft_1 : decode cX1_creditLeft 1 = .ok (.getfield 18, 3) := by decide +kernel
theorem dX1_creditLeft_4 : decode cX1_creditLeft 4 = .ok (.aload_n 0, 1) := by decide +kernel
theorem dX1_creditLeft_5 : decode cX1_creditLeft 5 = .ok (.getfield 15, 3) := by decide +kernel
theorem dX1_creditLeft_8 : decode cX1_creditLeft 8 = .ok (.isub, 1) := by decide +kernel
theorem dX1_creditLeft_9 : decode cX1_creditLeft 9 = .ok (.invokestatic 24, 3) := by decide +kernel
theorem dX1_creditLeft_12 : decode cX1_creditLeft 12 = .ok (.ireturn, 1) := by decide +kernel
theorem dX1_countSent_0 : decode cX1_countSent 0 = .ok (.aload_n 0, 1) := by decide +kernel
theorem dX1_countSent_1 : decode cX1_countSent 1 = .ok (.aload_n 0, 1) := by decide +kernel
theorem dX1_countSent_2 : decode cX1_countSent 2 = .ok (.getfield 15, 3) := by decide +kernel
theorem dX1_countSent_5 : decode cX1_countSent 5 = .ok (.iconst 1, 1) := by decide +kernel
theorem dX1_countSent_6 : decode cX1_countSent 6 = .ok (.iadd, 1) := by decide +kernel
theorem dX1_countSent_7 : decode cX1_countSent 7 = .ok (.invokestatic 24, 3) := by decide +kernel
theorem dX1_countSent_10 : decode cX1_countSent 10 = .ok (.putfield 15, 3) := by decide +kernel
theorem dX1_countSent_13 : decode cX1_countSent 13 = .ok (.return_, 1) := by decide +kernel
theorem dX1_countCome_0 : decode cX1_countCome 0 = .ok (.aload_n 0, 1) := by decide +kernel
theorem dX1_countCome_1 : decode cX1_countCome 1 = .ok (.aload_n 0, 1) := by decide +kernel
theorem dX1_countCome_2 : decode cX1_countCome 2 = .ok (.getfield 21, 3) := by decide +kernel
theorem dX1_countCome_5 : decode cX1_countCome 5 = .ok (.iconst 1, 1) := by decide +kernel
theorem dX1_countCome_6 : decode cX1_countCome 6 = .ok (.iadd, 1) := by decide +kernel
theorem dX1_countCome_7 : decode cX1_countCome 7 = .ok (.invokestatic 24, 3) := by decide +kernel
theorem dX1_countCome_10 : decode cX1_countCome 10 = .ok (.putfield 21, 3) := by decide +kernel
theorem dX1_countCome_13 : decode cX1_countCome 13 = .ok (.return_, 1) := by decide +kernel
theorem dX1_startAgain_0 : decode cX1_startAgain 0 = .ok (.aload_n 0, 1) := by decide +kernel
theorem dX1_startAgain_1 : decode cX1_startAgain 1 = .ok (.aload_n 0, 1) := by decide +kernel
theorem dX1_startAgain_2 : decode cX1_startAgain 2 = .ok (.getfield 15, 3) := by decide +kernel
theorem dX1_startAgain_5 : decode cX1_startAgain 5 = .ok (.putfield 21, 3) := by decide +kernel
theorem dX1_startAgain_8 : decode cX1_startAgain 8 = .ok (.aload_n 0, 1) := by decide +kernel
theorem dX1_startAgain_9 : decode cX1_startAgain 9 = .ok (.aload_n 0, 1) := by decide +kernel
theorem dX1_startAgain_10 : decode cX1_startAgain 10 = .ok (.getfield 15, 3) := by decide +kernel
theorem dX1_startAgain_13 : decode cX1_startAgain 13 = .ok (.putfield 18, 3) := by decide +kernel
theorem dX1_startAgain_16 : decode cX1_startAgain 16 = .ok (.return_, 1) := by decide +kernel
theorem dX2_init_0 : decode cX2_init 0 = .ok (.aload_n 0, 1) := by decide +kernel
theorem dX2_init_1 : decode cX2_init 1 = .ok (.invokespecial 3, 3) := by decide +kernel
theorem dX2_init_4 : decode cX2_init 4 = .ok (.aload_n 0, 1) := by decide +kernel
theorem dX2_init_5 : decode cX2_init 5 = .ok (.sipush 512, 3) := by decide +kernel
theorem dX2_init_8 : decode cX2_init 8 = .ok (.newarray .int, 2) := by decide +kernel
theorem dX2_init_10 : decode cX2_init 10 = .ok (.putfield 9, 3) := by decide +kernel
theorem dX2_init_13 : decode cX2_init 13 = .ok (.aload_n 0, 1) := by decide +kernel
theorem dX2_init_14 : decode cX2_init 14 = .ok (.sipush 512, 3) := by decide +kernel
theorem dX2_init_17 : decode cX2_init 17 = .ok (.newarray .int, 2) := by decide +kernel
theorem dX2_init_19 : decode cX2_init 19 = .ok (.putfield 13, 3) := by decide +kernel
theorem dX2_init_22 : decode cX2_init 22 = .ok (.aload_n 0, 1) := by decide +kernel
theorem dX2_init_23 : decode cX2_init 23 = .ok (.sipush 512, 3) := by decide +kernel
theorem dX2_init_26 : decode cX2_init 26 = .ok (.newarray .int, 2) := by decide +kernel
theorem dX2_init_28 : decode cX2_init 28 = .ok (.putfield 16, 3) := by decide +kernel
theorem dX2_init_31 : decode cX2_init 31 = .ok (.aload_n 0, 1) := by decide +kernel
theorem dX2_init_32 : decode cX2_init 32 = .ok (.iconst 0, 1) := by decide +kernel
theorem dX2_init_33 : decode cX2_init 33 = .ok (.putfield 19, 3) := by decide +kernel
theorem dX2_init_36 : decode cX2_init 36 = .ok (.aload_n 0, 1) := by decide +kernel
theorem dX2_init_37 : decode cX2_init 37 = .ok (.iconst 0, 1) := by decide +kernel
theorem dX2_init_38 : decode cX2_init 38 = .ok (.putfield 23, 3) := by decide +kernel
theorem dX2_init_41 : decode cX2_init 41 = .ok (.return_, 1) := by decide +kernel
theorem dX2_length_0 : decode cX2_length 0 = .ok (.aload_n 0, 1) := by decide +kernel
theorem dX2_length_1 : decode cX2_length 1 = .ok (.getfield 23, 3) := by decide +kernel
theorem dX2_length_4 : decode cX2_length 4 = .ok (.ireturn, 1) := by decide +kernel
theorem dX2_add_0 : decode cX2_add 0 = .ok (.aload_n 0, 1) := by decide +kernel
theorem dX2_add_1 : decode cX2_add 1 = .ok (.getfield 23, 3) := by decide +kernel
theorem dX2_add_4 : decode cX2_add 4 = .ok (.sipush 512, 3) := by decide +kernel
theorem dX2_add_7 : decode cX2_add 7 = .ok (.if_icmp .lt 4, 3) := by decide +kernel
theorem dX2_add_10 : decode cX2_add 10 = .ok (.return_, 1) := by decide +kernel
theorem dX2_add_11 : decode cX2_add 11 = .ok (.aload_n 0, 1) := by decide +kernel
theorem dX2_add_12 : decode cX2_add 12 = .ok (.getfield 19, 3) := by decide +kernel
theorem dX2_add_15 : decode cX2_add 15 = .ok (.aload_n 0, 1) := by decide +kernel
theorem dX2_add_16 : decode cX2_add 16 = .ok (.getfield 23, 3) := by decide +kernel
theorem dX2_add_19 : decode cX2_add 19 = .ok (.iadd, 1) := by decide +kernel
theorem dX2_add_20 : decode cX2_add 20 = .ok (.sipush 511, 3) := by decide +kernel
theorem dX2_add_23 : decode cX2_add 23 = .ok (.iand, 1) := by decide +kernel
theorem dX2_add_24 : decode cX2_add 24 = .ok (.istore 4, 2) := by decide +kernel
theorem dX2_add_26 : decode cX2_add 26 = .ok (.aload_n 0, 1) := by decide +kernel
theorem dX2_add_27 : decode cX2_add 27 = .ok (.getfield 9, 3) := by decide +kernel
theorem dX2_add_30 : decode cX2_add 30 = .ok (.iload 4, 2) := by decide +kernel
theorem dX2_add_32 : decode cX2_add 32 = .ok (.iload_n 1, 1) := by decide +kernel
theorem dX2_add_33 : decode cX2_add 33 = .ok (.iastore, 1) := by decide +kernel
theorem dX2_add_34 : decode cX2_add 34 = .ok (.aload_n 0, 1) := by decide +kernel
theorem dX2_add_35 : decode cX2_add 35 = .ok (.getfield 13, 3) := by decide +kernel
theorem dX2_add_38 : decode cX2_add 38 = .ok (.iload 4, 2) := by decide +kernel
theorem dX2_add_40 : decode cX2_add 40 = .ok (.iload_n 2, 1) := by decide +kernel
theorem dX2_add_41 : decode cX2_add 41 = .ok (.iastore, 1) := by decide +kernel
theorem dX2_add_42 : decode cX2_add 42 = .ok (.aload_n 0, 1) := by decide +kernel
theorem dX2_add_43 : decode cX2_add 43 = .ok (.getfield 16, 3) := by decide +kernel
theorem dX2_add_46 : decode cX2_add 46 = .ok (.iload 4, 2) := by decide +kernel
theorem dX2_add_48 : decode cX2_add 48 = .ok (.iload_n 3, 1) := by decide +kernel
theorem dX2_add_49 : decode cX2_add 49 = .ok (.iastore, 1) := by decide +kernel
theorem dX2_add_50 : decode cX2_add 50 = .ok (.aload_n 0, 1) := by decide +kernel
theorem dX2_add_51 : decode cX2_add 51 = .ok (.dup, 1) := by decide +kernel
theorem dX2_add_52 : decode cX2_add 52 = .ok (.getfield 23, 3) := by decide +kernel
theorem dX2_add_55 : decode cX2_add 55 = .ok (.iconst 1, 1) := by decide +kernel
theorem dX2_add_56 : decode cX2_add 56 = .ok (.iadd, 1) := by decide +kernel
theorem dX2_add_57 : decode cX2_add 57 = .ok (.putfield 23, 3) := by decide +kernel
theorem dX2_add_60 : decode cX2_add 60 = .ok (.return_, 1) := by decide +kernel
theorem dX2_firstKind_0 : decode cX2_firstKind 0 = .ok (.aload_n 0, 1) := by decide +kernel
theorem dX2_firstKind_1 : decode cX2_firstKind 1 = .ok (.getfield 9, 3) := by decide +kernel
theorem dX2_firstKind_4 : decode cX2_firstKind 4 = .ok (.aload_n 0, 1) := by decide +kernel
theorem dX2_firstKind_5 : decode cX2_firstKind 5 = .ok (.getfield 19, 3) := by decide +kernel
theorem dX2_firstKind_8 : decode cX2_firstKind 8 = .ok (.sipush 511, 3) := by decide +kernel
theorem dX2_firstKind_11 : decode cX2_firstKind 11 = .ok (.iand, 1) := by decide +kernel
theorem dX2_firstKind_12 : decode cX2_firstKind 12 = .ok (.iaload, 1) := by decide +kernel
theorem dX2_firstKind_13 : decode cX2_firstKind 13 = .ok (.ireturn, 1) := by decide +kernel
theorem dX2_firstSubject_0 : decode cX2_firstSubject 0 = .ok (.aload_n 0, 1) := by decide +kernel
theorem dX2_firstSubject_1 : decode cX2_firstSubject 1 = .ok (.getfield 13, 3) := by decide +kernel
theorem dX2_firstSubject_4 : decode cX2_firstSubject 4 = .ok (.aload_n 0, 1) := by decide +kernel
theorem dX2_firstSubject_5 : decode cX2_firstSubject 5 = .ok (.getfield 19, 3) := by decide +kernel
theorem dX2_firstSubject_8 : decode cX2_firstSubject 8 = .ok (.sipush 511, 3) := by decide +kernel
theorem dX2_firstSubject_11 : decode cX2_firstSubject 11 = .ok (.iand, 1) := by decide +kernel
theorem dX2_firstSubject_12 : decode cX2_firstSubject 12 = .ok (.iaload, 1) := by decide +kernel
theorem dX2_firstSubject_13 : decode cX2_firstSubject 13 = .ok (.ireturn, 1) := by decide +kernel
theorem dX2_firstValue_0 : decode cX2_firstValue 0 = .ok (.aload_n 0, 1) := by decide +kernel
theorem dX2_firstValue_1 : decode cX2_firstValue 1 = .ok (.getfield 16, 3) := by decide +kernel
theorem dX2_firstValue_4 : decode cX2_firstValue 4 = .ok (.aload_n 0, 1) := by decide +kernel
theorem dX2_firstValue_5 : decode cX2_firstValue 5 = .ok (.getfield 19, 3) := by decide +kernel
theorem dX2_firstValue_8 : decode cX2_firstValue 8 = .ok (.sipush 511, 3) := by decide +kernel
theorem dX2_firstValue_11 : decode cX2_firstValue 11 = .ok (.iand, 1) := by decide +kernel
theorem dX2_firstValue_12 : decode cX2_firstValue 12 = .ok (.iaload, 1) := by decide +kernel
theorem dX2_firstValue_13 : decode cX2_firstValue 13 = .ok (.ireturn, 1) := by decide +kernel
theorem dX2_dropFirst_0 : decode cX2_dropFirst 0 = .ok (.aload_n 0, 1) := by decide +kernel
theorem dX2_dropFirst_1 : decode cX2_dropFirst 1 = .ok (.getfield 23, 3) := by decide +kernel
theorem dX2_dropFirst_4 : decode cX2_dropFirst 4 = .ok (.ifCond .le 27, 3) := by decide +kernel
theorem dX2_dropFirst_7 : decode cX2_dropFirst 7 = .ok (.aload_n 0, 1) := by decide +kernel
theorem dX2_dropFirst_8 : decode cX2_dropFirst 8 = .ok (.aload_n 0, 1) := by decide +kernel
theorem dX2_dropFirst_9 : decode cX2_dropFirst 9 = .ok (.getfield 19, 3) := by decide +kernel
theorem dX2_dropFirst_12 : decode cX2_dropFirst 12 = .ok (.iconst 1, 1) := by decide +kernel
theorem dX2_dropFirst_13 : decode cX2_dropFirst 13 = .ok (.iadd, 1) := by decide +kernel
theorem dX2_dropFirst_14 : decode cX2_dropFirst 14 = .ok (.sipush 511, 3) := by decide +kernel
theorem dX2_dropFirst_17 : decode cX2_dropFirst 17 = .ok (.iand, 1) := by decide +kernel
theorem dX2_dropFirst_18 : decode cX2_dropFirst 18 = .ok (.putfield 19, 3) := by decide +kernel
theorem dX2_dropFirst_21 : decode cX2_dropFirst 21 = .ok (.aload_n 0, 1) := by decide +kernel
theorem dX2_dropFirst_22 : decode cX2_dropFirst 22 = .ok (.dup, 1) := by decide +kernel
theorem dX2_dropFirst_23 : decode cX2_dropFirst 23 = .ok (.getfield 23, 3) := by decide +kernel
theorem dX2_dropFirst_26 : decode cX2_dropFirst 26 = .ok (.iconst 1, 1) := by decide +kernel
theorem dX2_dropFirst_27 : decode cX2_dropFirst 27 = .ok (.isub, 1) := by decide +kernel
theorem dX2_dropFirst_28 : decode cX2_dropFirst 28 = .ok (.putfield 23, 3) := by decide +kernel
theorem dX2_dropFirst_31 : decode cX2_dropFirst 31 = .ok (.return_, 1) := by decide +kernel
theorem dX2_drop_0 : decode cX2_drop 0 = .ok (.aload_n 0, 1) := by decide +kernel
theorem dX2_drop_1 : decode cX2_drop 1 = .ok (.iconst 0, 1) := by decide +kernel
theorem dX2_drop_2 : decode cX2_drop 2 = .ok (.putfield 19, 3) := by decide +kernel
theorem dX2_drop_5 : decode cX2_drop 5 = .ok (.aload_n 0, 1) := by decide +kernel
theorem dX2_drop_6 : decode cX2_drop 6 = .ok (.iconst 0, 1) := by decide +kernel
theorem dX2_drop_7 : decode cX2_drop 7 = .ok (.putfield 23, 3) := by decide +kernel
theorem dX2_drop_10 : decode cX2_drop 10 = .ok (.return_, 1) := by decide +kernel
theorem dX3_init_0 : decode cX3_init 0 = .ok (.aload_n 0, 1) := by decide +kernel
theorem dX3_init_1 : decode cX3_init 1 = .ok (.invokespecial 1, 3) := by decide +kernel
theorem dX3_init_4 : decode cX3_init 4 = .ok (.aload_n 0, 1) := by decide +kernel
theorem dX3_init_5 : decode cX3_init 5 = .ok (.iconst 4, 1) := by decide +kernel
theorem dX3_init_6 : decode cX3_init 6 = .ok (.anewarray 9, 3) := by decide +kernel
theorem dX3_init_9 : decode cX3_init 9 = .ok (.putfield 11, 3) := by decide +kernel
theorem dX3_init_12 : decode cX3_init 12 = .ok (.aload_n 0, 1) := by decide +kernel
theorem dX3_init_13 : decode cX3_init 13 = .ok (.new 15, 3) := by decide +kernel
theorem dX3_init_16 : decode cX3_init 16 = .ok (.dup, 1) := by decide +kernel
theorem dX3_init_17 : decode cX3_init 17 = .ok (.invokespecial 17, 3) := by decide +kernel
theorem dX3_init_20 : decode cX3_init 20 = .ok (.putfield 18, 3) := by decide +kernel
theorem dX3_init_23 : decode cX3_init 23 = .ok (.aload_n 0, 1) := by decide +kernel
theorem dX3_init_24 : decode cX3_init 24 = .ok (.new 22, 3) := by decide +kernel
theorem dX3_init_27 : decode cX3_init 27 = .ok (.dup, 1) := by decide +kernel
theorem dX3_init_28 : decode cX3_init 28 = .ok (.invokespecial 24, 3) := by decide +kernel
theorem dX3_init_31 : decode cX3_init 31 = .ok (.putfield 25, 3) := by decide +kernel
theorem dX3_init_34 : decode cX3_init 34 = .ok (.aload_n 0, 1) := by decide +kernel
theorem dX3_init_35 : decode cX3_init 35 = .ok (.new 22, 3) := by decide +kernel
theorem dX3_init_38 : decode cX3_init 38 = .ok (.dup, 1) := by decide +kernel
theorem dX3_init_39 : decode cX3_init 39 = .ok (.invokespecial 24, 3) := by decide +kernel
theorem dX3_init_42 : decode cX3_init 42 = .ok (.putfield 29, 3) := by decide +kernel
theorem dX3_init_45 : decode cX3_init 45 = .ok (.aload_n 0, 1) := by decide +kernel
theorem dX3_init_46 : decode cX3_init 46 = .ok (.new 15, 3) := by decide +kernel
theorem dX3_init_49 : decode cX3_init 49 = .ok (.dup, 1) := by decide +kernel
theorem dX3_init_50 : decode cX3_init 50 = .ok (.invokespecial 17, 3) := by decide +kernel
theorem dX3_init_53 : decode cX3_init 53 = .ok (.putfield 32, 3) := by decide +kernel
theorem dX3_init_56 : decode cX3_init 56 = .ok (.aload_n 0, 1) := by decide +kernel
theorem dX3_init_57 : decode cX3_init 57 = .ok (.iconst 1, 1) := by decide +kernel
theorem dX3_init_58 : decode cX3_init 58 = .ok (.putfield 35, 3) := by decide +kernel
theorem dX3_init_61 : decode cX3_init 61 = .ok (.aload_n 0, 1) := by decide +kernel
theorem dX3_init_62 : decode cX3_init 62 = .ok (.iconst 0, 1) := by decide +kernel
theorem dX3_init_63 : decode cX3_init 63 = .ok (.putfield 39, 3) := by decide +kernel
theorem dX3_init_66 : decode cX3_init 66 = .ok (.aload_n 0, 1) := by decide +kernel
theorem dX3_init_67 : decode cX3_init 67 = .ok (.iconst 0, 1) := by decide +kernel
theorem dX3_init_68 : decode cX3_init 68 = .ok (.putfield 42, 3) := by decide +kernel
theorem dX3_init_71 : decode cX3_init 71 = .ok (.iconst 0, 1) := by decide +kernel
theorem dX3_init_72 : decode cX3_init 72 = .ok (.istore_n 1, 1) := by decide +kernel
theorem dX3_init_73 : decode cX3_init 73 = .ok (.iload_n 1, 1) := by decide +kernel
theorem dX3_init_74 : decode cX3_init 74 = .ok (.iconst 4, 1) := by decide +kernel
theorem dX3_init_75 : decode cX3_init 75 = .ok (.if_icmp .ge 22, 3) := by decide +kernel
theorem dX3_init_78 : decode cX3_init 78 = .ok (.aload_n 0, 1) := by decide +kernel
theorem dX3_init_79 : decode cX3_init 79 = .ok (.getfield 11, 3) := by decide +kernel
theorem dX3_init_82 : decode cX3_init 82 = .ok (.iload_n 1, 1) := by decide +kernel
theorem dX3_init_83 : decode cX3_init 83 = .ok (.new 9, 3) := by decide +kernel
theorem dX3_init_86 : decode cX3_init 86 = .ok (.dup, 1) := by decide +kernel
theorem dX3_init_87 : decode cX3_init 87 = .ok (.invokespecial 46, 3) := by decide +kernel
theorem dX3_init_90 : decode cX3_init 90 = .ok (.aastore, 1) := by decide +kernel
theorem dX3_init_91 : decode cX3_init 91 = .ok (.iinc 1 1, 3) := by decide +kernel
theorem dX3_init_94 : decode cX3_init 94 = .ok (.goto (-21), 3) := by decide +kernel
theorem dX3_init_97 : decode cX3_init 97 = .ok (.return_, 1) := by decide +kernel
theorem dX3_setMode_0 : decode cX3_setMode 0 = .ok (.aload_n 0, 1) := by decide +kernel
theorem dX3_setMode_1 : decode cX3_setMode 1 = .ok (.iload_n 1, 1) := by decide +kernel
theorem dX3_setMode_2 : decode cX3_setMode 2 = .ok (.invokevirtual 47, 3) := by decide +kernel
theorem dX3_setMode_5 : decode cX3_setMode 5 = .ok (.astore_n 3, 1) := by decide +kernel
theorem dX3_setMode_6 : decode cX3_setMode 6 = .ok (.iload_n 2, 1) := by decide +kernel
theorem dX3_setMode_7 : decode cX3_setMode 7 = .ok (.ifCond .lt 8, 3) := by decide +kernel
theorem dX3_setMode_10 : decode cX3_setMode 10 = .ok (.iload_n 2, 1) := by decide +kernel
theorem dX3_setMode_11 : decode cX3_setMode 11 = .ok (.iconst 2, 1) := by decide +kernel
theorem dX3_setMode_12 : decode cX3_setMode 12 = .ok (.if_icmp .le 13, 3) := by decide +kernel
theorem dX3_setMode_15 : decode cX3_setMode 15 = .ok (.new 51, 3) := by decide +kernel
theorem dX3_setMode_18 : decode cX3_setMode 18 = .ok (.dup, 1) := by decide +kernel
theorem dX3_setMode_19 : decode cX3_setMode 19 = .ok (.ldc 53, 2) := by decide +kernel
theorem dX3_setMode_21 : decode cX3_setMode 21 = .ok (.invokespecial 55, 3) := by decide +kernel
theorem dX3_setMode_24 : decode cX3_setMode 24 = .ok (.athrow, 1) := by decide +kernel
theorem dX3_setMode_25 : decode cX3_setMode 25 = .ok (.aload_n 3, 1) := by decide +kernel
theorem dX3_setMode_26 : decode cX3_setMode 26 = .ok (.getfield 58, 3) := by decide +kernel
theorem dX3_setMode_29 : decode cX3_setMode 29 = .ok (.istore 4, 2) := by decide +kernel
theorem dX3_setMode_31 : decode cX3_setMode 31 = .ok (.aload_n 3, 1) := by decide +kernel
theorem dX3_setMode_32 : decode cX3_setMode 32 = .ok (.iload_n 2, 1) := by decide +kernel
theorem dX3_setMode_33 : decode cX3_setMode 33 = .ok (.putfield 58, 3) := by decide +kernel
theorem dX3_setMode_36 : decode cX3_setMode 36 = .ok (.iload 4, 2) := by decide +kernel
theorem dX3_setMode_38 : decode cX3_setMode 38 = .ok (.ireturn, 1) := by decide +kernel
theorem dX3_grant_0 : decode cX3_grant 0 = .ok (.aload_n 0, 1) := by decide +kernel
theorem dX3_grant_1 : decode cX3_grant 1 = .ok (.iload_n 1, 1) := by decide +kernel
theorem dX3_grant_2 : decode cX3_grant 2 = .ok (.invokevirtual 47, 3) := by decide +kernel
theorem dX3_grant_5 : decode cX3_grant 5 = .ok (.astore_n 3, 1) := by decide +kernel
theorem dX3_grant_6 : decode cX3_grant 6 = .ok (.iload_n 2, 1) := by decide +kernel
theorem dX3_grant_7 : decode cX3_grant 7 = .ok (.ifCond .lt 9, 3) := by decide +kernel
theorem dX3_grant_10 : decode cX3_grant 10 = .ok (.iload_n 2, 1) := by decide +kernel
theorem dX3_grant_11 : decode cX3_grant 11 = .ok (.bipush 15, 2) := by decide +kernel
theorem dX3_grant_13 : decode cX3_grant 13 = .ok (.if_icmp .le 13, 3) := by decide +kernel
theorem dX3_grant_16 : decode cX3_grant 16 = .ok (.new 51, 3) := by decide +kernel
theorem dX3_grant_19 : decode cX3_grant 19 = .ok (.dup, 1) := by decide +kernel
theorem dX3_grant_20 : decode cX3_grant 20 = .ok (.ldc 61, 2) := by decide +kernel
theorem dX3_grant_22 : decode cX3_grant 22 = .ok (.invokespecial 55, 3) := by decide +kernel
theorem dX3_grant_25 : decode cX3_grant 25 = .ok (.athrow, 1) := by decide +kernel
theorem dX3_grant_26 : decode cX3_grant 26 = .ok (.aload_n 0, 1) := by decide +kernel
theorem dX3_grant_27 : decode cX3_grant 27 = .ok (.invokevirtual 63, 3) := by decide +kernel
theorem dX3_grant_30 : decode cX3_grant 30 = .ok (.aload_n 3, 1) := by decide +kernel
theorem dX3_grant_31 : decode cX3_grant 31 = .ok (.getfield 66, 3) := by decide +kernel
theorem dX3_grant_34 : decode cX3_grant 34 = .ok (.iload_n 2, 1) := by decide +kernel
theorem dX3_grant_35 : decode cX3_grant 35 = .ok (.iadd, 1) := by decide +kernel
theorem dX3_grant_36 : decode cX3_grant 36 = .ok (.invokestatic 69, 3) := by decide +kernel
theorem dX3_grant_39 : decode cX3_grant 39 = .ok (.istore 4, 2) := by decide +kernel
theorem dX3_grant_41 : decode cX3_grant 41 = .ok (.aload_n 0, 1) := by decide +kernel
theorem dX3_grant_42 : decode cX3_grant 42 = .ok (.getfield 29, 3) := by decide +kernel
theorem dX3_grant_45 : decode cX3_grant 45 = .ok (.iconst 3, 1) := by decide +kernel
theorem dX3_grant_46 : decode cX3_grant 46 = .ok (.iload_n 1, 1) := by decide +kernel
theorem dX3_grant_47 : decode cX3_grant 47 = .ok (.iload 4, 2) := by decide +kernel
theorem dX3_grant_49 : decode cX3_grant 49 = .ok (.invokevirtual 73, 3) := by decide +kernel
theorem dX3_grant_52 : decode cX3_grant 52 = .ok (.iload 4, 2) := by decide +kernel
theorem dX3_grant_54 : decode cX3_grant 54 = .ok (.ireturn, 1) := by decide +kernel
theorem dX3_credit_0 : decode cX3_credit 0 = .ok (.aload_n 0, 1) := by decide +kernel
theorem dX3_credit_1 : decode cX3_credit 1 = .ok (.iload_n 1, 1) := by decide +kernel
theorem dX3_credit_2 : decode cX3_credit 2 = .ok (.invokevirtual 47, 3) := by decide +kernel
theorem dX3_credit_5 : decode cX3_credit 5 = .ok (.invokevirtual 77, 3) := by decide +kernel
theorem dX3_credit_8 : decode cX3_credit 8 = .ok (.ireturn, 1) := by decide +kernel
theorem dX3_send_0 : decode cX3_send 0 = .ok (.aload_n 0, 1) := by decide +kernel
theorem dX3_send_1 : decode cX3_send 1 = .ok (.iload_n 1, 1) := by decide +kernel
theorem dX3_send_2 : decode cX3_send 2 = .ok (.invokevirtual 47, 3) := by decide +kernel
theorem dX3_send_5 : decode cX3_send 5 = .ok (.astore_n 3, 1) := by decide +kernel
theorem dX3_send_6 : decode cX3_send 6 = .ok (.iload_n 2, 1) := by decide +kernel
theorem dX3_send_7 : decode cX3_send 7 = .ok (.iconst 1, 1) := by decide +kernel
theorem dX3_send_8 : decode cX3_send 8 = .ok (.if_icmp .lt 8, 3) := by decide +kernel
theorem dX3_send_11 : decode cX3_send 11 = .ok (.iload_n 2, 1) := by decide +kernel
theorem dX3_send_12 : decode cX3_send 12 = .ok (.iconst 4, 1) := by decide +kernel
theorem dX3_send_13 : decode cX3_send 13 = .ok (.if_icmp .le 13, 3) := by decide +kernel
theorem dX3_send_16 : decode cX3_send 16 = .ok (.new 51, 3) := by decide +kernel
theorem dX3_send_19 : decode cX3_send 19 = .ok (.dup, 1) := by decide +kernel
theorem dX3_send_20 : decode cX3_send 20 = .ok (.ldc 81, 2) := by decide +kernel
theorem dX3_send_22 : decode cX3_send 22 = .ok (.invokespecial 55, 3) := by decide +kernel
theorem dX3_send_25 : decode cX3_send 25 = .ok (.athrow, 1) := by decide +kernel
theorem dX3_send_26 : decode cX3_send 26 = .ok (.aload_n 0, 1) := by decide +kernel
theorem dX3_send_27 : decode cX3_send 27 = .ok (.invokevirtual 63, 3) := by decide +kernel
theorem dX3_send_30 : decode cX3_send 30 = .ok (.aload_n 0, 1) := by decide +kernel
theorem dX3_send_31 : decode cX3_send 31 = .ok (.getfield 18, 3) := by decide +kernel
theorem dX3_send_34 : decode cX3_send 34 = .ok (.invokevirtual 83, 3) := by decide +kernel
theorem dX3_send_37 : decode cX3_send 37 = .ok (.bipush 60, 2) := by decide +kernel
theorem dX3_send_39 : decode cX3_send 39 = .ok (.if_icmp .lt 13, 3) := by decide +kernel
theorem dX3_send_42 : decode cX3_send 42 = .ok (.new 86, 3) := by decide +kernel
theorem dX3_send_45 : decode cX3_send 45 = .ok (.dup, 1) := by decide +kernel
theorem dX3_send_46 : decode cX3_send 46 = .ok (.ldc 88, 2) := by decide +kernel
theorem dX3_send_48 : decode cX3_send 48 = .ok (.invokespecial 90, 3) := by decide +kernel
theorem dX3_send_51 : decode cX3_send 51 = .ok (.athrow, 1) := by decide +kernel
theorem dX3_send_52 : decode cX3_send 52 = .ok (.aload_n 3, 1) := by decide +kernel
theorem dX3_send_53 : decode cX3_send 53 = .ok (.invokevirtual 77, 3) := by decide +kernel
theorem dX3_send_56 : decode cX3_send 56 = .ok (.ifCond .ne 13, 3) := by decide +kernel
theorem dX3_send_59 : decode cX3_send 59 = .ok (.new 86, 3) := by decide +kernel
theorem dX3_send_62 : decode cX3_send 62 = .ok (.dup, 1) := by decide +kernel
theorem dX3_send_63 : decode cX3_send 63 = .ok (.ldc 91, 2) := by decide +kernel
theorem dX3_send_65 : decode cX3_send 65 = .ok (.invokespecial 90, 3) := by decide +kernel
theorem dX3_send_68 : decode cX3_send 68 = .ok (.athrow, 1) := by decide +kernel
theorem dX3_send_69 : decode cX3_send 69 = .ok (.new 93, 3) := by decide +kernel
theorem dX3_send_72 : decode cX3_send 72 = .ok (.dup, 1) := by decide +kernel
theorem dX3_send_73 : decode cX3_send 73 = .ok (.aload_n 0, 1) := by decide +kernel
theorem dX3_send_74 : decode cX3_send 74 = .ok (.getfield 18, 3) := by decide +kernel
theorem dX3_send_77 : decode cX3_send 77 = .ok (.invokevirtual 83, 3) := by decide +kernel
theorem dX3_send_80 : decode cX3_send 80 = .ok (.iload_n 1, 1) := by decide +kernel
theorem dX3_send_81 : decode cX3_send 81 = .ok (.aload_n 3, 1) := by decide +kernel
theorem dX3_send_82 : decode cX3_send 82 = .ok (.getfield 58, 3) := by decide +kernel
theorem dX3_send_85 : decode cX3_send 85 = .ok (.iload_n 2, 1) := by decide +kernel
theorem dX3_send_86 : decode cX3_send 86 = .ok (.invokespecial 95, 3) := by decide +kernel
theorem dX3_send_89 : decode cX3_send 89 = .ok (.astore 4, 2) := by decide +kernel
theorem dX3_send_91 : decode cX3_send 91 = .ok (.aload_n 0, 1) := by decide +kernel
theorem dX3_send_92 : decode cX3_send 92 = .ok (.getfield 18, 3) := by decide +kernel
theorem dX3_send_95 : decode cX3_send 95 = .ok (.aload 4, 2) := by decide +kernel
theorem dX3_send_97 : decode cX3_send 97 = .ok (.invokevirtual 98, 3) := by decide +kernel
theorem dX3_send_100 : decode cX3_send 100 = .ok (.pop, 1) := by decide +kernel
theorem dX3_send_101 : decode cX3_send 101 = .ok (.aload_n 3, 1) := by decide +kernel
theorem dX3_send_102 : decode cX3_send 102 = .ok (.invokevirtual 101, 3) := by decide +kernel
theorem dX3_send_105 : decode cX3_send 105 = .ok (.aload_n 0, 1) := by decide +kernel
theorem dX3_send_106 : decode cX3_send 106 = .ok (.aload 4, 2) := by decide +kernel
theorem dX3_send_108 : decode cX3_send 108 = .ok (.iconst 0, 1) := by decide +kernel
theorem dX3_send_109 : decode cX3_send 109 = .ok (.invokevirtual 104, 3) := by decide +kernel
theorem dX3_send_112 : decode cX3_send 112 = .ok (.aload 4, 2) := by decide +kernel
theorem dX3_send_114 : decode cX3_send 114 = .ok (.getfield 108, 3) := by decide +kernel
theorem dX3_send_117 : decode cX3_send 117 = .ok (.ireturn, 1) := by decide +kernel
theorem dX3_toReceiver_0 : decode cX3_toReceiver 0 = .ok (.iload_n 1, 1) := by decide +kernel
theorem dX3_toReceiver_1 : decode cX3_toReceiver 1 = .ok (.invokestatic 111, 3) := by decide +kernel
theorem dX3_toReceiver_4 : decode cX3_toReceiver 4 = .ok (.iconst 0, 1) := by decide +kernel
theorem dX3_toReceiver_5 : decode cX3_toReceiver 5 = .ok (.istore_n 2, 1) := by decide +kernel
theorem dX3_toReceiver_6 : decode cX3_toReceiver 6 = .ok (.iconst 0, 1) := by decide +kernel
theorem dX3_toReceiver_7 : decode cX3_toReceiver 7 = .ok (.istore_n 3, 1) := by decide +kernel
theorem dX3_toReceiver_8 : decode cX3_toReceiver 8 = .ok (.iload_n 3, 1) := by decide +kernel
theorem dX3_toReceiver_9 : decode cX3_toReceiver 9 = .ok (.iload_n 1, 1) := by decide +kernel
theorem dX3_toReceiver_10 : decode cX3_toReceiver 10 = .ok (.if_icmp .ge 29, 3) := by decide +kernel
theorem dX3_toReceiver_13 : decode cX3_toReceiver 13 = .ok (.aload_n 0, 1) := by decide +kernel
theorem dX3_toReceiver_14 : decode cX3_toReceiver 14 = .ok (.getfield 25, 3) := by decide +kernel
theorem dX3_toReceiver_17 : decode cX3_toReceiver 17 = .ok (.invokevirtual 115, 3) := by decide +kernel
theorem dX3_toReceiver_20 : decode cX3_toReceiver 20 = .ok (.ifCond .le 19, 3) := by decide +kernel
theorem dX3_toReceiver_23 : decode cX3_toReceiver 23 = .ok (.aload_n 0, 1) := by decide +kernel
theorem dX3_toReceiver_24 : decode cX3_toReceiver 24 = .ok (.invokevirtual 118, 3) := by decide +kernel
theorem dX3_toReceiver_27 : decode cX3_toReceiver 27 = .ok (.ifCond .eq 6, 3) := by decide +kernel
theorem dX3_toReceiver_30 : decode cX3_toReceiver 30 = .ok (.iinc 2 1, 3) := by decide +kernel
theorem dX3_toReceiver_33 : decode cX3_toReceiver 33 = .ok (.iinc 3 1, 3) := by decide +kernel
theorem dX3_toReceiver_36 : decode cX3_toReceiver 36 = .ok (.goto (-28), 3) := by decide +kernel
theorem dX3_toReceiver_39 : decode cX3_toReceiver 39 = .ok (.iload_n 2, 1) := by decide +kernel
theorem dX3_toReceiver_40 : decode cX3_toReceiver 40 = .ok (.ireturn, 1) := by decide +kernel
theorem dX3_toSender_0 : decode cX3_toSender 0 = .ok (.iload_n 1, 1) := by decide +kernel
theorem dX3_toSender_1 : decode cX3_toSender 1 = .ok (.invokestatic 111, 3) := by decide +kernel
theorem dX3_toSender_4 : decode cX3_toSender 4 = .ok (.iconst 0, 1) := by decide +kernel
theorem dX3_toSender_5 : decode cX3_toSender 5 = .ok (.istore_n 2, 1) := by decide +kernel
theorem dX3_toSender_6 : decode cX3_toSender 6 = .ok (.iconst 0, 1) := by decide +kernel
theorem dX3_toSender_7 : decode cX3_toSender 7 = .ok (.istore_n 3, 1) := by decide +kernel
theorem dX3_toSender_8 : decode cX3_toSender 8 = .ok (.iload_n 3, 1) := by decide +kernel
theorem dX3_toSender_9 : decode cX3_toSender 9 = .ok (.iload_n 1, 1) := by decide +kernel
theorem dX3_toSender_10 : decode cX3_toSender 10 = .ok (.if_icmp .ge 29, 3) := by decide +kernel
theorem dX3_toSender_13 : decode cX3_toSender 13 = .ok (.aload_n 0, 1) := by decide +kernel
theorem dX3_toSender_14 : decode cX3_toSender 14 = .ok (.getfield 29, 3) := by decide +kernel
theorem dX3_toSender_17 : decode cX3_toSender 17 = .ok (.invokevirtual 115, 3) := by decide +kernel
theorem dX3_toSender_20 : decode cX3_toSender 20 = .ok (.ifCond .le 19, 3) := by decide +kernel
theorem dX3_toSender_23 : decode cX3_toSender 23 = .ok (.aload_n 0, 1) := by decide +kernel
theorem dX3_toSender_24 : decode cX3_toSender 24 = .ok (.invokevirtual 122, 3) := by decide +kernel
theorem dX3_toSender_27 : decode cX3_toSender 27 = .ok (.ifCond .eq 6, 3) := by decide +kernel
theorem dX3_toSender_30 : decode cX3_toSender 30 = .ok (.iinc 2 1, 3) := by decide +kernel
theorem dX3_toSender_33 : decode cX3_toSender 33 = .ok (.iinc 3 1, 3) := by decide +kernel
theorem dX3_toSender_36 : decode cX3_toSender 36 = .ok (.goto (-28), 3) := by decide +kernel
theorem dX3_toSender_39 : decode cX3_toSender 39 = .ok (.iload_n 2, 1) := by decide +kernel
theorem dX3_toSender_40 : decode cX3_toSender 40 = .ok (.ireturn, 1) := by decide +kernel
theorem dX3_decide_0 : decode cX3_decide 0 = .ok (.aload_n 0, 1) := by decide +kernel
theorem dX3_decide_1 : decode cX3_decide 1 = .ok (.iload_n 1, 1) := by decide +kernel
theorem dX3_decide_2 : decode cX3_decide 2 = .ok (.invokevirtual 125, 3) := by decide +kernel
theorem dX3_decide_5 : decode cX3_decide 5 = .ok (.astore_n 3, 1) := by decide +kernel
theorem dX3_decide_6 : decode cX3_decide 6 = .ok (.iload_n 2, 1) := by decide +kernel
theorem dX3_decide_7 : decode cX3_decide 7 = .ok (.invokestatic 129, 3) := by decide +kernel
theorem dX3_decide_10 : decode cX3_decide 10 = .ok (.aload_n 0, 1) := by decide +kernel
theorem dX3_decide_11 : decode cX3_decide 11 = .ok (.invokevirtual 63, 3) := by decide +kernel
theorem dX3_decide_14 : decode cX3_decide 14 = .ok (.aload_n 3, 1) := by decide +kernel
theorem dX3_decide_15 : decode cX3_decide 15 = .ok (.invokestatic 132, 3) := by decide +kernel
theorem dX3_decide_18 : decode cX3_decide 18 = .ok (.aload_n 0, 1) := by decide +kernel
theorem dX3_decide_19 : decode cX3_decide 19 = .ok (.aload_n 3, 1) := by decide +kernel
theorem dX3_decide_20 : decode cX3_decide 20 = .ok (.iload_n 2, 1) := by decide +kernel
theorem dX3_decide_21 : decode cX3_decide 21 = .ok (.invokevirtual 136, 3) := by decide +kernel
theorem dX3_decide_24 : decode cX3_decide 24 = .ok (.aload_n 3, 1) := by decide +kernel
theorem dX3_decide_25 : decode cX3_decide 25 = .ok (.getfield 139, 3) := by decide +kernel
theorem dX3_decide_28 : decode cX3_decide 28 = .ok (.ireturn, 1) := by decide +kernel
theorem dX3_deliveries_0 : decode cX3_deliveries 0 = .ok (.aload_n 0, 1) := by decide +kernel
theorem dX3_deliveries_1 : decode cX3_deliveries 1 = .ok (.getfield 18, 3) := by decide +kernel
theorem dX3_deliveries_4 : decode cX3_deliveries 4 = .ok (.invokevirtual 83, 3) := by decide +kernel
theorem dX3_deliveries_7 : decode cX3_deliveries 7 = .ok (.ireturn, 1) := by decide +kernel
theorem dX3_underWay_0 : decode cX3_underWay 0 = .ok (.aload_n 0, 1) := by decide +kernel
theorem dX3_underWay_1 : decode cX3_underWay 1 = .ok (.getfield 25, 3) := by decide +kernel
theorem dX3_underWay_4 : decode cX3_underWay 4 = .ok (.invokevirtual 115, 3) := by decide +kernel
theorem dX3_underWay_7 : decode cX3_underWay 7 = .ok (.ireturn, 1) := by decide +kernel
theorem dX3_backUnderWay_0 : decode cX3_backUnderWay 0 = .ok (.aload_n 0, 1) := by decide +kernel
theorem dX3_backUnderWay_1 : decode cX3_backUnderWay 1 = .ok (.getfield 29, 3) := by decide +kernel
theorem dX3_backUnderWay_4 : decode cX3_backUnderWay 4 = .ok (.invokevirtual 115, 3) := by decide +kernel
theorem dX3_backUnderWay_7 : decode cX3_backUnderWay 7 = .ok (.ireturn, 1) := by decide +kernel
theorem dX3_forSender_0 : decode cX3_forSender 0 = .ok (.aload_n 0, 1) := by decide +kernel
theorem dX3_forSender_1 : decode cX3_forSender 1 = .ok (.iload_n 1, 1) := by decide +kernel
theorem dX3_forSender_2 : decode cX3_forSender 2 = .ok (.invokevirtual 125, 3) := by decide +kernel
theorem dX3_forSender_5 : decode cX3_forSender 5 = .ok (.getfield 142, 3) := by decide +kernel
theorem dX3_forSender_8 : decode cX3_forSender 8 = .ok (.ireturn, 1) := by decide +kernel
theorem dX3_heard_0 : decode cX3_heard 0 = .ok (.aload_n 0, 1) := by decide +kernel
theorem dX3_heard_1 : decode cX3_heard 1 = .ok (.iload_n 1, 1) := by decide +kernel
theorem dX3_heard_2 : decode cX3_heard 2 = .ok (.invokevirtual 125, 3) := by decide +kernel
theorem dX3_heard_5 : decode cX3_heard 5 = .ok (.getfield 145, 3) := by decide +kernel
theorem dX3_heard_8 : decode cX3_heard 8 = .ok (.ireturn, 1) := by decide +kernel
theorem dX3_forReceiver_0 : decode cX3_forReceiver 0 = .ok (.aload_n 0, 1) := by decide +kernel
theorem dX3_forReceiver_1 : decode cX3_forReceiver 1 = .ok (.iload_n 1, 1) := by decide +kernel
theorem dX3_forReceiver_2 : decode cX3_forReceiver 2 = .ok (.invokevirtual 125, 3) := by decide +kernel
theorem dX3_forReceiver_5 : decode cX3_forReceiver 5 = .ok (.getfield 148, 3) := by decide +kernel
theorem dX3_forReceiver_8 : decode cX3_forReceiver 8 = .ok (.ireturn, 1) := by decide +kernel
theorem dX3_effects_0 : decode cX3_effects 0 = .ok (.aload_n 0, 1) := by decide +kernel
theorem dX3_effects_1 : decode cX3_effects 1 = .ok (.iload_n 1, 1) := by decide +kernel
theorem dX3_effects_2 : decode cX3_effects 2 = .ok (.invokevirtual 125, 3) := by decide +kernel
theorem dX3_effects_5 : decode cX3_effects 5 = .ok (.getfield 139, 3) := by decide +kernel
theorem dX3_effects_8 : decode cX3_effects 8 = .ok (.ireturn, 1) := by decide +kernel
theorem dX3_breakOff_0 : decode cX3_breakOff 0 = .ok (.aload_n 0, 1) := by decide +kernel
theorem dX3_breakOff_1 : decode cX3_breakOff 1 = .ok (.invokevirtual 63, 3) := by decide +kernel
theorem dX3_breakOff_4 : decode cX3_breakOff 4 = .ok (.aload_n 0, 1) := by decide +kernel
theorem dX3_breakOff_5 : decode cX3_breakOff 5 = .ok (.getfield 25, 3) := by decide +kernel
theorem dX3_breakOff_8 : decode cX3_breakOff 8 = .ok (.invokevirtual 115, 3) := by decide +kernel
theorem dX3_breakOff_11 : decode cX3_breakOff 11 = .ok (.aload_n 0, 1) := by decide +kernel
theorem dX3_breakOff_12 : decode cX3_breakOff 12 = .ok (.getfield 29, 3) := by decide +kernel
theorem dX3_breakOff_15 : decode cX3_breakOff 15 = .ok (.invokevirtual 115, 3) := by decide +kernel
theorem dX3_breakOff_18 : decode cX3_breakOff 18 = .ok (.iadd, 1) := by decide +kernel
theorem dX3_breakOff_19 : decode cX3_breakOff 19 = .ok (.istore_n 1, 1) := by decide +kernel
theorem dX3_breakOff_20 : decode cX3_breakOff 20 = .ok (.aload_n 0, 1) := by decide +kernel
theorem dX3_breakOff_21 : decode cX3_breakOff 21 = .ok (.getfield 25, 3) := by decide +kernel
theorem dX3_breakOff_24 : decode cX3_breakOff 24 = .ok (.invokevirtual 151, 3) := by decide +kernel
theorem dX3_breakOff_27 : decode cX3_breakOff 27 = .ok (.aload_n 0, 1) := by decide +kernel
theorem dX3_breakOff_28 : decode cX3_breakOff 28 = .ok (.getfield 29, 3) := by decide +kernel
theorem dX3_breakOff_31 : decode cX3_breakOff 31 = .ok (.invokevirtual 151, 3) := by decide +kernel
theorem dX3_breakOff_34 : decode cX3_breakOff 34 = .ok (.aload_n 0, 1) := by decide +kernel
theorem dX3_breakOff_35 : decode cX3_breakOff 35 = .ok (.invokevirtual 154, 3) := by decide +kernel
theorem dX3_breakOff_38 : decode cX3_breakOff 38 = .ok (.aload_n 0, 1) := by decide +kernel
theorem dX3_breakOff_39 : decode cX3_breakOff 39 = .ok (.iconst 0, 1) := by decide +kernel
theorem dX3_breakOff_40 : decode cX3_breakOff 40 = .ok (.putfield 35, 3) := by decide +kernel
theorem dX3_breakOff_43 : decode cX3_breakOff 43 = .ok (.iload_n 1, 1) := by decide +kernel
theorem dX3_breakOff_44 : decode cX3_breakOff 44 = .ok (.ireturn, 1) := by decide +kernel
theorem dX3_join_0 : decode cX3_join 0 = .ok (.aload_n 0, 1) := by decide +kernel
theorem dX3_join_1 : decode cX3_join 1 = .ok (.getfield 35, 3) := by decide +kernel
theorem dX3_join_4 : decode cX3_join 4 = .ok (.ifCond .eq 13, 3) := by decide +kernel
theorem dX3_join_7 : decode cX3_join 7 = .ok (.new 86, 3) := by decide +kernel
theorem dX3_join_10 : decode cX3_join 10 = .ok (.dup, 1) := by decide +kernel
theorem dX3_join_11 : decode cX3_join 11 = .ok (.ldc 157, 2) := by decide +kernel
theorem dX3_join_13 : decode cX3_join 13 = .ok (.invokespecial 90, 3) := by decide +kernel
theorem dX3_join_16 : decode cX3_join 16 = .ok (.athrow, 1) := by decide +kernel
theorem dX3_join_17 : decode cX3_join 17 = .ok (.aload_n 0, 1) := by decide +kernel
theorem dX3_join_18 : decode cX3_join 18 = .ok (.iconst 1, 1) := by decide +kernel
theorem dX3_join_19 : decode cX3_join 19 = .ok (.putfield 35, 3) := by decide +kernel
theorem dX3_join_22 : decode cX3_join 22 = .ok (.aload_n 0, 1) := by decide +kernel
theorem dX3_join_23 : decode cX3_join 23 = .ok (.getfield 11, 3) := by decide +kernel
theorem dX3_join_26 : decode cX3_join 26 = .ok (.astore_n 1, 1) := by decide +kernel
theorem dX3_join_27 : decode cX3_join 27 = .ok (.aload_n 1, 1) := by decide +kernel
theorem dX3_join_28 : decode cX3_join 28 = .ok (.arraylength, 1) := by decide +kernel
theorem dX3_join_29 : decode cX3_join 29 = .ok (.istore_n 2, 1) := by decide +kernel
theorem dX3_join_30 : decode cX3_join 30 = .ok (.iconst 0, 1) := by decide +kernel
theorem dX3_join_31 : decode cX3_join 31 = .ok (.istore_n 3, 1) := by decide +kernel
theorem dX3_join_32 : decode cX3_join 32 = .ok (.iload_n 3, 1) := by decide +kernel
theorem dX3_join_33 : decode cX3_join 33 = .ok (.iload_n 2, 1) := by decide +kernel
theorem dX3_join_34 : decode cX3_join 34 = .ok (.if_icmp .ge 19, 3) := by decide +kernel
theorem dX3_join_37 : decode cX3_join 37 = .ok (.aload_n 1, 1) := by decide +kernel
theorem dX3_join_38 : decode cX3_join 38 = .ok (.iload_n 3, 1) := by decide +kernel
theorem dX3_join_39 : decode cX3_join 39 = .ok (.aaload, 1) := by decide +kernel
theorem dX3_join_40 : decode cX3_join 40 = .ok (.astore 4, 2) := by decide +kernel
theorem dX3_join_42 : decode cX3_join 42 = .ok (.aload 4, 2) := by decide +kernel
theorem dX3_join_44 : decode cX3_join 44 = .ok (.invokevirtual 159, 3) := by decide +kernel
theorem dX3_join_47 : decode cX3_join 47 = .ok (.iinc 3 1, 3) := by decide +kernel
theorem dX3_join_50 : decode cX3_join 50 = .ok (.goto (-18), 3) := by decide +kernel
theorem dX3_join_53 : decode cX3_join 53 = .ok (.iconst 0, 1) := by decide +kernel
theorem dX3_join_54 : decode cX3_join 54 = .ok (.istore_n 1, 1) := by decide +kernel
theorem dX3_join_55 : decode cX3_join 55 = .ok (.iconst 0, 1) := by decide +kernel
theorem dX3_join_56 : decode cX3_join 56 = .ok (.istore_n 2, 1) := by decide +kernel
theorem dX3_join_57 : decode cX3_join 57 = .ok (.iload_n 2, 1) := by decide +kernel
theorem dX3_join_58 : decode cX3_join 58 = .ok (.aload_n 0, 1) := by decide +kernel
theorem dX3_join_59 : decode cX3_join 59 = .ok (.getfield 18, 3) := by decide +kernel
theorem dX3_join_62 : decode cX3_join 62 = .ok (.invokevirtual 83, 3) := by decide +kernel
theorem dX3_join_65 : decode cX3_join 65 = .ok (.if_icmp .ge 41, 3) := by decide +kernel
theorem dX3_join_68 : decode cX3_join 68 = .ok (.aload_n 0, 1) := by decide +kernel
theorem dX3_join_69 : decode cX3_join 69 = .ok (.getfield 18, 3) := by decide +kernel
theorem dX3_join_72 : decode cX3_join 72 = .ok (.iload_n 2, 1) := by decide +kernel
theorem dX3_join_73 : decode cX3_join 73 = .ok (.invokevirtual 162, 3) := by decide +kernel
theorem dX3_join_76 : decode cX3_join 76 = .ok (.checkcast 93, 3) := by decide +kernel
theorem dX3_join_79 : decode cX3_join 79 = .ok (.astore_n 3, 1) := by decide +kernel
theorem dX3_join_80 : decode cX3_join 80 = .ok (.aload_n 3, 1) := by decide +kernel
theorem dX3_join_81 : decode cX3_join 81 = .ok (.invokevirtual 166, 3) := by decide +kernel
theorem dX3_join_84 : decode cX3_join 84 = .ok (.aload_n 3, 1) := by decide +kernel
theorem dX3_join_85 : decode cX3_join 85 = .ok (.invokevirtual 169, 3) := by decide +kernel
theorem dX3_join_88 : decode cX3_join 88 = .ok (.ifCond .eq 12, 3) := by decide +kernel
theorem dX3_join_91 : decode cX3_join 91 = .ok (.aload_n 0, 1) := by decide +kernel
theorem dX3_join_92 : decode cX3_join 92 = .ok (.aload_n 3, 1) := by decide +kernel
theorem dX3_join_93 : decode cX3_join 93 = .ok (.iconst 1, 1) := by decide +kernel
theorem dX3_join_94 : decode cX3_join 94 = .ok (.invokevirtual 104, 3) := by decide +kernel
theorem dX3_join_97 : decode cX3_join 97 = .ok (.iinc 1 1, 3) := by decide +kernel
theorem dX3_join_100 : decode cX3_join 100 = .ok (.iinc 2 1, 3) := by decide +kernel
theorem dX3_join_103 : decode cX3_join 103 = .ok (.goto (-46), 3) := by decide +kernel
theorem dX3_join_106 : decode cX3_join 106 = .ok (.iload_n 1, 1) := by decide +kernel
theorem dX3_join_107 : decode cX3_join 107 = .ok (.ireturn, 1) := by decide +kernel
theorem dX3_wouldResend_0 : decode cX3_wouldResend 0 = .ok (.iconst 0, 1) := by decide +kernel
theorem dX3_wouldResend_1 : decode cX3_wouldResend 1 = .ok (.istore_n 1, 1) := by decide +kernel
theorem dX3_wouldResend_2 : decode cX3_wouldResend 2 = .ok (.iconst 0, 1) := by decide +kernel
theorem dX3_wouldResend_3 : decode cX3_wouldResend 3 = .ok (.istore_n 2, 1) := by decide +kernel
theorem dX3_wouldResend_4 : decode cX3_wouldResend 4 = .ok (.iload_n 2, 1) := by decide +kernel
theorem dX3_wouldResend_5 : decode cX3_wouldResend 5 = .ok (.aload_n 0, 1) := by decide +kernel
theorem dX3_wouldResend_6 : decode cX3_wouldResend 6 = .ok (.getfield 18, 3) := by decide +kernel
theorem dX3_wouldResend_9 : decode cX3_wouldResend 9 = .ok (.invokevirtual 83, 3) := by decide +kernel
theorem dX3_wouldResend_12 : decode cX3_wouldResend 12 = .ok (.if_icmp .ge 29, 3) := by decide +kernel
theorem dX3_wouldResend_15 : decode cX3_wouldResend 15 = .ok (.aload_n 0, 1) := by decide +kernel
theorem dX3_wouldResend_16 : decode cX3_wouldResend 16 = .ok (.getfield 18, 3) := by decide +kernel
theorem dX3_wouldResend_19 : decode cX3_wouldResend 19 = .ok (.iload_n 2, 1) := by decide +kernel
theorem dX3_wouldResend_20 : decode cX3_wouldResend 20 = .ok (.invokevirtual 162, 3) := by decide +kernel
theorem dX3_wouldResend_23 : decode cX3_wouldResend 23 = .ok (.checkcast 93, 3) := by decide +kernel
theorem dX3_wouldResend_26 : decode cX3_wouldResend 26 = .ok (.invokevirtual 169, 3) := by decide +kernel
theorem dX3_wouldResend_29 : decode cX3_wouldResend 29 = .ok (.ifCond .eq 6, 3) := by decide +kernel
theorem dX3_wouldResend_32 : decode cX3_wouldResend 32 = .ok (.iinc 1 1, 3) := by decide +kernel
theorem dX3_wouldResend_35 : decode cX3_wouldResend 35 = .ok (.iinc 2 1, 3) := by decide +kernel
theorem dX3_wouldResend_38 : decode cX3_wouldResend 38 = .ok (.goto (-34), 3) := by decide +kernel
theorem dX3_wouldResend_41 : decode cX3_wouldResend 41 = .ok (.iload_n 1, 1) := by decide +kernel
theorem dX3_wouldResend_42 : decode cX3_wouldResend 42 = .ok (.ireturn, 1) := by decide +kernel
theorem dX3_isUp_0 : decode cX3_isUp 0 = .ok (.aload_n 0, 1) := by decide +kernel
theorem dX3_isUp_1 : decode cX3_isUp 1 = .ok (.getfield 35, 3) := by decide +kernel
theorem dX3_isUp_4 : decode cX3_isUp 4 = .ok (.ireturn, 1) := by decide +kernel
theorem dX3_begin_0 : decode cX3_begin 0 = .ok (.aload_n 0, 1) := by decide +kernel
theorem dX3_begin_1 : decode cX3_begin 1 = .ok (.invokevirtual 63, 3) := by decide +kernel
theorem dX3_begin_4 : decode cX3_begin 4 = .ok (.aload_n 0, 1) := by decide +kernel
theorem dX3_begin_5 : decode cX3_begin 5 = .ok (.getfield 39, 3) := by decide +kernel
theorem dX3_begin_8 : decode cX3_begin 8 = .ok (.ifCond .eq 13, 3) := by decide +kernel
theorem dX3_begin_11 : decode cX3_begin 11 = .ok (.new 86, 3) := by decide +kernel
theorem dX3_begin_14 : decode cX3_begin 14 = .ok (.dup, 1) := by decide +kernel
theorem dX3_begin_15 : decode cX3_begin 15 = .ok (.ldc 172, 2) := by decide +kernel
theorem dX3_begin_17 : decode cX3_begin 17 = .ok (.invokespecial 90, 3) := by decide +kernel
theorem dX3_begin_20 : decode cX3_begin 20 = .ok (.athrow, 1) := by decide +kernel
theorem dX3_begin_21 : decode cX3_begin 21 = .ok (.aload_n 0, 1) := by decide +kernel
theorem dX3_begin_22 : decode cX3_begin 22 = .ok (.iconst 1, 1) := by decide +kernel
theorem dX3_begin_23 : decode cX3_begin 23 = .ok (.putfield 39, 3) := by decide +kernel
theorem dX3_begin_26 : decode cX3_begin 26 = .ok (.aload_n 0, 1) := by decide +kernel
theorem dX3_begin_27 : decode cX3_begin 27 = .ok (.dup, 1) := by decide +kernel
theorem dX3_begin_28 : decode cX3_begin 28 = .ok (.getfield 42, 3) := by decide +kernel
theorem dX3_begin_31 : decode cX3_begin 31 = .ok (.iconst 1, 1) := by decide +kernel
theorem dX3_begin_32 : decode cX3_begin 32 = .ok (.iadd, 1) := by decide +kernel
theorem dX3_begin_33 : decode cX3_begin 33 = .ok (.putfield 42, 3) := by decide +kernel
theorem dX3_begin_36 : decode cX3_begin 36 = .ok (.aload_n 0, 1) := by decide +kernel
theorem dX3_begin_37 : decode cX3_begin 37 = .ok (.getfield 42, 3) := by decide +kernel
theorem dX3_begin_40 : decode cX3_begin 40 = .ok (.ireturn, 1) := by decide +kernel
theorem dX3_tell_0 : decode cX3_tell 0 = .ok (.aload_n 0, 1) := by decide +kernel
theorem dX3_tell_1 : decode cX3_tell 1 = .ok (.iload_n 1, 1) := by decide +kernel
theorem dX3_tell_2 : decode cX3_tell 2 = .ok (.invokevirtual 125, 3) := by decide +kernel
theorem dX3_tell_5 : decode cX3_tell 5 = .ok (.astore_n 3, 1) := by decide +kernel
theorem dX3_tell_6 : decode cX3_tell 6 = .ok (.iload_n 2, 1) := by decide +kernel
theorem dX3_tell_7 : decode cX3_tell 7 = .ok (.invokestatic 129, 3) := by decide +kernel
theorem dX3_tell_10 : decode cX3_tell 10 = .ok (.aload_n 0, 1) := by decide +kernel
theorem dX3_tell_11 : decode cX3_tell 11 = .ok (.invokevirtual 174, 3) := by decide +kernel
theorem dX3_tell_14 : decode cX3_tell 14 = .ok (.aload_n 3, 1) := by decide +kernel
theorem dX3_tell_15 : decode cX3_tell 15 = .ok (.invokestatic 132, 3) := by decide +kernel
theorem dX3_tell_18 : decode cX3_tell 18 = .ok (.aload_n 3, 1) := by decide +kernel
theorem dX3_tell_19 : decode cX3_tell 19 = .ok (.iload_n 2, 1) := by decide +kernel
theorem dX3_tell_20 : decode cX3_tell 20 = .ok (.putfield 177, 3) := by decide +kernel
theorem dX3_tell_23 : decode cX3_tell 23 = .ok (.aload_n 0, 1) := by decide +kernel
theorem dX3_tell_24 : decode cX3_tell 24 = .ok (.getfield 32, 3) := by decide +kernel
theorem dX3_tell_27 : decode cX3_tell 27 = .ok (.aload_n 3, 1) := by decide +kernel
theorem dX3_tell_28 : decode cX3_tell 28 = .ok (.invokevirtual 98, 3) := by decide +kernel
theorem dX3_tell_31 : decode cX3_tell 31 = .ok (.pop, 1) := by decide +kernel
theorem dX3_tell_32 : decode cX3_tell 32 = .ok (.aload_n 0, 1) := by decide +kernel
theorem dX3_tell_33 : decode cX3_tell 33 = .ok (.getfield 32, 3) := by decide +kernel
theorem dX3_tell_36 : decode cX3_tell 36 = .ok (.invokevirtual 83, 3) := by decide +kernel
theorem dX3_tell_39 : decode cX3_tell 39 = .ok (.ireturn, 1) := by decide +kernel
theorem dX3_end_0 : decode cX3_end 0 = .ok (.aload_n 0, 1) := by decide +kernel
theorem dX3_end_1 : decode cX3_end 1 = .ok (.invokevirtual 174, 3) := by decide +kernel
theorem dX3_end_4 : decode cX3_end 4 = .ok (.iconst 0, 1) := by decide +kernel
theorem dX3_end_5 : decode cX3_end 5 = .ok (.istore_n 2, 1) := by decide +kernel
theorem dX3_end_6 : decode cX3_end 6 = .ok (.iload_n 1, 1) := by decide +kernel
theorem dX3_end_7 : decode cX3_end 7 = .ok (.ifCond .eq 49, 3) := by decide +kernel
theorem dX3_end_10 : decode cX3_end 10 = .ok (.iconst 0, 1) := by decide +kernel
theorem dX3_end_11 : decode cX3_end 11 = .ok (.istore_n 3, 1) := by decide +kernel
theorem dX3_end_12 : decode cX3_end 12 = .ok (.iload_n 3, 1) := by decide +kernel
theorem dX3_end_13 : decode cX3_end 13 = .ok (.aload_n 0, 1) := by decide +kernel
theorem dX3_end_14 : decode cX3_end 14 = .ok (.getfield 32, 3) := by decide +kernel
theorem dX3_end_17 : decode cX3_end 17 = .ok (.invokevirtual 83, 3) := by decide +kernel
theorem dX3_end_20 : decode cX3_end 20 = .ok (.if_icmp .ge 36, 3) := by decide +kernel
theorem dX3_end_23 : decode cX3_end 23 = .ok (.aload_n 0, 1) := by decide +kernel
theorem dX3_end_24 : decode cX3_end 24 = .ok (.getfield 32, 3) := by decide +kernel
theorem dX3_end_27 : decode cX3_end 27 = .ok (.iload_n 3, 1) := by decide +kernel
theorem dX3_end_28 : decode cX3_end 28 = .ok (.invokevirtual 162, 3) := by decide +kernel
theorem dX3_end_31 : decode cX3_end 31 = .ok (.checkcast 93, 3) := by decide +kernel
theorem dX3_end_34 : decode cX3_end 34 = .ok (.astore 4, 2) := by decide +kernel
theorem dX3_end_36 : decode cX3_end 36 = .ok (.aload_n 0, 1) := by decide +kernel
theorem dX3_end_37 : decode cX3_end 37 = .ok (.aload 4, 2) := by decide +kernel
theorem dX3_end_39 : decode cX3_end 39 = .ok (.aload 4, 2) := by decide +kernel
theorem dX3_end_41 : decode cX3_end 41 = .ok (.getfield 177, 3) := by decide +kernel
theorem dX3_end_44 : decode cX3_end 44 = .ok (.invokevirtual 136, 3) := by decide +kernel
theorem dX3_end_47 : decode cX3_end 47 = .ok (.iinc 2 1, 3) := by decide +kernel
theorem dX3_end_50 : decode cX3_end 50 = .ok (.iinc 3 1, 3) := by decide +kernel
theorem dX3_end_53 : decode cX3_end 53 = .ok (.goto (-41), 3) := by decide +kernel
theorem dX3_end_56 : decode cX3_end 56 = .ok (.aload_n 0, 1) := by decide +kernel
theorem dX3_end_57 : decode cX3_end 57 = .ok (.invokevirtual 154, 3) := by decide +kernel
theorem dX3_end_60 : decode cX3_end 60 = .ok (.iload_n 2, 1) := by decide +kernel
theorem dX3_end_61 : decode cX3_end 61 = .ok (.ireturn, 1) := by decide +kernel
theorem dX3_linkAt_0 : decode cX3_linkAt 0 = .ok (.iload_n 1, 1) := by decide +kernel
theorem dX3_linkAt_1 : decode cX3_linkAt 1 = .ok (.ifCond .lt 8, 3) := by decide +kernel
theorem dX3_linkAt_4 : decode cX3_linkAt 4 = .ok (.iload_n 1, 1) := by decide +kernel
theorem dX3_linkAt_5 : decode cX3_linkAt 5 = .ok (.iconst 4, 1) := by decide +kernel
theorem dX3_linkAt_6 : decode cX3_linkAt 6 = .ok (.if_icmp .lt 13, 3) := by decide +kernel
theorem dX3_linkAt_9 : decode cX3_linkAt 9 = .ok (.new 180, 3) := by decide +kernel
theorem dX3_linkAt_12 : decode cX3_linkAt 12 = .ok (.dup, 1) := by decide +kernel
theorem dX3_linkAt_13 : decode cX3_linkAt 13 = .ok (.ldc 182, 2) := by decide +kernel
theorem dX3_linkAt_15 : decode cX3_linkAt 15 = .ok (.invokespecial 184, 3) := by decide +kernel
theorem dX3_linkAt_18 : decode cX3_linkAt 18 = .ok (.athrow, 1) := by decide +kernel
theorem dX3_linkAt_19 : decode cX3_linkAt 19 = .ok (.aload_n 0, 1) := by decide +kernel
theorem dX3_linkAt_20 : decode cX3_linkAt 20 = .ok (.getfield 11, 3) := by decide +kernel
theorem dX3_linkAt_23 : decode cX3_linkAt 23 = .ok (.iload_n 1, 1) := by decide +kernel
theorem dX3_linkAt_24 : decode cX3_linkAt 24 = .ok (.aaload, 1) := by decide +kernel
theorem dX3_linkAt_25 : decode cX3_linkAt 25 = .ok (.areturn, 1) := by decide +kernel
theorem dX3_deliveryAt_0 : decode cX3_deliveryAt 0 = .ok (.iload_n 1, 1) := by decide +kernel
theorem dX3_deliveryAt_1 : decode cX3_deliveryAt 1 = .ok (.ifCond .lt 14, 3) := by decide +kernel
theorem dX3_deliveryAt_4 : decode cX3_deliveryAt 4 = .ok (.iload_n 1, 1) := by decide +kernel
theorem dX3_deliveryAt_5 : decode cX3_deliveryAt 5 = .ok (.aload_n 0, 1) := by decide +kernel
theorem dX3_deliveryAt_6 : decode cX3_deliveryAt 6 = .ok (.getfield 18, 3) := by decide +kernel
theorem dX3_deliveryAt_9 : decode cX3_deliveryAt 9 = .ok (.invokevirtual 83, 3) := by decide +kernel
theorem dX3_deliveryAt_12 : decode cX3_deliveryAt 12 = .ok (.if_icmp .lt 13, 3) := by decide +kernel
theorem dX3_deliveryAt_15 : decode cX3_deliveryAt 15 = .ok (.new 180, 3) := by decide +kernel
theorem dX3_deliveryAt_18 : decode cX3_deliveryAt 18 = .ok (.dup, 1) := by decide +kernel
theorem dX3_deliveryAt_19 : decode cX3_deliveryAt 19 = .ok (.ldc 185, 2) := by decide +kernel
theorem dX3_deliveryAt_21 : decode cX3_deliveryAt 21 = .ok (.invokespecial 184, 3) := by decide +kernel
theorem dX3_deliveryAt_24 : decode cX3_deliveryAt 24 = .ok (.athrow, 1) := by decide +kernel
theorem dX3_deliveryAt_25 : decode cX3_deliveryAt 25 = .ok (.aload_n 0, 1) := by decide +kernel
theorem dX3_deliveryAt_26 : decode cX3_deliveryAt 26 = .ok (.getfield 18, 3) := by decide +kernel
theorem dX3_deliveryAt_29 : decode cX3_deliveryAt 29 = .ok (.iload_n 1, 1) := by decide +kernel
theorem dX3_deliveryAt_30 : decode cX3_deliveryAt 30 = .ok (.invokevirtual 162, 3) := by decide +kernel
theorem dX3_deliveryAt_33 : decode cX3_deliveryAt 33 = .ok (.checkcast 93, 3) := by decide +kernel
theorem dX3_deliveryAt_36 : decode cX3_deliveryAt 36 = .ok (.areturn, 1) := by decide +kernel
theorem dX3_requireConnection_0 : decode cX3_requireConnection 0 = .ok (.aload_n 0, 1) := by decide +kernel
theorem dX3_requireConnection_1 : decode cX3_requireConnection 1 = .ok (.getfield 35, 3) := by decide +kernel
theorem dX3_requireConnection_4 : decode cX3_requireConnection 4 = .ok (.ifCond .ne 13, 3) := by decide +kernel
theorem dX3_requireConnection_7 : decode cX3_requireConnection 7 = .ok (.new 86, 3) := by decide +kernel
theorem dX3_requireConnection_10 : decode cX3_requireConnection 10 = .ok (.dup, 1) := by decide +kernel
theorem dX3_requireConnection_11 : decode cX3_requireConnection 11 = .ok (.ldc 187, 2) := by decide +kernel
theorem dX3_requireConnection_13 : decode cX3_requireConnection 13 = .ok (.invokespecial 90, 3) := by decide +kernel
theorem dX3_requireConnection_16 : decode cX3_requireConnection 16 = .ok (.athrow, 1) := by decide +kernel
theorem dX3_requireConnection_17 : decode cX3_requireConnection 17 = .ok (.return_, 1) := by decide +kernel
theorem dX3_requireTransaction_0 : decode cX3_requireTransaction 0 = .ok (.aload_n 0, 1) := by decide +kernel
theorem dX3_requireTransaction_1 : decode cX3_requireTransaction 1 = .ok (.getfield 39, 3) := by decide +kernel
theorem dX3_requireTransaction_4 : decode cX3_requireTransaction 4 = .ok (.ifCond .ne 13, 3) := by decide +kernel
theorem dX3_requireTransaction_7 : decode cX3_requireTransaction 7 = .ok (.new 86, 3) := by decide +kernel
theorem dX3_requireTransaction_10 : decode cX3_requireTransaction 10 = .ok (.dup, 1) := by decide +kernel
theorem dX3_requireTransaction_11 : decode cX3_requireTransaction 11 = .ok (.ldc 189, 2) := by decide +kernel
theorem dX3_requireTransaction_13 : decode cX3_requireTransaction 13 = .ok (.invokespecial 90, 3) := by decide +kernel
theorem dX3_requireTransaction_16 : decode cX3_requireTransaction 16 = .ok (.athrow, 1) := by decide +kernel
theorem dX3_requireTransaction_17 : decode cX3_requireTransaction 17 = .ok (.return_, 1) := by decide +kernel
theorem dX3_requireUndecided_0 : decode cX3_requireUndecided 0 = .ok (.aload_n 0, 1) := by decide +kernel
theorem dX3_requireUndecided_1 : decode cX3_requireUndecided 1 = .ok (.getfield 148, 3) := by decide +kernel
theorem dX3_requireUndecided_4 : decode cX3_requireUndecided 4 = .ok (.iconst 2, 1) := by decide +kernel
theorem dX3_requireUndecided_5 : decode cX3_requireUndecided 5 = .ok (.if_icmp .eq 13, 3) := by decide +kernel
theorem dX3_requireUndecided_8 : decode cX3_requireUndecided 8 = .ok (.new 86, 3) := by decide +kernel
theorem dX3_requireUndecided_11 : decode cX3_requireUndecided 11 = .ok (.dup, 1) := by decide +kernel
theorem dX3_requireUndecided_12 : decode cX3_requireUndecided 12 = .ok (.ldc 191, 2) := by decide +kernel
theorem dX3_requireUndecided_14 : decode cX3_requireUndecided 14 = .ok (.invokespecial 90, 3) := by decide +kernel
theorem dX3_requireUndecided_17 : decode cX3_requireUndecided 17 = .ok (.athrow, 1) := by decide +kernel
theorem dX3_requireUndecided_18 : decode cX3_requireUndecided 18 = .ok (.aload_n 0, 1) := by decide +kernel
theorem dX3_requireUndecided_19 : decode cX3_requireUndecided 19 = .ok (.getfield 177, 3) := by decide +kernel
theorem dX3_requireUndecided_22 : decode cX3_requireUndecided 22 = .ok (.iconst (-1), 1) := by decide +kernel
theorem dX3_requireUndecided_23 : decode cX3_requireUndecided 23 = .ok (.if_icmp .eq 13, 3) := by decide +kernel
theorem dX3_requireUndecided_26 : decode cX3_requireUndecided 26 = .ok (.new 86, 3) := by decide +kernel
theorem dX3_requireUndecided_29 : decode cX3_requireUndecided 29 = .ok (.dup, 1) := by decide +kernel
theorem dX3_requireUndecided_30 : decode cX3_requireUndecided 30 = .ok (.ldc 193, 2) := by decide +kernel
theorem dX3_requireUndecided_32 : decode cX3_requireUndecided 32 = .ok (.invokespecial 90, 3) := by decide +kernel
theorem dX3_requireUndecided_35 : decode cX3_requireUndecided 35 = .ok (.athrow, 1) := by decide +kernel
theorem dX3_requireUndecided_36 : decode cX3_requireUndecided 36 = .ok (.return_, 1) := by decide +kernel
theorem dX3_requireOutcome_0 : decode cX3_requireOutcome 0 = .ok (.iload_n 0, 1) := by decide +kernel
theorem dX3_requireOutcome_1 : decode cX3_requireOutcome 1 = .ok (.ifCond .lt 8, 3) := by decide +kernel
theorem dX3_requireOutcome_4 : decode cX3_requireOutcome 4 = .ok (.iload_n 0, 1) := by decide +kernel
