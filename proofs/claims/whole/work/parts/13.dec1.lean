theorem dX4_init_0 : decode cX4_init 0 = .ok (.aload_n 0, 1) := by decide +kernel
theorem dX4_init_1 : decode cX4_init 1 = .ok (.invokespecial 3, 3) := by decide +kernel
theorem dX4_init_4 : decode cX4_init 4 = .ok (.aload_n 0, 1) := by decide +kernel
theorem dX4_init_5 : decode cX4_init 5 = .ok (.bipush 8, 2) := by decide +kernel
theorem dX4_init_7 : decode cX4_init 7 = .ok (.newarray .int, 2) := by decide +kernel
theorem dX4_init_9 : decode cX4_init 9 = .ok (.putfield 11, 3) := by decide +kernel
theorem dX4_init_12 : decode cX4_init 12 = .ok (.aload_n 0, 1) := by decide +kernel
theorem dX4_init_13 : decode cX4_init 13 = .ok (.bipush 8, 2) := by decide +kernel
theorem dX4_init_15 : decode cX4_init 15 = .ok (.newarray .int, 2) := by decide +kernel
theorem dX4_init_17 : decode cX4_init 17 = .ok (.putfield 15, 3) := by decide +kernel
theorem dX4_init_20 : decode cX4_init 20 = .ok (.aload_n 0, 1) := by decide +kernel
theorem dX4_init_21 : decode cX4_init 21 = .ok (.iconst 3, 1) := by decide +kernel
theorem dX4_init_22 : decode cX4_init 22 = .ok (.newarray .int, 2) := by decide +kernel
theorem dX4_init_24 : decode cX4_init 24 = .ok (.putfield 18, 3) := by decide +kernel
theorem dX4_init_27 : decode cX4_init 27 = .ok (.aload_n 0, 1) := by decide +kernel
theorem dX4_init_28 : decode cX4_init 28 = .ok (.sipush 2048, 3) := by decide +kernel
theorem dX4_init_31 : decode cX4_init 31 = .ok (.newarray .int, 2) := by decide +kernel
theorem dX4_init_33 : decode cX4_init 33 = .ok (.putfield 23, 3) := by decide +kernel
theorem dX4_init_36 : decode cX4_init 36 = .ok (.aload_n 0, 1) := by decide +kernel
theorem dX4_init_37 : decode cX4_init 37 = .ok (.bipush 8, 2) := by decide +kernel
theorem dX4_init_39 : decode cX4_init 39 = .ok (.newarray .int, 2) := by decide +kernel
theorem dX4_init_41 : decode cX4_init 41 = .ok (.putfield 26, 3) := by decide +kernel
theorem dX4_init_44 : decode cX4_init 44 = .ok (.aload_n 0, 1) := by decide +kernel
theorem dX4_init_45 : decode cX4_init 45 = .ok (.iconst 3, 1) := by decide +kernel
theorem dX4_init_46 : decode cX4_init 46 = .ok (.newarray .int, 2) := by decide +kernel
theorem dX4_init_48 : decode cX4_init 48 = .ok (.putfield 29, 3) := by decide +kernel
theorem dX4_init_51 : decode cX4_init 51 = .ok (.aload_n 0, 1) := by decide +kernel
theorem dX4_init_52 : decode cX4_init 52 = .ok (.bipush 8, 2) := by decide +kernel
theorem dX4_init_54 : decode cX4_init 54 = .ok (.newarray .int, 2) := by decide +kernel
theorem dX4_init_56 : decode cX4_init 56 = .ok (.putfield 32, 3) := by decide +kernel
theorem dX4_init_59 : decode cX4_init 59 = .ok (.aload_n 0, 1) := by decide +kernel
theorem dX4_init_60 : decode cX4_init 60 = .ok (.bipush 8, 2) := by decide +kernel
theorem dX4_init_62 : decode cX4_init 62 = .ok (.newarray .int, 2) := by decide +kernel
theorem dX4_init_64 : decode cX4_init 64 = .ok (.putfield 35, 3) := by decide +kernel
theorem dX4_init_67 : decode cX4_init 67 = .ok (.aload_n 0, 1) := by decide +kernel
theorem dX4_init_68 : decode cX4_init 68 = .ok (.bipush 8, 2) := by decide +kernel
theorem dX4_init_70 : decode cX4_init 70 = .ok (.newarray .int, 2) := by decide +kernel
theorem dX4_init_72 : decode cX4_init 72 = .ok (.putfield 38, 3) := by decide +kernel
theorem dX4_init_75 : decode cX4_init 75 = .ok (.aload_n 0, 1) := by decide +kernel
theorem dX4_init_76 : decode cX4_init 76 = .ok (.iconst 0, 1) := by decide +kernel
theorem dX4_init_77 : decode cX4_init 77 = .ok (.putfield 41, 3) := by decide +kernel
theorem dX4_init_80 : decode cX4_init 80 = .ok (.aload_n 0, 1) := by decide +kernel
theorem dX4_init_81 : decode cX4_init 81 = .ok (.iconst 0, 1) := by decide +kernel
theorem dX4_init_82 : decode cX4_init 82 = .ok (.putfield 45, 3) := by decide +kernel
theorem dX4_init_85 : decode cX4_init 85 = .ok (.aload_n 0, 1) := by decide +kernel
theorem dX4_init_86 : decode cX4_init 86 = .ok (.iconst 0, 1) := by decide +kernel
theorem dX4_init_87 : decode cX4_init 87 = .ok (.putfield 48, 3) := by decide +kernel
theorem dX4_init_90 : decode cX4_init 90 = .ok (.aload_n 0, 1) := by decide +kernel
theorem dX4_init_91 : decode cX4_init 91 = .ok (.iconst (-1), 1) := by decide +kernel
theorem dX4_init_92 : decode cX4_init 92 = .ok (.putfield 52, 3) := by decide +kernel
theorem dX4_init_95 : decode cX4_init 95 = .ok (.aload_n 0, 1) := by decide +kernel
theorem dX4_init_96 : decode cX4_init 96 = .ok (.aload_n 1, 1) := by decide +kernel
theorem dX4_init_97 : decode cX4_init 97 = .ok (.putfield 55, 3) := by decide +kernel
theorem dX4_init_100 : decode cX4_init 100 = .ok (.return_, 1) := by decide +kernel
theorem dX4_signCount_0 : decode cX4_signCount 0 = .ok (.aload_n 0, 1) := by decide +kernel
theorem dX4_signCount_1 : decode cX4_signCount 1 = .ok (.getfield 41, 3) := by decide +kernel
theorem dX4_signCount_4 : decode cX4_signCount 4 = .ok (.ireturn, 1) := by decide +kernel
theorem dX4_crewCount_0 : decode cX4_crewCount 0 = .ok (.aload_n 0, 1) := by decide +kernel
theorem dX4_crewCount_1 : decode cX4_crewCount 1 = .ok (.getfield 45, 3) := by decide +kernel
theorem dX4_crewCount_4 : decode cX4_crewCount 4 = .ok (.ireturn, 1) := by decide +kernel
theorem dX4_hasSign_0 : decode cX4_hasSign 0 = .ok (.iload_n 1, 1) := by decide +kernel
theorem dX4_hasSign_1 : decode cX4_hasSign 1 = .ok (.ifCond .lt 15, 3) := by decide +kernel
theorem dX4_hasSign_4 : decode cX4_hasSign 4 = .ok (.iload_n 1, 1) := by decide +kernel
theorem dX4_hasSign_5 : decode cX4_hasSign 5 = .ok (.aload_n 0, 1) := by decide +kernel
theorem dX4_hasSign_6 : decode cX4_hasSign 6 = .ok (.getfield 41, 3) := by decide +kernel
theorem dX4_hasSign_9 : decode cX4_hasSign 9 = .ok (.if_icmp .ge 7, 3) := by decide +kernel
theorem dX4_hasSign_12 : decode cX4_hasSign 12 = .ok (.iconst 1, 1) := by decide +kernel
theorem dX4_hasSign_13 : decode cX4_hasSign 13 = .ok (.goto 4, 3) := by decide +kernel
theorem dX4_hasSign_16 : decode cX4_hasSign 16 = .ok (.iconst 0, 1) := by decide +kernel
theorem dX4_hasSign_17 : decode cX4_hasSign 17 = .ok (.ireturn, 1) := by decide +kernel
theorem dX4_crewOf_0 : decode cX4_crewOf 0 = .ok (.aload_n 0, 1) := by decide +kernel
theorem dX4_crewOf_1 : decode cX4_crewOf 1 = .ok (.getfield 32, 3) := by decide +kernel
theorem dX4_crewOf_4 : decode cX4_crewOf 4 = .ok (.iload_n 1, 1) := by decide +kernel
theorem dX4_crewOf_5 : decode cX4_crewOf 5 = .ok (.iaload, 1) := by decide +kernel
theorem dX4_crewOf_6 : decode cX4_crewOf 6 = .ok (.ireturn, 1) := by decide +kernel
theorem dX4_countAhead_0 : decode cX4_countAhead 0 = .ok (.aload_n 0, 1) := by decide +kernel
theorem dX4_countAhead_1 : decode cX4_countAhead 1 = .ok (.getfield 35, 3) := by decide +kernel
theorem dX4_countAhead_4 : decode cX4_countAhead 4 = .ok (.iload_n 1, 1) := by decide +kernel
theorem dX4_countAhead_5 : decode cX4_countAhead 5 = .ok (.iaload, 1) := by decide +kernel
theorem dX4_countAhead_6 : decode cX4_countAhead 6 = .ok (.ireturn, 1) := by decide +kernel
theorem dX4_minuteTurned_0 : decode cX4_minuteTurned 0 = .ok (.aload_n 0, 1) := by decide +kernel
theorem dX4_minuteTurned_1 : decode cX4_minuteTurned 1 = .ok (.getfield 38, 3) := by decide +kernel
theorem dX4_minuteTurned_4 : decode cX4_minuteTurned 4 = .ok (.iload_n 1, 1) := by decide +kernel
theorem dX4_minuteTurned_5 : decode cX4_minuteTurned 5 = .ok (.iaload, 1) := by decide +kernel
theorem dX4_minuteTurned_6 : decode cX4_minuteTurned 6 = .ok (.ireturn, 1) := by decide +kernel
theorem dX4_forget_0 : decode cX4_forget 0 = .ok (.aload_n 0, 1) := by decide +kernel
theorem dX4_forget_1 : decode cX4_forget 1 = .ok (.iconst 0, 1) := by decide +kernel
theorem dX4_forget_2 : decode cX4_forget 2 = .ok (.putfield 48, 3) := by decide +kernel
theorem dX4_forget_5 : decode cX4_forget 5 = .ok (.return_, 1) := by decide +kernel
theorem dX4_addSign_0 : decode cX4_addSign 0 = .ok (.aload_n 0, 1) := by decide +kernel
theorem dX4_addSign_1 : decode cX4_addSign 1 = .ok (.getfield 41, 3) := by decide +kernel
theorem dX4_addSign_4 : decode cX4_addSign 4 = .ok (.bipush 8, 2) := by decide +kernel
theorem dX4_addSign_6 : decode cX4_addSign 6 = .ok (.if_icmp .lt 5, 3) := by decide +kernel
theorem dX4_addSign_9 : decode cX4_addSign 9 = .ok (.iconst (-1), 1) := by decide +kernel
theorem dX4_addSign_10 : decode cX4_addSign 10 = .ok (.ireturn, 1) := by decide +kernel
theorem dX4_addSign_11 : decode cX4_addSign 11 = .ok (.aload_n 0, 1) := by decide +kernel
theorem dX4_addSign_12 : decode cX4_addSign 12 = .ok (.getfield 11, 3) := by decide +kernel
theorem dX4_addSign_15 : decode cX4_addSign 15 = .ok (.aload_n 0, 1) := by decide +kernel
theorem dX4_addSign_16 : decode cX4_addSign 16 = .ok (.getfield 41, 3) := by decide +kernel
theorem dX4_addSign_19 : decode cX4_addSign 19 = .ok (.iload_n 1, 1) := by decide +kernel
theorem dX4_addSign_20 : decode cX4_addSign 20 = .ok (.iastore, 1) := by decide +kernel
theorem dX4_addSign_21 : decode cX4_addSign 21 = .ok (.aload_n 0, 1) := by decide +kernel
theorem dX4_addSign_22 : decode cX4_addSign 22 = .ok (.getfield 15, 3) := by decide +kernel
theorem dX4_addSign_25 : decode cX4_addSign 25 = .ok (.aload_n 0, 1) := by decide +kernel
theorem dX4_addSign_26 : decode cX4_addSign 26 = .ok (.getfield 41, 3) := by decide +kernel
theorem dX4_addSign_29 : decode cX4_addSign 29 = .ok (.iload_n 2, 1) := by decide +kernel
theorem dX4_addSign_30 : decode cX4_addSign 30 = .ok (.iastore, 1) := by decide +kernel
theorem dX4_addSign_31 : decode cX4_addSign 31 = .ok (.aload_n 0, 1) := by decide +kernel
theorem dX4_addSign_32 : decode cX4_addSign 32 = .ok (.dup, 1) := by decide +kernel
theorem dX4_addSign_33 : decode cX4_addSign 33 = .ok (.getfield 41, 3) := by decide +kernel
theorem dX4_addSign_36 : decode cX4_addSign 36 = .ok (.iconst 1, 1) := by decide +kernel
theorem dX4_addSign_37 : decode cX4_addSign 37 = .ok (.iadd, 1) := by decide +kernel
theorem dX4_addSign_38 : decode cX4_addSign 38 = .ok (.putfield 41, 3) := by decide +kernel
theorem dX4_addSign_41 : decode cX4_addSign 41 = .ok (.aload_n 0, 1) := by decide +kernel
theorem dX4_addSign_42 : decode cX4_addSign 42 = .ok (.invokevirtual 59, 3) := by decide +kernel
theorem dX4_addSign_45 : decode cX4_addSign 45 = .ok (.aload_n 0, 1) := by decide +kernel
theorem dX4_addSign_46 : decode cX4_addSign 46 = .ok (.getfield 41, 3) := by decide +kernel
theorem dX4_addSign_49 : decode cX4_addSign 49 = .ok (.iconst 1, 1) := by decide +kernel
theorem dX4_addSign_50 : decode cX4_addSign 50 = .ok (.isub, 1) := by decide +kernel
theorem dX4_addSign_51 : decode cX4_addSign 51 = .ok (.ireturn, 1) := by decide +kernel
theorem dX4_addCrew_0 : decode cX4_addCrew 0 = .ok (.aload_n 0, 1) := by decide +kernel
theorem dX4_addCrew_1 : decode cX4_addCrew 1 = .ok (.getfield 45, 3) := by decide +kernel
theorem dX4_addCrew_4 : decode cX4_addCrew 4 = .ok (.iconst 3, 1) := by decide +kernel
theorem dX4_addCrew_5 : decode cX4_addCrew 5 = .ok (.if_icmp .lt 5, 3) := by decide +kernel
theorem dX4_addCrew_8 : decode cX4_addCrew 8 = .ok (.iconst (-1), 1) := by decide +kernel
theorem dX4_addCrew_9 : decode cX4_addCrew 9 = .ok (.ireturn, 1) := by decide +kernel
theorem dX4_addCrew_10 : decode cX4_addCrew 10 = .ok (.aload_n 0, 1) := by decide +kernel
theorem dX4_addCrew_11 : decode cX4_addCrew 11 = .ok (.getfield 18, 3) := by decide +kernel
theorem dX4_addCrew_14 : decode cX4_addCrew 14 = .ok (.aload_n 0, 1) := by decide +kernel
theorem dX4_addCrew_15 : decode cX4_addCrew 15 = .ok (.getfield 45, 3) := by decide +kernel
theorem dX4_addCrew_18 : decode cX4_addCrew 18 = .ok (.iload_n 1, 1) := by decide +kernel
theorem dX4_addCrew_19 : decode cX4_addCrew 19 = .ok (.iastore, 1) := by decide +kernel
theorem dX4_addCrew_20 : decode cX4_addCrew 20 = .ok (.aload_n 0, 1) := by decide +kernel
theorem dX4_addCrew_21 : decode cX4_addCrew 21 = .ok (.dup, 1) := by decide +kernel
theorem dX4_addCrew_22 : decode cX4_addCrew 22 = .ok (.getfield 45, 3) := by decide +kernel
theorem dX4_addCrew_25 : decode cX4_addCrew 25 = .ok (.iconst 1, 1) := by decide +kernel
theorem dX4_addCrew_26 : decode cX4_addCrew 26 = .ok (.iadd, 1) := by decide +kernel
theorem dX4_addCrew_27 : decode cX4_addCrew 27 = .ok (.putfield 45, 3) := by decide +kernel
theorem dX4_addCrew_30 : decode cX4_addCrew 30 = .ok (.aload_n 0, 1) := by decide +kernel
theorem dX4_addCrew_31 : decode cX4_addCrew 31 = .ok (.invokevirtual 59, 3) := by decide +kernel
theorem dX4_addCrew_34 : decode cX4_addCrew 34 = .ok (.aload_n 0, 1) := by decide +kernel
theorem dX4_addCrew_35 : decode cX4_addCrew 35 = .ok (.getfield 45, 3) := by decide +kernel
theorem dX4_addCrew_38 : decode cX4_addCrew 38 = .ok (.iconst 1, 1) := by decide +kernel
theorem dX4_addCrew_39 : decode cX4_addCrew 39 = .ok (.isub, 1) := by decide +kernel
theorem dX4_addCrew_40 : decode cX4_addCrew 40 = .ok (.ireturn, 1) := by decide +kernel
theorem dX4_leastMinutes_0 : decode cX4_leastMinutes 0 = .ok (.aload_n 0, 1) := by decide +kernel
theorem dX4_leastMinutes_1 : decode cX4_leastMinutes 1 = .ok (.getfield 48, 3) := by decide +kernel
theorem dX4_leastMinutes_4 : decode cX4_leastMinutes 4 = .ok (.ifCond .ne 45, 3) := by decide +kernel
theorem dX4_leastMinutes_7 : decode cX4_leastMinutes 7 = .ok (.aload_n 0, 1) := by decide +kernel
theorem dX4_leastMinutes_8 : decode cX4_leastMinutes 8 = .ok (.iconst 1, 1) := by decide +kernel
theorem dX4_leastMinutes_9 : decode cX4_leastMinutes 9 = .ok (.putfield 48, 3) := by decide +kernel
theorem dX4_leastMinutes_12 : decode cX4_leastMinutes 12 = .ok (.aload_n 0, 1) := by decide +kernel
theorem dX4_leastMinutes_13 : decode cX4_leastMinutes 13 = .ok (.invokevirtual 62, 3) := by decide +kernel
theorem dX4_leastMinutes_16 : decode cX4_leastMinutes 16 = .ok (.aload_n 0, 1) := by decide +kernel
theorem dX4_leastMinutes_17 : decode cX4_leastMinutes 17 = .ok (.invokevirtual 65, 3) := by decide +kernel
theorem dX4_leastMinutes_20 : decode cX4_leastMinutes 20 = .ok (.iconst 0, 1) := by decide +kernel
theorem dX4_leastMinutes_21 : decode cX4_leastMinutes 21 = .ok (.istore_n 1, 1) := by decide +kernel
theorem dX4_leastMinutes_22 : decode cX4_leastMinutes 22 = .ok (.iload_n 1, 1) := by decide +kernel
theorem dX4_leastMinutes_23 : decode cX4_leastMinutes 23 = .ok (.aload_n 0, 1) := by decide +kernel
theorem dX4_leastMinutes_24 : decode cX4_leastMinutes 24 = .ok (.getfield 45, 3) := by decide +kernel
theorem dX4_leastMinutes_27 : decode cX4_leastMinutes 27 = .ok (.if_icmp .ge 22, 3) := by decide +kernel
theorem dX4_leastMinutes_30 : decode cX4_leastMinutes 30 = .ok (.aload_n 0, 1) := by decide +kernel
theorem dX4_leastMinutes_31 : decode cX4_leastMinutes 31 = .ok (.getfield 52, 3) := by decide +kernel
theorem dX4_leastMinutes_34 : decode cX4_leastMinutes 34 = .ok (.iconst (-1), 1) := by decide +kernel
theorem dX4_leastMinutes_35 : decode cX4_leastMinutes 35 = .ok (.if_icmp .eq 14, 3) := by decide +kernel
theorem dX4_leastMinutes_38 : decode cX4_leastMinutes 38 = .ok (.aload_n 0, 1) := by decide +kernel
theorem dX4_leastMinutes_39 : decode cX4_leastMinutes 39 = .ok (.iload_n 1, 1) := by decide +kernel
theorem dX4_leastMinutes_40 : decode cX4_leastMinutes 40 = .ok (.invokevirtual 68, 3) := by decide +kernel
theorem dX4_leastMinutes_43 : decode cX4_leastMinutes 43 = .ok (.iinc 1 1, 3) := by decide +kernel
theorem dX4_leastMinutes_46 : decode cX4_leastMinutes 46 = .ok (.goto (-24), 3) := by decide +kernel
theorem dX4_leastMinutes_49 : decode cX4_leastMinutes 49 = .ok (.aload_n 0, 1) := by decide +kernel
theorem dX4_leastMinutes_50 : decode cX4_leastMinutes 50 = .ok (.getfield 52, 3) := by decide +kernel
theorem dX4_leastMinutes_53 : decode cX4_leastMinutes 53 = .ok (.ireturn, 1) := by decide +kernel
theorem dX4_fillNeeds_0 : decode cX4_fillNeeds 0 = .ok (.iconst 0, 1) := by decide +kernel
theorem dX4_fillNeeds_1 : decode cX4_fillNeeds 1 = .ok (.istore_n 1, 1) := by decide +kernel
theorem dX4_fillNeeds_2 : decode cX4_fillNeeds 2 = .ok (.iload_n 1, 1) := by decide +kernel
theorem dX4_fillNeeds_3 : decode cX4_fillNeeds 3 = .ok (.iconst 1, 1) := by decide +kernel
theorem dX4_fillNeeds_4 : decode cX4_fillNeeds 4 = .ok (.aload_n 0, 1) := by decide +kernel
theorem dX4_fillNeeds_5 : decode cX4_fillNeeds 5 = .ok (.getfield 41, 3) := by decide +kernel
theorem dX4_fillNeeds_8 : decode cX4_fillNeeds 8 = .ok (.ishl, 1) := by decide +kernel
theorem dX4_fillNeeds_9 : decode cX4_fillNeeds 9 = .ok (.if_icmp .ge 53, 3) := by decide +kernel
theorem dX4_fillNeeds_12 : decode cX4_fillNeeds 12 = .ok (.iconst 0, 1) := by decide +kernel
theorem dX4_fillNeeds_13 : decode cX4_fillNeeds 13 = .ok (.istore_n 2, 1) := by decide +kernel
theorem dX4_fillNeeds_14 : decode cX4_fillNeeds 14 = .ok (.iload_n 2, 1) := by decide +kernel
theorem dX4_fillNeeds_15 : decode cX4_fillNeeds 15 = .ok (.aload_n 0, 1) := by decide +kernel
theorem dX4_fillNeeds_16 : decode cX4_fillNeeds 16 = .ok (.getfield 55, 3) := by decide +kernel
theorem dX4_fillNeeds_19 : decode cX4_fillNeeds 19 = .ok (.invokevirtual 72, 3) := by decide +kernel
theorem dX4_fillNeeds_22 : decode cX4_fillNeeds 22 = .ok (.if_icmp .ge 34, 3) := by decide +kernel
theorem dX4_fillNeeds_25 : decode cX4_fillNeeds 25 = .ok (.aload_n 0, 1) := by decide +kernel
theorem dX4_fillNeeds_26 : decode cX4_fillNeeds 26 = .ok (.getfield 23, 3) := by decide +kernel
theorem dX4_fillNeeds_29 : decode cX4_fillNeeds 29 = .ok (.iload_n 1, 1) := by decide +kernel
theorem dX4_fillNeeds_30 : decode cX4_fillNeeds 30 = .ok (.bipush 8, 2) := by decide +kernel
theorem dX4_fillNeeds_32 : decode cX4_fillNeeds 32 = .ok (.imul, 1) := by decide +kernel
theorem dX4_fillNeeds_33 : decode cX4_fillNeeds 33 = .ok (.iload_n 2, 1) := by decide +kernel
theorem dX4_fillNeeds_34 : decode cX4_fillNeeds 34 = .ok (.iadd, 1) := by decide +kernel
theorem dX4_fillNeeds_35 : decode cX4_fillNeeds 35 = .ok (.iload_n 1, 1) := by decide +kernel
theorem dX4_fillNeeds_36 : decode cX4_fillNeeds 36 = .ok (.ifCond .ne 7, 3) := by decide +kernel
theorem dX4_fillNeeds_39 : decode cX4_fillNeeds 39 = .ok (.iconst 0, 1) := by decide +kernel
theorem dX4_fillNeeds_40 : decode cX4_fillNeeds 40 = .ok (.goto 9, 3) := by decide +kernel
theorem dX4_fillNeeds_43 : decode cX4_fillNeeds 43 = .ok (.aload_n 0, 1) := by decide +kernel
theorem dX4_fillNeeds_44 : decode cX4_fillNeeds 44 = .ok (.iload_n 1, 1) := by decide +kernel
theorem dX4_fillNeeds_45 : decode cX4_fillNeeds 45 = .ok (.iload_n 2, 1) := by decide +kernel
theorem dX4_fillNeeds_46 : decode cX4_fillNeeds 46 = .ok (.invokevirtual 76, 3) := by decide +kernel
theorem dX4_fillNeeds_49 : decode cX4_fillNeeds 49 = .ok (.iastore, 1) := by decide +kernel
theorem dX4_fillNeeds_50 : decode cX4_fillNeeds 50 = .ok (.iinc 2 1, 3) := by decide +kernel
theorem dX4_fillNeeds_53 : decode cX4_fillNeeds 53 = .ok (.goto (-39), 3) := by decide +kernel
theorem dX4_fillNeeds_56 : decode cX4_fillNeeds 56 = .ok (.iinc 1 1, 3) := by decide +kernel
theorem dX4_fillNeeds_59 : decode cX4_fillNeeds 59 = .ok (.goto (-57), 3) := by decide +kernel
theorem dX4_fillNeeds_62 : decode cX4_fillNeeds 62 = .ok (.return_, 1) := by decide +kernel
theorem dX4_needBySigns_0 : decode cX4_needBySigns 0 = .ok (.ldc 80, 2) := by decide +kernel
theorem dX4_needBySigns_2 : decode cX4_needBySigns 2 = .ok (.istore_n 3, 1) := by decide +kernel
theorem dX4_needBySigns_3 : decode cX4_needBySigns 3 = .ok (.iconst 0, 1) := by decide +kernel
theorem dX4_needBySigns_4 : decode cX4_needBySigns 4 = .ok (.istore 4, 2) := by decide +kernel
theorem dX4_needBySigns_6 : decode cX4_needBySigns 6 = .ok (.iload 4, 2) := by decide +kernel
theorem dX4_needBySigns_8 : decode cX4_needBySigns 8 = .ok (.aload_n 0, 1) := by decide +kernel
theorem dX4_needBySigns_9 : decode cX4_needBySigns 9 = .ok (.getfield 41, 3) := by decide +kernel
theorem dX4_needBySigns_12 : decode cX4_needBySigns 12 = .ok (.if_icmp .ge 31, 3) := by decide +kernel
theorem dX4_needBySigns_15 : decode cX4_needBySigns 15 = .ok (.iload_n 1, 1) := by decide +kernel
theorem dX4_needBySigns_16 : decode cX4_needBySigns 16 = .ok (.iload 4, 2) := by decide +kernel
theorem dX4_needBySigns_18 : decode cX4_needBySigns 18 = .ok (.invokestatic 81, 3) := by decide +kernel
theorem dX4_needBySigns_21 : decode cX4_needBySigns 21 = .ok (.ifCond .eq 16, 3) := by decide +kernel
theorem dX4_needBySigns_24 : decode cX4_needBySigns 24 = .ok (.iload_n 3, 1) := by decide +kernel
theorem dX4_needBySigns_25 : decode cX4_needBySigns 25 = .ok (.aload_n 0, 1) := by decide +kernel
theorem dX4_needBySigns_26 : decode cX4_needBySigns 26 = .ok (.iload_n 1, 1) := by decide +kernel
theorem dX4_needBySigns_27 : decode cX4_needBySigns 27 = .ok (.iload_n 2, 1) := by decide +kernel
theorem dX4_needBySigns_28 : decode cX4_needBySigns 28 = .ok (.iload 4, 2) := by decide +kernel
theorem dX4_needBySigns_30 : decode cX4_needBySigns 30 = .ok (.invokevirtual 85, 3) := by decide +kernel
theorem dX4_needBySigns_33 : decode cX4_needBySigns 33 = .ok (.invokestatic 89, 3) := by decide +kernel
theorem dX4_needBySigns_36 : decode cX4_needBySigns 36 = .ok (.istore_n 3, 1) := by decide +kernel
theorem dX4_needBySigns_37 : decode cX4_needBySigns 37 = .ok (.iinc 4 1, 3) := by decide +kernel
theorem dX4_needBySigns_40 : decode cX4_needBySigns 40 = .ok (.goto (-34), 3) := by decide +kernel
theorem dX4_needBySigns_43 : decode cX4_needBySigns 43 = .ok (.iload_n 3, 1) := by decide +kernel
theorem dX4_needBySigns_44 : decode cX4_needBySigns 44 = .ok (.ireturn, 1) := by decide +kernel
theorem dX4_needIfFirst_0 : decode cX4_needIfFirst 0 = .ok (.aload_n 0, 1) := by decide +kernel
theorem dX4_needIfFirst_1 : decode cX4_needIfFirst 1 = .ok (.iload_n 2, 1) := by decide +kernel
theorem dX4_needIfFirst_2 : decode cX4_needIfFirst 2 = .ok (.iload_n 3, 1) := by decide +kernel
theorem dX4_needIfFirst_3 : decode cX4_needIfFirst 3 = .ok (.invokevirtual 94, 3) := by decide +kernel
theorem dX4_needIfFirst_6 : decode cX4_needIfFirst 6 = .ok (.aload_n 0, 1) := by decide +kernel
theorem dX4_needIfFirst_7 : decode cX4_needIfFirst 7 = .ok (.iload_n 1, 1) := by decide +kernel
theorem dX4_needIfFirst_8 : decode cX4_needIfFirst 8 = .ok (.iconst 1, 1) := by decide +kernel
theorem dX4_needIfFirst_9 : decode cX4_needIfFirst 9 = .ok (.iload_n 3, 1) := by decide +kernel
theorem dX4_needIfFirst_10 : decode cX4_needIfFirst 10 = .ok (.ishl, 1) := by decide +kernel
theorem dX4_needIfFirst_11 : decode cX4_needIfFirst 11 = .ok (.iconst (-1), 1) := by decide +kernel
theorem dX4_needIfFirst_12 : decode cX4_needIfFirst 12 = .ok (.ixor, 1) := by decide +kernel
theorem dX4_needIfFirst_13 : decode cX4_needIfFirst 13 = .ok (.iand, 1) := by decide +kernel
theorem dX4_needIfFirst_14 : decode cX4_needIfFirst 14 = .ok (.aload_n 0, 1) := by decide +kernel
theorem dX4_needIfFirst_15 : decode cX4_needIfFirst 15 = .ok (.getfield 11, 3) := by decide +kernel
theorem dX4_needIfFirst_18 : decode cX4_needIfFirst 18 = .ok (.iload_n 3, 1) := by decide +kernel
theorem dX4_needIfFirst_19 : decode cX4_needIfFirst 19 = .ok (.iaload, 1) := by decide +kernel
theorem dX4_needIfFirst_20 : decode cX4_needIfFirst 20 = .ok (.invokevirtual 97, 3) := by decide +kernel
theorem dX4_needIfFirst_23 : decode cX4_needIfFirst 23 = .ok (.iadd, 1) := by decide +kernel
theorem dX4_needIfFirst_24 : decode cX4_needIfFirst 24 = .ok (.ireturn, 1) := by decide +kernel
theorem dX4_step_0 : decode cX4_step 0 = .ok (.aload_n 0, 1) := by decide +kernel
theorem dX4_step_1 : decode cX4_step 1 = .ok (.getfield 55, 3) := by decide +kernel
theorem dX4_step_4 : decode cX4_step 4 = .ok (.iload_n 1, 1) := by decide +kernel
theorem dX4_step_5 : decode cX4_step 5 = .ok (.aload_n 0, 1) := by decide +kernel
theorem dX4_step_6 : decode cX4_step 6 = .ok (.getfield 11, 3) := by decide +kernel
theorem dX4_step_9 : decode cX4_step 9 = .ok (.iload_n 2, 1) := by decide +kernel
theorem dX4_step_10 : decode cX4_step 10 = .ok (.iaload, 1) := by decide +kernel
theorem dX4_step_11 : decode cX4_step 11 = .ok (.invokevirtual 100, 3) := by decide +kernel
theorem dX4_step_14 : decode cX4_step 14 = .ok (.aload_n 0, 1) := by decide +kernel
theorem dX4_step_15 : decode cX4_step 15 = .ok (.getfield 15, 3) := by decide +kernel
theorem dX4_step_18 : decode cX4_step 18 = .ok (.iload_n 2, 1) := by decide +kernel
theorem dX4_step_19 : decode cX4_step 19 = .ok (.iaload, 1) := by decide +kernel
theorem dX4_step_20 : decode cX4_step 20 = .ok (.iadd, 1) := by decide +kernel
theorem dX4_step_21 : decode cX4_step 21 = .ok (.ireturn, 1) := by decide +kernel
theorem dX4_need_0 : decode cX4_need 0 = .ok (.aload_n 0, 1) := by decide +kernel
theorem dX4_need_1 : decode cX4_need 1 = .ok (.getfield 23, 3) := by decide +kernel
theorem dX4_need_4 : decode cX4_need 4 = .ok (.iload_n 1, 1) := by decide +kernel
theorem dX4_need_5 : decode cX4_need 5 = .ok (.bipush 8, 2) := by decide +kernel
theorem dX4_need_7 : decode cX4_need 7 = .ok (.imul, 1) := by decide +kernel
theorem dX4_need_8 : decode cX4_need 8 = .ok (.iload_n 2, 1) := by decide +kernel
theorem dX4_need_9 : decode cX4_need 9 = .ok (.iadd, 1) := by decide +kernel
theorem dX4_need_10 : decode cX4_need 10 = .ok (.iaload, 1) := by decide +kernel
theorem dX4_need_11 : decode cX4_need 11 = .ok (.ireturn, 1) := by decide +kernel
theorem dX4_holds_0 : decode cX4_holds 0 = .ok (.iload_n 0, 1) := by decide +kernel
theorem dX4_holds_1 : decode cX4_holds 1 = .ok (.iload_n 1, 1) := by decide +kernel
theorem dX4_holds_2 : decode cX4_holds 2 = .ok (.iushr, 1) := by decide +kernel
theorem dX4_holds_3 : decode cX4_holds 3 = .ok (.iconst 1, 1) := by decide +kernel
theorem dX4_holds_4 : decode cX4_holds 4 = .ok (.iand, 1) := by decide +kernel
theorem dX4_holds_5 : decode cX4_holds 5 = .ok (.iconst 1, 1) := by decide +kernel
theorem dX4_holds_6 : decode cX4_holds 6 = .ok (.if_icmp .ne 7, 3) := by decide +kernel
theorem dX4_holds_9 : decode cX4_holds 9 = .ok (.iconst 1, 1) := by decide +kernel
theorem dX4_holds_10 : decode cX4_holds 10 = .ok (.goto 4, 3) := by decide +kernel
theorem dX4_holds_13 : decode cX4_holds 13 = .ok (.iconst 0, 1) := by decide +kernel
theorem dX4_holds_14 : decode cX4_holds 14 = .ok (.ireturn, 1) := by decide +kernel
theorem dX4_shareOut_0 : decode cX4_shareOut 0 = .ok (.ldc 80, 2) := by decide +kernel
theorem dX4_shareOut_2 : decode cX4_shareOut 2 = .ok (.istore_n 1, 1) := by decide +kernel
theorem dX4_shareOut_3 : decode cX4_shareOut 3 = .ok (.aload_n 0, 1) := by decide +kernel
theorem dX4_shareOut_4 : decode cX4_shareOut 4 = .ok (.getfield 41, 3) := by decide +kernel
theorem dX4_shareOut_7 : decode cX4_shareOut 7 = .ok (.ifCond .ne 7, 3) := by decide +kernel
theorem dX4_shareOut_10 : decode cX4_shareOut 10 = .ok (.iconst 1, 1) := by decide +kernel
theorem dX4_shareOut_11 : decode cX4_shareOut 11 = .ok (.goto 4, 3) := by decide +kernel
theorem dX4_shareOut_14 : decode cX4_shareOut 14 = .ok (.iconst 0, 1) := by decide +kernel
theorem dX4_shareOut_15 : decode cX4_shareOut 15 = .ok (.istore_n 2, 1) := by decide +kernel
theorem dX4_shareOut_16 : decode cX4_shareOut 16 = .ok (.aload_n 0, 1) := by decide +kernel
theorem dX4_shareOut_17 : decode cX4_shareOut 17 = .ok (.getfield 45, 3) := by decide +kernel
theorem dX4_shareOut_20 : decode cX4_shareOut 20 = .ok (.ifCond .le 28, 3) := by decide +kernel
theorem dX4_shareOut_23 : decode cX4_shareOut 23 = .ok (.iconst 1, 1) := by decide +kernel
theorem dX4_shareOut_24 : decode cX4_shareOut 24 = .ok (.istore_n 2, 1) := by decide +kernel
theorem dX4_shareOut_25 : decode cX4_shareOut 25 = .ok (.iconst 0, 1) := by decide +kernel
theorem dX4_shareOut_26 : decode cX4_shareOut 26 = .ok (.istore_n 3, 1) := by decide +kernel
theorem dX4_shareOut_27 : decode cX4_shareOut 27 = .ok (.iload_n 3, 1) := by decide +kernel
theorem dX4_shareOut_28 : decode cX4_shareOut 28 = .ok (.aload_n 0, 1) := by decide +kernel
theorem dX4_shareOut_29 : decode cX4_shareOut 29 = .ok (.getfield 41, 3) := by decide +kernel
theorem dX4_shareOut_32 : decode cX4_shareOut 32 = .ok (.if_icmp .ge 16, 3) := by decide +kernel
theorem dX4_shareOut_35 : decode cX4_shareOut 35 = .ok (.iload_n 2, 1) := by decide +kernel
theorem dX4_shareOut_36 : decode cX4_shareOut 36 = .ok (.aload_n 0, 1) := by decide +kernel
theorem dX4_shareOut_37 : decode cX4_shareOut 37 = .ok (.getfield 45, 3) := by decide +kernel
theorem dX4_shareOut_40 : decode cX4_shareOut 40 = .ok (.imul, 1) := by decide +kernel
theorem dX4_shareOut_41 : decode cX4_shareOut 41 = .ok (.istore_n 2, 1) := by decide +kernel
theorem dX4_shareOut_42 : decode cX4_shareOut 42 = .ok (.iinc 3 1, 3) := by decide +kernel
theorem dX4_shareOut_45 : decode cX4_shareOut 45 = .ok (.goto (-18), 3) := by decide +kernel
theorem dX4_shareOut_48 : decode cX4_shareOut 48 = .ok (.aload_n 0, 1) := by decide +kernel
theorem dX4_shareOut_49 : decode cX4_shareOut 49 = .ok (.getfield 26, 3) := by decide +kernel
theorem dX4_shareOut_52 : decode cX4_shareOut 52 = .ok (.iconst 0, 1) := by decide +kernel
theorem dX4_shareOut_53 : decode cX4_shareOut 53 = .ok (.invokestatic 103, 3) := by decide +kernel
theorem dX4_shareOut_56 : decode cX4_shareOut 56 = .ok (.iconst 0, 1) := by decide +kernel
theorem dX4_shareOut_57 : decode cX4_shareOut 57 = .ok (.istore_n 3, 1) := by decide +kernel
theorem dX4_shareOut_58 : decode cX4_shareOut 58 = .ok (.iload_n 3, 1) := by decide +kernel
theorem dX4_shareOut_59 : decode cX4_shareOut 59 = .ok (.iload_n 2, 1) := by decide +kernel
theorem dX4_shareOut_60 : decode cX4_shareOut 60 = .ok (.if_icmp .ge 43, 3) := by decide +kernel
theorem dX4_shareOut_63 : decode cX4_shareOut 63 = .ok (.aload_n 0, 1) := by decide +kernel
theorem dX4_shareOut_64 : decode cX4_shareOut 64 = .ok (.invokevirtual 109, 3) := by decide +kernel
theorem dX4_shareOut_67 : decode cX4_shareOut 67 = .ok (.istore 4, 2) := by decide +kernel
theorem dX4_shareOut_69 : decode cX4_shareOut 69 = .ok (.iload 4, 2) := by decide +kernel
theorem dX4_shareOut_71 : decode cX4_shareOut 71 = .ok (.iload_n 1, 1) := by decide +kernel
theorem dX4_shareOut_72 : decode cX4_shareOut 72 = .ok (.if_icmp .ge 21, 3) := by decide +kernel
theorem dX4_shareOut_75 : decode cX4_shareOut 75 = .ok (.iload 4, 2) := by decide +kernel
theorem dX4_shareOut_77 : decode cX4_shareOut 77 = .ok (.istore_n 1, 1) := by decide +kernel
theorem dX4_shareOut_78 : decode cX4_shareOut 78 = .ok (.aload_n 0, 1) := by decide +kernel
theorem dX4_shareOut_79 : decode cX4_shareOut 79 = .ok (.getfield 26, 3) := by decide +kernel
theorem dX4_shareOut_82 : decode cX4_shareOut 82 = .ok (.iconst 0, 1) := by decide +kernel
theorem dX4_shareOut_83 : decode cX4_shareOut 83 = .ok (.aload_n 0, 1) := by decide +kernel
theorem dX4_shareOut_84 : decode cX4_shareOut 84 = .ok (.getfield 32, 3) := by decide +kernel
theorem dX4_shareOut_87 : decode cX4_shareOut 87 = .ok (.iconst 0, 1) := by decide +kernel
theorem dX4_shareOut_88 : decode cX4_shareOut 88 = .ok (.bipush 8, 2) := by decide +kernel
theorem dX4_shareOut_90 : decode cX4_shareOut 90 = .ok (.invokestatic 112, 3) := by decide +kernel
theorem dX4_shareOut_93 : decode cX4_shareOut 93 = .ok (.aload_n 0, 1) := by decide +kernel
theorem dX4_shareOut_94 : decode cX4_shareOut 94 = .ok (.invokevirtual 118, 3) := by decide +kernel
theorem dX4_shareOut_97 : decode cX4_shareOut 97 = .ok (.iinc 3 1, 3) := by decide +kernel
theorem dX4_shareOut_100 : decode cX4_shareOut 100 = .ok (.goto (-42), 3) := by decide +kernel
theorem dX4_shareOut_103 : decode cX4_shareOut 103 = .ok (.aload_n 0, 1) := by decide +kernel
theorem dX4_shareOut_104 : decode cX4_shareOut 104 = .ok (.iload_n 1, 1) := by decide +kernel
theorem dX4_shareOut_105 : decode cX4_shareOut 105 = .ok (.ldc 80, 2) := by decide +kernel
theorem dX4_shareOut_107 : decode cX4_shareOut 107 = .ok (.if_icmp .ge 7, 3) := by decide +kernel
theorem dX4_shareOut_110 : decode cX4_shareOut 110 = .ok (.iload_n 1, 1) := by decide +kernel
theorem dX4_shareOut_111 : decode cX4_shareOut 111 = .ok (.goto 4, 3) := by decide +kernel
theorem dX4_shareOut_114 : decode cX4_shareOut 114 = .ok (.iconst (-1), 1) := by decide +kernel
theorem dX4_shareOut_115 : decode cX4_shareOut 115 = .ok (.putfield 52, 3) := by decide +kernel
theorem dX4_shareOut_118 : decode cX4_shareOut 118 = .ok (.return_, 1) := by decide +kernel
theorem dX4_weighTrial_0 : decode cX4_weighTrial 0 = .ok (.aload_n 0, 1) := by decide +kernel
theorem dX4_weighTrial_1 : decode cX4_weighTrial 1 = .ok (.getfield 29, 3) := by decide +kernel
theorem dX4_weighTrial_4 : decode cX4_weighTrial 4 = .ok (.iconst 0, 1) := by decide +kernel
theorem dX4_weighTrial_5 : decode cX4_weighTrial 5 = .ok (.invokestatic 103, 3) := by decide +kernel
theorem dX4_weighTrial_8 : decode cX4_weighTrial 8 = .ok (.iconst 0, 1) := by decide +kernel
theorem dX4_weighTrial_9 : decode cX4_weighTrial 9 = .ok (.istore_n 1, 1) := by decide +kernel
theorem dX4_weighTrial_10 : decode cX4_weighTrial 10 = .ok (.iload_n 1, 1) := by decide +kernel
theorem dX4_weighTrial_11 : decode cX4_weighTrial 11 = .ok (.aload_n 0, 1) := by decide +kernel
theorem dX4_weighTrial_12 : decode cX4_weighTrial 12 = .ok (.getfield 41, 3) := by decide +kernel
theorem dX4_weighTrial_15 : decode cX4_weighTrial 15 = .ok (.if_icmp .ge 26, 3) := by decide +kernel
theorem dX4_weighTrial_18 : decode cX4_weighTrial 18 = .ok (.aload_n 0, 1) := by decide +kernel
theorem dX4_weighTrial_19 : decode cX4_weighTrial 19 = .ok (.getfield 29, 3) := by decide +kernel
theorem dX4_weighTrial_22 : decode cX4_weighTrial 22 = .ok (.aload_n 0, 1) := by decide +kernel
theorem dX4_weighTrial_23 : decode cX4_weighTrial 23 = .ok (.getfield 26, 3) := by decide +kernel
theorem dX4_weighTrial_26 : decode cX4_weighTrial 26 = .ok (.iload_n 1, 1) := by decide +kernel
theorem dX4_weighTrial_27 : decode cX4_weighTrial 27 = .ok (.iaload, 1) := by decide +kernel
theorem dX4_weighTrial_28 : decode cX4_weighTrial 28 = .ok (.dup2, 1) := by decide +kernel
theorem dX4_weighTrial_29 : decode cX4_weighTrial 29 = .ok (.iaload, 1) := by decide +kernel
theorem dX4_weighTrial_30 : decode cX4_weighTrial 30 = .ok (.iconst 1, 1) := by decide +kernel
theorem dX4_weighTrial_31 : decode cX4_weighTrial 31 = .ok (.iload_n 1, 1) := by decide +kernel
theorem dX4_weighTrial_32 : decode cX4_weighTrial 32 = .ok (.ishl, 1) := by decide +kernel
theorem dX4_weighTrial_33 : decode cX4_weighTrial 33 = .ok (.ior, 1) := by decide +kernel
theorem dX4_weighTrial_34 : decode cX4_weighTrial 34 = .ok (.iastore, 1) := by decide +kernel
theorem dX4_weighTrial_35 : decode cX4_weighTrial 35 = .ok (.iinc 1 1, 3) := by decide +kernel
theorem dX4_weighTrial_38 : decode cX4_weighTrial 38 = .ok (.goto (-28), 3) := by decide +kernel
theorem dX4_weighTrial_41 : decode cX4_weighTrial 41 = .ok (.iconst 0, 1) := by decide +kernel
theorem dX4_weighTrial_42 : decode cX4_weighTrial 42 = .ok (.istore_n 1, 1) := by decide +kernel
theorem dX4_weighTrial_43 : decode cX4_weighTrial 43 = .ok (.iconst 0, 1) := by decide +kernel
theorem dX4_weighTrial_44 : decode cX4_weighTrial 44 = .ok (.istore_n 2, 1) := by decide +kernel
theorem dX4_weighTrial_45 : decode cX4_weighTrial 45 = .ok (.iload_n 2, 1) := by decide +kernel
theorem dX4_weighTrial_46 : decode cX4_weighTrial 46 = .ok (.aload_n 0, 1) := by decide +kernel
theorem dX4_weighTrial_47 : decode cX4_weighTrial 47 = .ok (.getfield 45, 3) := by decide +kernel
theorem dX4_weighTrial_50 : decode cX4_weighTrial 50 = .ok (.if_icmp .ge 30, 3) := by decide +kernel
theorem dX4_weighTrial_53 : decode cX4_weighTrial 53 = .ok (.iload_n 1, 1) := by decide +kernel
theorem dX4_weighTrial_54 : decode cX4_weighTrial 54 = .ok (.aload_n 0, 1) := by decide +kernel
theorem dX4_weighTrial_55 : decode cX4_weighTrial 55 = .ok (.aload_n 0, 1) := by decide +kernel
theorem dX4_weighTrial_56 : decode cX4_weighTrial 56 = .ok (.getfield 29, 3) := by decide +kernel
theorem dX4_weighTrial_59 : decode cX4_weighTrial 59 = .ok (.iload_n 2, 1) := by decide +kernel
theorem dX4_weighTrial_60 : decode cX4_weighTrial 60 = .ok (.iaload, 1) := by decide +kernel
theorem dX4_weighTrial_61 : decode cX4_weighTrial 61 = .ok (.aload_n 0, 1) := by decide +kernel
theorem dX4_weighTrial_62 : decode cX4_weighTrial 62 = .ok (.getfield 18, 3) := by decide +kernel
theorem dX4_weighTrial_65 : decode cX4_weighTrial 65 = .ok (.iload_n 2, 1) := by decide +kernel
theorem dX4_weighTrial_66 : decode cX4_weighTrial 66 = .ok (.iaload, 1) := by decide +kernel
theorem dX4_weighTrial_67 : decode cX4_weighTrial 67 = .ok (.invokevirtual 97, 3) := by decide +kernel
theorem dX4_weighTrial_70 : decode cX4_weighTrial 70 = .ok (.invokestatic 121, 3) := by decide +kernel
theorem dX4_weighTrial_73 : decode cX4_weighTrial 73 = .ok (.istore_n 1, 1) := by decide +kernel
theorem dX4_weighTrial_74 : decode cX4_weighTrial 74 = .ok (.iinc 2 1, 3) := by decide +kernel
theorem dX4_weighTrial_77 : decode cX4_weighTrial 77 = .ok (.goto (-32), 3) := by decide +kernel
theorem dX4_weighTrial_80 : decode cX4_weighTrial 80 = .ok (.iload_n 1, 1) := by decide +kernel
theorem dX4_weighTrial_81 : decode cX4_weighTrial 81 = .ok (.ireturn, 1) := by decide +kernel
theorem dX4_nextTrial_0 : decode cX4_nextTrial 0 = .ok (.aload_n 0, 1) := by decide +kernel
theorem dX4_nextTrial_1 : decode cX4_nextTrial 1 = .ok (.getfield 41, 3) := by decide +kernel
theorem dX4_nextTrial_4 : decode cX4_nextTrial 4 = .ok (.iconst 1, 1) := by decide +kernel
theorem dX4_nextTrial_5 : decode cX4_nextTrial 5 = .ok (.isub, 1) := by decide +kernel
theorem dX4_nextTrial_6 : decode cX4_nextTrial 6 = .ok (.istore_n 1, 1) := by decide +kernel
theorem dX4_nextTrial_7 : decode cX4_nextTrial 7 = .ok (.iload_n 1, 1) := by decide +kernel
theorem dX4_nextTrial_8 : decode cX4_nextTrial 8 = .ok (.ifCond .lt 31, 3) := by decide +kernel
theorem dX4_nextTrial_11 : decode cX4_nextTrial 11 = .ok (.aload_n 0, 1) := by decide +kernel
theorem dX4_nextTrial_12 : decode cX4_nextTrial 12 = .ok (.getfield 26, 3) := by decide +kernel
theorem dX4_nextTrial_15 : decode cX4_nextTrial 15 = .ok (.iload_n 1, 1) := by decide +kernel
theorem dX4_nextTrial_16 : decode cX4_nextTrial 16 = .ok (.iaload, 1) := by decide +kernel
theorem dX4_nextTrial_17 : decode cX4_nextTrial 17 = .ok (.aload_n 0, 1) := by decide +kernel
theorem dX4_nextTrial_18 : decode cX4_nextTrial 18 = .ok (.getfield 45, 3) := by decide +kernel
theorem dX4_nextTrial_21 : decode cX4_nextTrial 21 = .ok (.iconst 1, 1) := by decide +kernel
theorem dX4_nextTrial_22 : decode cX4_nextTrial 22 = .ok (.isub, 1) := by decide +kernel
theorem dX4_nextTrial_23 : decode cX4_nextTrial 23 = .ok (.if_icmp .lt 16, 3) := by decide +kernel
theorem dX4_nextTrial_26 : decode cX4_nextTrial 26 = .ok (.aload_n 0, 1) := by decide +kernel
theorem dX4_nextTrial_27 : decode cX4_nextTrial 27 = .ok (.getfield 26, 3) := by decide +kernel
theorem dX4_nextTrial_30 : decode cX4_nextTrial 30 = .ok (.iload_n 1, 1) := by decide +kernel
theorem dX4_nextTrial_31 : decode cX4_nextTrial 31 = .ok (.iconst 0, 1) := by decide +kernel
theorem dX4_nextTrial_32 : decode cX4_nextTrial 32 = .ok (.iastore, 1) := by decide +kernel
theorem dX4_nextTrial_33 : decode cX4_nextTrial 33 = .ok (.iinc 1 (-1), 3) := by decide +kernel
theorem dX4_nextTrial_36 : decode cX4_nextTrial 36 = .ok (.goto (-29), 3) := by decide +kernel
theorem dX4_nextTrial_39 : decode cX4_nextTrial 39 = .ok (.iload_n 1, 1) := by decide +kernel
theorem dX4_nextTrial_40 : decode cX4_nextTrial 40 = .ok (.ifCond .lt 13, 3) := by decide +kernel
theorem dX4_nextTrial_43 : decode cX4_nextTrial 43 = .ok (.aload_n 0, 1) := by decide +kernel
theorem dX4_nextTrial_44 : decode cX4_nextTrial 44 = .ok (.getfield 26, 3) := by decide +kernel
theorem dX4_nextTrial_47 : decode cX4_nextTrial 47 = .ok (.iload_n 1, 1) := by decide +kernel
theorem dX4_nextTrial_48 : decode cX4_nextTrial 48 = .ok (.dup2, 1) := by decide +kernel
theorem dX4_nextTrial_49 : decode cX4_nextTrial 49 = .ok (.iaload, 1) := by decide +kernel
theorem dX4_nextTrial_50 : decode cX4_nextTrial 50 = .ok (.iconst 1, 1) := by decide +kernel
theorem dX4_nextTrial_51 : decode cX4_nextTrial 51 = .ok (.iadd, 1) := by decide +kernel
theorem dX4_nextTrial_52 : decode cX4_nextTrial 52 = .ok (.iastore, 1) := by decide +kernel
theorem dX4_nextTrial_53 : decode cX4_nextTrial 53 = .ok (.return_, 1) := by decide +kernel
theorem dX4_layOrder_0 : decode cX4_layOrder 0 = .ok (.iconst 0, 1) := by decide +kernel
theorem dX4_layOrder_1 : decode cX4_layOrder 1 = .ok (.istore_n 2, 1) := by decide +kernel
theorem dX4_layOrder_2 : decode cX4_layOrder 2 = .ok (.iconst 0, 1) := by decide +kernel
theorem dX4_layOrder_3 : decode cX4_layOrder 3 = .ok (.istore_n 3, 1) := by decide +kernel
theorem dX4_layOrder_4 : decode cX4_layOrder 4 = .ok (.iload_n 3, 1) := by decide +kernel
theorem dX4_layOrder_5 : decode cX4_layOrder 5 = .ok (.aload_n 0, 1) := by decide +kernel
theorem dX4_layOrder_6 : decode cX4_layOrder 6 = .ok (.getfield 41, 3) := by decide +kernel
theorem dX4_layOrder_9 : decode cX4_layOrder 9 = .ok (.if_icmp .ge 25, 3) := by decide +kernel
theorem dX4_layOrder_12 : decode cX4_layOrder 12 = .ok (.aload_n 0, 1) := by decide +kernel
theorem dX4_layOrder_13 : decode cX4_layOrder 13 = .ok (.getfield 32, 3) := by decide +kernel
theorem dX4_layOrder_16 : decode cX4_layOrder 16 = .ok (.iload_n 3, 1) := by decide +kernel
theorem dX4_layOrder_17 : decode cX4_layOrder 17 = .ok (.iaload, 1) := by decide +kernel
theorem dX4_layOrder_18 : decode cX4_layOrder 18 = .ok (.iload_n 1, 1) := by decide +kernel
theorem dX4_layOrder_19 : decode cX4_layOrder 19 = .ok (.if_icmp .ne 9, 3) := by decide +kernel
theorem dX4_layOrder_22 : decode cX4_layOrder 22 = .ok (.iload_n 2, 1) := by decide +kernel
theorem dX4_layOrder_23 : decode cX4_layOrder 23 = .ok (.iconst 1, 1) := by decide +kernel
theorem dX4_layOrder_24 : decode cX4_layOrder 24 = .ok (.iload_n 3, 1) := by decide +kernel
theorem dX4_layOrder_25 : decode cX4_layOrder 25 = .ok (.ishl, 1) := by decide +kernel
theorem dX4_layOrder_26 : decode cX4_layOrder 26 = .ok (.ior, 1) := by decide +kernel
theorem dX4_layOrder_27 : decode cX4_layOrder 27 = .ok (.istore_n 2, 1) := by decide +kernel
theorem dX4_layOrder_28 : decode cX4_layOrder 28 = .ok (.iinc 3 1, 3) := by decide +kernel
theorem dX4_layOrder_31 : decode cX4_layOrder 31 = .ok (.goto (-27), 3) := by decide +kernel
theorem dX4_layOrder_34 : decode cX4_layOrder 34 = .ok (.aload_n 0, 1) := by decide +kernel
theorem dX4_layOrder_35 : decode cX4_layOrder 35 = .ok (.getfield 18, 3) := by decide +kernel
theorem dX4_layOrder_38 : decode cX4_layOrder 38 = .ok (.iload_n 1, 1) := by decide +kernel
theorem dX4_layOrder_39 : decode cX4_layOrder 39 = .ok (.iaload, 1) := by decide +kernel
theorem dX4_layOrder_40 : decode cX4_layOrder 40 = .ok (.istore_n 3, 1) := by decide +kernel
theorem dX4_layOrder_41 : decode cX4_layOrder 41 = .ok (.iconst 0, 1) := by decide +kernel
theorem dX4_layOrder_42 : decode cX4_layOrder 42 = .ok (.istore 4, 2) := by decide +kernel
theorem dX4_layOrder_44 : decode cX4_layOrder 44 = .ok (.iconst 0, 1) := by decide +kernel
theorem dX4_layOrder_45 : decode cX4_layOrder 45 = .ok (.istore 5, 2) := by decide +kernel
theorem dX4_layOrder_47 : decode cX4_layOrder 47 = .ok (.iload 5, 2) := by decide +kernel
theorem dX4_layOrder_49 : decode cX4_layOrder 49 = .ok (.aload_n 0, 1) := by decide +kernel
theorem dX4_layOrder_50 : decode cX4_layOrder 50 = .ok (.getfield 41, 3) := by decide +kernel
theorem dX4_layOrder_53 : decode cX4_layOrder 53 = .ok (.if_icmp .ge 68, 3) := by decide +kernel
theorem dX4_layOrder_56 : decode cX4_layOrder 56 = .ok (.iload_n 2, 1) := by decide +kernel
theorem dX4_layOrder_57 : decode cX4_layOrder 57 = .ok (.ifCond .eq 64, 3) := by decide +kernel
theorem dX4_layOrder_60 : decode cX4_layOrder 60 = .ok (.aload_n 0, 1) := by decide +kernel
theorem dX4_layOrder_61 : decode cX4_layOrder 61 = .ok (.iload_n 2, 1) := by decide +kernel
theorem dX4_layOrder_62 : decode cX4_layOrder 62 = .ok (.iload_n 3, 1) := by decide +kernel
theorem dX4_layOrder_63 : decode cX4_layOrder 63 = .ok (.invokevirtual 124, 3) := by decide +kernel
theorem dX4_layOrder_66 : decode cX4_layOrder 66 = .ok (.istore 6, 2) := by decide +kernel
theorem dX4_layOrder_68 : decode cX4_layOrder 68 = .ok (.iload 4, 2) := by decide +kernel
theorem dX4_layOrder_70 : decode cX4_layOrder 70 = .ok (.aload_n 0, 1) := by decide +kernel
theorem dX4_layOrder_71 : decode cX4_layOrder 71 = .ok (.iload_n 3, 1) := by decide +kernel
theorem dX4_layOrder_72 : decode cX4_layOrder 72 = .ok (.iload 6, 2) := by decide +kernel
theorem dX4_layOrder_74 : decode cX4_layOrder 74 = .ok (.invokevirtual 94, 3) := by decide +kernel
theorem dX4_layOrder_77 : decode cX4_layOrder 77 = .ok (.iadd, 1) := by decide +kernel
theorem dX4_layOrder_78 : decode cX4_layOrder 78 = .ok (.istore 4, 2) := by decide +kernel
theorem dX4_layOrder_80 : decode cX4_layOrder 80 = .ok (.aload_n 0, 1) := by decide +kernel
theorem dX4_layOrder_81 : decode cX4_layOrder 81 = .ok (.getfield 35, 3) := by decide +kernel
theorem dX4_layOrder_84 : decode cX4_layOrder 84 = .ok (.iload 6, 2) := by decide +kernel
theorem dX4_layOrder_86 : decode cX4_layOrder 86 = .ok (.iload 5, 2) := by decide +kernel
theorem dX4_layOrder_88 : decode cX4_layOrder 88 = .ok (.iastore, 1) := by decide +kernel
theorem dX4_layOrder_89 : decode cX4_layOrder 89 = .ok (.aload_n 0, 1) := by decide +kernel
theorem dX4_layOrder_90 : decode cX4_layOrder 90 = .ok (.getfield 38, 3) := by decide +kernel
theorem dX4_layOrder_93 : decode cX4_layOrder 93 = .ok (.iload 6, 2) := by decide +kernel
theorem dX4_layOrder_95 : decode cX4_layOrder 95 = .ok (.iload 4, 2) := by decide +kernel
theorem dX4_layOrder_97 : decode cX4_layOrder 97 = .ok (.iastore, 1) := by decide +kernel
theorem dX4_layOrder_98 : decode cX4_layOrder 98 = .ok (.aload_n 0, 1) := by decide +kernel
theorem dX4_layOrder_99 : decode cX4_layOrder 99 = .ok (.getfield 11, 3) := by decide +kernel
theorem dX4_layOrder_102 : decode cX4_layOrder 102 = .ok (.iload 6, 2) := by decide +kernel
theorem dX4_layOrder_104 : decode cX4_layOrder 104 = .ok (.iaload, 1) := by decide +kernel
theorem dX4_layOrder_105 : decode cX4_layOrder 105 = .ok (.istore_n 3, 1) := by decide +kernel
theorem dX4_layOrder_106 : decode cX4_layOrder 106 = .ok (.iload_n 2, 1) := by decide +kernel
theorem dX4_layOrder_107 : decode cX4_layOrder 107 = .ok (.iconst 1, 1) := by decide +kernel
theorem dX4_layOrder_108 : decode cX4_layOrder 108 = .ok (.iload 6, 2) := by decide +kernel
theorem dX4_layOrder_110 : decode cX4_layOrder 110 = .ok (.ishl, 1) := by decide +kernel
theorem dX4_layOrder_111 : decode cX4_layOrder 111 = .ok (.iconst (-1), 1) := by decide +kernel
theorem dX4_layOrder_112 : decode cX4_layOrder 112 = .ok (.ixor, 1) := by decide +kernel
theorem dX4_layOrder_113 : decode cX4_layOrder 113 = .ok (.iand, 1) := by decide +kernel
theorem dX4_layOrder_114 : decode cX4_layOrder 114 = .ok (.istore_n 2, 1) := by decide +kernel
theorem dX4_layOrder_115 : decode cX4_layOrder 115 = .ok (.iinc 5 1, 3) := by decide +kernel
theorem dX4_layOrder_118 : decode cX4_layOrder 118 = .ok (.goto (-71), 3) := by decide +kernel
theorem dX4_layOrder_121 : decode cX4_layOrder 121 = .ok (.return_, 1) := by decide +kernel
theorem dX4_firstOfBest_0 : decode cX4_firstOfBest 0 = .ok (.aload_n 0, 1) := by decide +kernel
theorem dX4_firstOfBest_1 : decode cX4_firstOfBest 1 = .ok (.iload_n 1, 1) := by decide +kernel
theorem dX4_firstOfBest_2 : decode cX4_firstOfBest 2 = .ok (.iload_n 2, 1) := by decide +kernel
theorem dX4_firstOfBest_3 : decode cX4_firstOfBest 3 = .ok (.invokevirtual 97, 3) := by decide +kernel
theorem dX4_firstOfBest_6 : decode cX4_firstOfBest 6 = .ok (.istore_n 3, 1) := by decide +kernel
theorem dX4_firstOfBest_7 : decode cX4_firstOfBest 7 = .ok (.iconst 0, 1) := by decide +kernel
theorem dX4_firstOfBest_8 : decode cX4_firstOfBest 8 = .ok (.istore 4, 2) := by decide +kernel
theorem dX4_firstOfBest_10 : decode cX4_firstOfBest 10 = .ok (.iload 4, 2) := by decide +kernel
theorem dX4_firstOfBest_12 : decode cX4_firstOfBest 12 = .ok (.aload_n 0, 1) := by decide +kernel
theorem dX4_firstOfBest_13 : decode cX4_firstOfBest 13 = .ok (.getfield 41, 3) := by decide +kernel
theorem dX4_firstOfBest_16 : decode cX4_firstOfBest 16 = .ok (.if_icmp .ge 33, 3) := by decide +kernel
theorem dX4_firstOfBest_19 : decode cX4_firstOfBest 19 = .ok (.iload_n 1, 1) := by decide +kernel
theorem dX4_firstOfBest_20 : decode cX4_firstOfBest 20 = .ok (.iload 4, 2) := by decide +kernel
theorem dX4_firstOfBest_22 : decode cX4_firstOfBest 22 = .ok (.invokestatic 81, 3) := by decide +kernel
theorem dX4_firstOfBest_25 : decode cX4_firstOfBest 25 = .ok (.ifCond .eq 18, 3) := by decide +kernel
theorem dX4_firstOfBest_28 : decode cX4_firstOfBest 28 = .ok (.aload_n 0, 1) := by decide +kernel
theorem dX4_firstOfBest_29 : decode cX4_firstOfBest 29 = .ok (.iload_n 1, 1) := by decide +kernel
theorem dX4_firstOfBest_30 : decode cX4_firstOfBest 30 = .ok (.iload_n 2, 1) := by decide +kernel
theorem dX4_firstOfBest_31 : decode cX4_firstOfBest 31 = .ok (.iload 4, 2) := by decide +kernel
theorem dX4_firstOfBest_33 : decode cX4_firstOfBest 33 = .ok (.invokevirtual 85, 3) := by decide +kernel
theorem dX4_firstOfBest_36 : decode cX4_firstOfBest 36 = .ok (.iload_n 3, 1) := by decide +kernel
theorem dX4_firstOfBest_37 : decode cX4_firstOfBest 37 = .ok (.if_icmp .ne 6, 3) := by decide +kernel
theorem dX4_firstOfBest_40 : decode cX4_firstOfBest 40 = .ok (.iload 4, 2) := by decide +kernel
theorem dX4_firstOfBest_42 : decode cX4_firstOfBest 42 = .ok (.ireturn, 1) := by decide +kernel
theorem dX4_firstOfBest_43 : decode cX4_firstOfBest 43 = .ok (.iinc 4 1, 3) := by decide +kernel
theorem dX4_firstOfBest_46 : decode cX4_firstOfBest 46 = .ok (.goto (-36), 3) := by decide +kernel
theorem dX4_firstOfBest_49 : decode cX4_firstOfBest 49 = .ok (.iconst 0, 1) := by decide +kernel
theorem dX4_firstOfBest_50 : decode cX4_firstOfBest 50 = .ok (.ireturn, 1) := by decide +kernel
theorem dX5_init_0 : decode cX5_init 0 = .ok (.aload_n 0, 1) := by decide +kernel
theorem dX5_init_1 : decode cX5_init 1 = .ok (.invokespecial 7, 3) := by decide +kernel
theorem dX5_init_4 : decode cX5_init 4 = .ok (.aload_n 0, 1) := by decide +kernel
theorem dX5_init_5 : decode cX5_init 5 = .ok (.sipush 19520, 3) := by decide +kernel
theorem dX5_init_8 : decode cX5_init 8 = .ok (.newarray .int, 2) := by decide +kernel
theorem dX5_init_10 : decode cX5_init 10 = .ok (.putfield 13, 3) := by decide +kernel
theorem dX5_init_13 : decode cX5_init 13 = .ok (.aload_n 0, 1) := by decide +kernel
theorem dX5_init_14 : decode cX5_init 14 = .ok (.iconst 0, 1) := by decide +kernel
theorem dX5_init_15 : decode cX5_init 15 = .ok (.putfield 17, 3) := by decide +kernel
theorem dX5_init_18 : decode cX5_init 18 = .ok (.aload_n 0, 1) := by decide +kernel
theorem dX5_init_19 : decode cX5_init 19 = .ok (.iconst 0, 1) := by decide +kernel
theorem dX5_init_20 : decode cX5_init 20 = .ok (.putfield 21, 3) := by decide +kernel
theorem dX5_init_23 : decode cX5_init 23 = .ok (.aload_n 0, 1) := by decide +kernel
theorem dX5_init_24 : decode cX5_init 24 = .ok (.iconst 0, 1) := by decide +kernel
theorem dX5_init_25 : decode cX5_init 25 = .ok (.putfield 24, 3) := by decide +kernel
theorem dX5_init_28 : decode cX5_init 28 = .ok (.aload_n 0, 1) := by decide +kernel
theorem dX5_init_29 : decode cX5_init 29 = .ok (.iconst 0, 1) := by decide +kernel
theorem dX5_init_30 : decode cX5_init 30 = .ok (.putfield 28, 3) := by decide +kernel
theorem dX5_init_33 : decode cX5_init 33 = .ok (.aload_n 0, 1) := by decide +kernel
theorem dX5_init_34 : decode cX5_init 34 = .ok (.iconst 0, 1) := by decide +kernel
theorem dX5_init_35 : decode cX5_init 35 = .ok (.putfield 31, 3) := by decide +kernel
theorem dX5_init_38 : decode cX5_init 38 = .ok (.aload_n 0, 1) := by decide +kernel
theorem dX5_init_39 : decode cX5_init 39 = .ok (.iconst 0, 1) := by decide +kernel
theorem dX5_init_40 : decode cX5_init 40 = .ok (.putfield 34, 3) := by decide +kernel
theorem dX5_init_43 : decode cX5_init 43 = .ok (.aload_n 0, 1) := by decide +kernel
theorem dX5_init_44 : decode cX5_init 44 = .ok (.iconst 0, 1) := by decide +kernel
theorem dX5_init_45 : decode cX5_init 45 = .ok (.putfield 37, 3) := by decide +kernel
theorem dX5_init_48 : decode cX5_init 48 = .ok (.aload_n 0, 1) := by decide +kernel
theorem dX5_init_49 : decode cX5_init 49 = .ok (.iconst (-1), 1) := by decide +kernel
theorem dX5_init_50 : decode cX5_init 50 = .ok (.putfield 40, 3) := by decide +kernel
theorem dX5_init_53 : decode cX5_init 53 = .ok (.aload_n 0, 1) := by decide +kernel
theorem dX5_init_54 : decode cX5_init 54 = .ok (.iconst (-1), 1) := by decide +kernel
theorem dX5_init_55 : decode cX5_init 55 = .ok (.putfield 43, 3) := by decide +kernel
theorem dX5_init_58 : decode cX5_init 58 = .ok (.aload_n 0, 1) := by decide +kernel
theorem dX5_init_59 : decode cX5_init 59 = .ok (.aload_n 1, 1) := by decide +kernel
theorem dX5_init_60 : decode cX5_init 60 = .ok (.putfield 46, 3) := by decide +kernel
theorem dX5_init_63 : decode cX5_init 63 = .ok (.aload_n 0, 1) := by decide +kernel
theorem dX5_init_64 : decode cX5_init 64 = .ok (.aload_n 2, 1) := by decide +kernel
theorem dX5_init_65 : decode cX5_init 65 = .ok (.putfield 50, 3) := by decide +kernel
theorem dX5_init_68 : decode cX5_init 68 = .ok (.aload_n 0, 1) := by decide +kernel
theorem dX5_init_69 : decode cX5_init 69 = .ok (.new 54, 3) := by decide +kernel
theorem dX5_init_72 : decode cX5_init 72 = .ok (.dup, 1) := by decide +kernel
theorem dX5_init_73 : decode cX5_init 73 = .ok (.aload_n 1, 1) := by decide +kernel
theorem dX5_init_74 : decode cX5_init 74 = .ok (.aload_n 2, 1) := by decide +kernel
theorem dX5_init_75 : decode cX5_init 75 = .ok (.invokespecial 56, 3) := by decide +kernel
theorem dX5_init_78 : decode cX5_init 78 = .ok (.putfield 59, 3) := by decide +kernel
theorem dX5_init_81 : decode cX5_init 81 = .ok (.aload_n 0, 1) := by decide +kernel
theorem dX5_init_82 : decode cX5_init 82 = .ok (.new 54, 3) := by decide +kernel
theorem dX5_init_85 : decode cX5_init 85 = .ok (.dup, 1) := by decide +kernel
theorem dX5_init_86 : decode cX5_init 86 = .ok (.aload_n 1, 1) := by decide +kernel
theorem dX5_init_87 : decode cX5_init 87 = .ok (.aload_n 2, 1) := by decide +kernel
theorem dX5_init_88 : decode cX5_init 88 = .ok (.invokespecial 56, 3) := by decide +kernel
theorem dX5_init_91 : decode cX5_init 91 = .ok (.putfield 63, 3) := by decide +kernel
theorem dX5_init_94 : decode cX5_init 94 = .ok (.return_, 1) := by decide +kernel
theorem dX5_minutes_0 : decode cX5_minutes 0 = .ok (.aload_n 0, 1) := by decide +kernel
theorem dX5_minutes_1 : decode cX5_minutes 1 = .ok (.getfield 40, 3) := by decide +kernel
theorem dX5_minutes_4 : decode cX5_minutes 4 = .ok (.ireturn, 1) := by decide +kernel
theorem dX5_streetCount_0 : decode cX5_streetCount 0 = .ok (.aload_n 0, 1) := by decide +kernel
theorem dX5_streetCount_1 : decode cX5_streetCount 1 = .ok (.getfield 43, 3) := by decide +kernel
theorem dX5_streetCount_4 : decode cX5_streetCount 4 = .ok (.ireturn, 1) := by decide +kernel
theorem dX5_forget_0 : decode cX5_forget 0 = .ok (.aload_n 0, 1) := by decide +kernel
theorem dX5_forget_1 : decode cX5_forget 1 = .ok (.iconst 0, 1) := by decide +kernel
theorem dX5_forget_2 : decode cX5_forget 2 = .ok (.putfield 24, 3) := by decide +kernel
theorem dX5_forget_5 : decode cX5_forget 5 = .ok (.return_, 1) := by decide +kernel
theorem dX5_seek_0 : decode cX5_seek 0 = .ok (.aload_n 0, 1) := by decide +kernel
theorem dX5_seek_1 : decode cX5_seek 1 = .ok (.iload_n 1, 1) := by decide +kernel
theorem dX5_seek_2 : decode cX5_seek 2 = .ok (.iload_n 2, 1) := by decide +kernel
theorem dX5_seek_3 : decode cX5_seek 3 = .ok (.iload_n 3, 1) := by decide +kernel
theorem dX5_seek_4 : decode cX5_seek 4 = .ok (.iload 4, 2) := by decide +kernel
theorem dX5_seek_6 : decode cX5_seek 6 = .ok (.invokevirtual 66, 3) := by decide +kernel
theorem dX5_seek_9 : decode cX5_seek 9 = .ok (.ifCond .eq 4, 3) := by decide +kernel
theorem dX5_seek_12 : decode cX5_seek 12 = .ok (.return_, 1) := by decide +kernel
theorem dX5_seek_13 : decode cX5_seek 13 = .ok (.aload_n 0, 1) := by decide +kernel
theorem dX5_seek_14 : decode cX5_seek 14 = .ok (.iconst 1, 1) := by decide +kernel
theorem dX5_seek_15 : decode cX5_seek 15 = .ok (.putfield 24, 3) := by decide +kernel
theorem dX5_seek_18 : decode cX5_seek 18 = .ok (.aload_n 0, 1) := by decide +kernel
theorem dX5_seek_19 : decode cX5_seek 19 = .ok (.iload_n 1, 1) := by decide +kernel
theorem dX5_seek_20 : decode cX5_seek 20 = .ok (.putfield 28, 3) := by decide +kernel
theorem dX5_seek_23 : decode cX5_seek 23 = .ok (.aload_n 0, 1) := by decide +kernel
theorem dX5_seek_24 : decode cX5_seek 24 = .ok (.iload_n 2, 1) := by decide +kernel
theorem dX5_seek_25 : decode cX5_seek 25 = .ok (.putfield 31, 3) := by decide +kernel
theorem dX5_seek_28 : decode cX5_seek 28 = .ok (.aload_n 0, 1) := by decide +kernel
theorem dX5_seek_29 : decode cX5_seek 29 = .ok (.iload_n 3, 1) := by decide +kernel
theorem dX5_seek_30 : decode cX5_seek 30 = .ok (.putfield 34, 3) := by decide +kernel
theorem dX5_seek_33 : decode cX5_seek 33 = .ok (.aload_n 0, 1) := by decide +kernel
theorem dX5_seek_34 : decode cX5_seek 34 = .ok (.iload 4, 2) := by decide +kernel
theorem dX5_seek_36 : decode cX5_seek 36 = .ok (.putfield 37, 3) := by decide +kernel
theorem dX5_seek_39 : decode cX5_seek 39 = .ok (.aload_n 0, 1) := by decide +kernel
theorem dX5_seek_40 : decode cX5_seek 40 = .ok (.iconst (-1), 1) := by decide +kernel
theorem dX5_seek_41 : decode cX5_seek 41 = .ok (.putfield 40, 3) := by decide +kernel
theorem dX5_seek_44 : decode cX5_seek 44 = .ok (.aload_n 0, 1) := by decide +kernel
theorem dX5_seek_45 : decode cX5_seek 45 = .ok (.iconst (-1), 1) := by decide +kernel
theorem dX5_seek_46 : decode cX5_seek 46 = .ok (.putfield 43, 3) := by decide +kernel
theorem dX5_seek_49 : decode cX5_seek 49 = .ok (.iload_n 2, 1) := by decide +kernel
theorem dX5_seek_50 : decode cX5_seek 50 = .ok (.iload_n 3, 1) := by decide +kernel
theorem dX5_seek_51 : decode cX5_seek 51 = .ok (.if_icmp .ne 16, 3) := by decide +kernel
theorem dX5_seek_54 : decode cX5_seek 54 = .ok (.aload_n 0, 1) := by decide +kernel
theorem dX5_seek_55 : decode cX5_seek 55 = .ok (.iconst 0, 1) := by decide +kernel
theorem dX5_seek_56 : decode cX5_seek 56 = .ok (.putfield 40, 3) := by decide +kernel
theorem dX5_seek_59 : decode cX5_seek 59 = .ok (.aload_n 0, 1) := by decide +kernel
theorem dX5_seek_60 : decode cX5_seek 60 = .ok (.iconst 0, 1) := by decide +kernel
theorem dX5_seek_61 : decode cX5_seek 61 = .ok (.putfield 43, 3) := by decide +kernel
theorem dX5_seek_64 : decode cX5_seek 64 = .ok (.goto 21, 3) := by decide +kernel
theorem dX5_seek_67 : decode cX5_seek 67 = .ok (.aload_n 0, 1) := by decide +kernel
theorem dX5_seek_68 : decode cX5_seek 68 = .ok (.getfield 46, 3) := by decide +kernel
theorem dX5_seek_71 : decode cX5_seek 71 = .ok (.iload_n 2, 1) := by decide +kernel
theorem dX5_seek_72 : decode cX5_seek 72 = .ok (.iload_n 3, 1) := by decide +kernel
theorem dX5_seek_73 : decode cX5_seek 73 = .ok (.invokevirtual 70, 3) := by decide +kernel
theorem dX5_seek_76 : decode cX5_seek 76 = .ok (.ldc 74, 2) := by decide +kernel
theorem dX5_seek_78 : decode cX5_seek 78 = .ok (.if_icmp .ge 7, 3) := by decide +kernel
theorem dX5_seek_81 : decode cX5_seek 81 = .ok (.aload_n 0, 1) := by decide +kernel
theorem dX5_seek_82 : decode cX5_seek 82 = .ok (.invokevirtual 75, 3) := by decide +kernel
theorem dX5_seek_85 : decode cX5_seek 85 = .ok (.return_, 1) := by decide +kernel
theorem dX5_isKnown_0 : decode cX5_isKnown 0 = .ok (.aload_n 0, 1) := by decide +kernel
theorem dX5_isKnown_1 : decode cX5_isKnown 1 = .ok (.getfield 24, 3) := by decide +kernel
theorem dX5_isKnown_4 : decode cX5_isKnown 4 = .ok (.ifCond .eq 40, 3) := by decide +kernel
theorem dX5_isKnown_7 : decode cX5_isKnown 7 = .ok (.iload_n 1, 1) := by decide +kernel
theorem dX5_isKnown_8 : decode cX5_isKnown 8 = .ok (.aload_n 0, 1) := by decide +kernel
theorem dX5_isKnown_9 : decode cX5_isKnown 9 = .ok (.getfield 28, 3) := by decide +kernel
theorem dX5_isKnown_12 : decode cX5_isKnown 12 = .ok (.if_icmp .ne 32, 3) := by decide +kernel
theorem dX5_isKnown_15 : decode cX5_isKnown 15 = .ok (.iload_n 2, 1) := by decide +kernel
theorem dX5_isKnown_16 : decode cX5_isKnown 16 = .ok (.aload_n 0, 1) := by decide +kernel
theorem dX5_isKnown_17 : decode cX5_isKnown 17 = .ok (.getfield 31, 3) := by decide +kernel
theorem dX5_isKnown_20 : decode cX5_isKnown 20 = .ok (.if_icmp .ne 24, 3) := by decide +kernel
theorem dX5_isKnown_23 : decode cX5_isKnown 23 = .ok (.iload_n 3, 1) := by decide +kernel
theorem dX5_isKnown_24 : decode cX5_isKnown 24 = .ok (.aload_n 0, 1) := by decide +kernel
theorem dX5_isKnown_25 : decode cX5_isKnown 25 = .ok (.getfield 34, 3) := by decide +kernel
theorem dX5_isKnown_28 : decode cX5_isKnown 28 = .ok (.if_icmp .ne 16, 3) := by decide +kernel
theorem dX5_isKnown_31 : decode cX5_isKnown 31 = .ok (.iload 4, 2) := by decide +kernel
theorem dX5_isKnown_33 : decode cX5_isKnown 33 = .ok (.aload_n 0, 1) := by decide +kernel
theorem dX5_isKnown_34 : decode cX5_isKnown 34 = .ok (.getfield 37, 3) := by decide +kernel
theorem dX5_isKnown_37 : decode cX5_isKnown 37 = .ok (.if_icmp .ne 7, 3) := by decide +kernel
theorem dX5_isKnown_40 : decode cX5_isKnown 40 = .ok (.iconst 1, 1) := by decide +kernel
theorem dX5_isKnown_41 : decode cX5_isKnown 41 = .ok (.goto 4, 3) := by decide +kernel
theorem dX5_isKnown_44 : decode cX5_isKnown 44 = .ok (.iconst 0, 1) := by decide +kernel
theorem dX5_isKnown_45 : decode cX5_isKnown 45 = .ok (.ireturn, 1) := by decide +kernel
theorem dX5_search_0 : decode cX5_search 0 = .ok (.aload_n 0, 1) := by decide +kernel
theorem dX5_search_1 : decode cX5_search 1 = .ok (.invokevirtual 78, 3) := by decide +kernel
theorem dX5_search_4 : decode cX5_search 4 = .ok (.aload_n 0, 1) := by decide +kernel
theorem dX5_search_5 : decode cX5_search 5 = .ok (.getfield 46, 3) := by decide +kernel
theorem dX5_search_8 : decode cX5_search 8 = .ok (.invokevirtual 81, 3) := by decide +kernel
theorem dX5_search_11 : decode cX5_search 11 = .ok (.aload_n 0, 1) := by decide +kernel
theorem dX5_search_12 : decode cX5_search 12 = .ok (.getfield 50, 3) := by decide +kernel
theorem dX5_search_15 : decode cX5_search 15 = .ok (.invokevirtual 85, 3) := by decide +kernel
theorem dX5_search_18 : decode cX5_search 18 = .ok (.invokestatic 90, 3) := by decide +kernel
theorem dX5_search_21 : decode cX5_search 21 = .ok (.istore_n 1, 1) := by decide +kernel
theorem dX5_search_22 : decode cX5_search 22 = .ok (.iconst 1, 1) := by decide +kernel
theorem dX5_search_23 : decode cX5_search 23 = .ok (.istore_n 2, 1) := by decide +kernel
theorem dX5_search_24 : decode cX5_search 24 = .ok (.iload_n 2, 1) := by decide +kernel
theorem dX5_search_25 : decode cX5_search 25 = .ok (.sipush 3000, 3) := by decide +kernel
theorem dX5_search_28 : decode cX5_search 28 = .ok (.if_icmp .gt 44, 3) := by decide +kernel
theorem dX5_search_31 : decode cX5_search 31 = .ok (.aload_n 0, 1) := by decide +kernel
theorem dX5_search_32 : decode cX5_search 32 = .ok (.getfield 17, 3) := by decide +kernel
theorem dX5_search_35 : decode cX5_search 35 = .ok (.ifCond .le 37, 3) := by decide +kernel
theorem dX5_search_38 : decode cX5_search 38 = .ok (.aload_n 0, 1) := by decide +kernel
theorem dX5_search_39 : decode cX5_search 39 = .ok (.getfield 40, 3) := by decide +kernel
theorem dX5_search_42 : decode cX5_search 42 = .ok (.iconst (-1), 1) := by decide +kernel
theorem dX5_search_43 : decode cX5_search 43 = .ok (.if_icmp .ne 29, 3) := by decide +kernel
theorem dX5_search_46 : decode cX5_search 46 = .ok (.aload_n 0, 1) := by decide +kernel
theorem dX5_search_47 : decode cX5_search 47 = .ok (.iload_n 2, 1) := by decide +kernel
theorem dX5_search_48 : decode cX5_search 48 = .ok (.aload_n 0, 1) := by decide +kernel
theorem dX5_search_49 : decode cX5_search 49 = .ok (.getfield 37, 3) := by decide +kernel
theorem dX5_search_52 : decode cX5_search 52 = .ok (.iload_n 2, 1) := by decide +kernel
theorem dX5_search_53 : decode cX5_search 53 = .ok (.iadd, 1) := by decide +kernel
theorem dX5_search_54 : decode cX5_search 54 = .ok (.iload_n 1, 1) := by decide +kernel
theorem dX5_search_55 : decode cX5_search 55 = .ok (.if_icmp .lt 7, 3) := by decide +kernel
theorem dX5_search_58 : decode cX5_search 58 = .ok (.iconst 1, 1) := by decide +kernel
theorem dX5_search_59 : decode cX5_search 59 = .ok (.goto 4, 3) := by decide +kernel
theorem dX5_search_62 : decode cX5_search 62 = .ok (.iconst 0, 1) := by decide +kernel
theorem dX5_search_63 : decode cX5_search 63 = .ok (.invokevirtual 95, 3) := by decide +kernel
theorem dX5_search_66 : decode cX5_search 66 = .ok (.iinc 2 1, 3) := by decide +kernel
theorem dX5_search_69 : decode cX5_search 69 = .ok (.goto (-45), 3) := by decide +kernel
theorem dX5_search_72 : decode cX5_search 72 = .ok (.return_, 1) := by decide +kernel
theorem dX5_setOut_0 : decode cX5_setOut 0 = .ok (.aload_n 0, 1) := by decide +kernel
theorem dX5_setOut_1 : decode cX5_setOut 1 = .ok (.getfield 13, 3) := by decide +kernel
theorem dX5_setOut_4 : decode cX5_setOut 4 = .ok (.iconst 0, 1) := by decide +kernel
theorem dX5_setOut_5 : decode cX5_setOut 5 = .ok (.invokestatic 99, 3) := by decide +kernel
theorem dX5_setOut_8 : decode cX5_setOut 8 = .ok (.aload_n 0, 1) := by decide +kernel
theorem dX5_setOut_9 : decode cX5_setOut 9 = .ok (.iconst 0, 1) := by decide +kernel
theorem dX5_setOut_10 : decode cX5_setOut 10 = .ok (.putfield 17, 3) := by decide +kernel
theorem dX5_setOut_13 : decode cX5_setOut 13 = .ok (.aload_n 0, 1) := by decide +kernel
theorem dX5_setOut_14 : decode cX5_setOut 14 = .ok (.iconst 0, 1) := by decide +kernel
theorem dX5_setOut_15 : decode cX5_setOut 15 = .ok (.putfield 21, 3) := by decide +kernel
theorem dX5_setOut_18 : decode cX5_setOut 18 = .ok (.aload_n 0, 1) := by decide +kernel
theorem dX5_setOut_19 : decode cX5_setOut 19 = .ok (.getfield 59, 3) := by decide +kernel
theorem dX5_setOut_22 : decode cX5_setOut 22 = .ok (.invokevirtual 105, 3) := by decide +kernel
theorem dX5_setOut_25 : decode cX5_setOut 25 = .ok (.aload_n 0, 1) := by decide +kernel
theorem dX5_setOut_26 : decode cX5_setOut 26 = .ok (.getfield 63, 3) := by decide +kernel
theorem dX5_setOut_29 : decode cX5_setOut 29 = .ok (.invokevirtual 105, 3) := by decide +kernel
theorem dX5_setOut_32 : decode cX5_setOut 32 = .ok (.aload_n 0, 1) := by decide +kernel
theorem dX5_setOut_33 : decode cX5_setOut 33 = .ok (.getfield 59, 3) := by decide +kernel
theorem dX5_setOut_36 : decode cX5_setOut 36 = .ok (.aload_n 0, 1) := by decide +kernel
theorem dX5_setOut_37 : decode cX5_setOut 37 = .ok (.getfield 28, 3) := by decide +kernel
theorem dX5_setOut_40 : decode cX5_setOut 40 = .ok (.aload_n 0, 1) := by decide +kernel
theorem dX5_setOut_41 : decode cX5_setOut 41 = .ok (.getfield 37, 3) := by decide +kernel
theorem dX5_setOut_44 : decode cX5_setOut 44 = .ok (.invokevirtual 108, 3) := by decide +kernel
theorem dX5_setOut_47 : decode cX5_setOut 47 = .ok (.iconst 0, 1) := by decide +kernel
theorem dX5_setOut_48 : decode cX5_setOut 48 = .ok (.istore_n 1, 1) := by decide +kernel
theorem dX5_setOut_49 : decode cX5_setOut 49 = .ok (.iload_n 1, 1) := by decide +kernel
theorem dX5_setOut_50 : decode cX5_setOut 50 = .ok (.aload_n 0, 1) := by decide +kernel
theorem dX5_setOut_51 : decode cX5_setOut 51 = .ok (.getfield 46, 3) := by decide +kernel
theorem dX5_setOut_54 : decode cX5_setOut 54 = .ok (.aload_n 0, 1) := by decide +kernel
theorem dX5_setOut_55 : decode cX5_setOut 55 = .ok (.getfield 31, 3) := by decide +kernel
theorem dX5_setOut_58 : decode cX5_setOut 58 = .ok (.invokevirtual 112, 3) := by decide +kernel
theorem dX5_setOut_61 : decode cX5_setOut 61 = .ok (.if_icmp .ge 37, 3) := by decide +kernel
theorem dX5_setOut_64 : decode cX5_setOut 64 = .ok (.aload_n 0, 1) := by decide +kernel
theorem dX5_setOut_65 : decode cX5_setOut 65 = .ok (.getfield 46, 3) := by decide +kernel
theorem dX5_setOut_68 : decode cX5_setOut 68 = .ok (.aload_n 0, 1) := by decide +kernel
theorem dX5_setOut_69 : decode cX5_setOut 69 = .ok (.getfield 31, 3) := by decide +kernel
theorem dX5_setOut_72 : decode cX5_setOut 72 = .ok (.iload_n 1, 1) := by decide +kernel
theorem dX5_setOut_73 : decode cX5_setOut 73 = .ok (.invokevirtual 116, 3) := by decide +kernel
theorem dX5_setOut_76 : decode cX5_setOut 76 = .ok (.istore_n 2, 1) := by decide +kernel
theorem dX5_setOut_77 : decode cX5_setOut 77 = .ok (.aload_n 0, 1) := by decide +kernel
theorem dX5_setOut_78 : decode cX5_setOut 78 = .ok (.iload_n 2, 1) := by decide +kernel
theorem dX5_setOut_79 : decode cX5_setOut 79 = .ok (.iconst 0, 1) := by decide +kernel
theorem dX5_setOut_80 : decode cX5_setOut 80 = .ok (.aload_n 0, 1) := by decide +kernel
theorem dX5_setOut_81 : decode cX5_setOut 81 = .ok (.getfield 59, 3) := by decide +kernel
theorem dX5_setOut_84 : decode cX5_setOut 84 = .ok (.iload_n 2, 1) := by decide +kernel
theorem dX5_setOut_85 : decode cX5_setOut 85 = .ok (.invokevirtual 119, 3) := by decide +kernel
theorem dX5_setOut_88 : decode cX5_setOut 88 = .ok (.iconst 1, 1) := by decide +kernel
theorem dX5_setOut_89 : decode cX5_setOut 89 = .ok (.invokevirtual 122, 3) := by decide +kernel
theorem dX5_setOut_92 : decode cX5_setOut 92 = .ok (.iinc 1 1, 3) := by decide +kernel
theorem dX5_setOut_95 : decode cX5_setOut 95 = .ok (.goto (-46), 3) := by decide +kernel
theorem dX5_setOut_98 : decode cX5_setOut 98 = .ok (.return_, 1) := by decide +kernel
theorem dX5_enter_0 : decode cX5_enter 0 = .ok (.iload_n 2, 1) := by decide +kernel
theorem dX5_enter_1 : decode cX5_enter 1 = .ok (.iload_n 3, 1) := by decide +kernel
theorem dX5_enter_2 : decode cX5_enter 2 = .ok (.iadd, 1) := by decide +kernel
theorem dX5_enter_3 : decode cX5_enter 3 = .ok (.istore 5, 2) := by decide +kernel
theorem dX5_enter_5 : decode cX5_enter 5 = .ok (.iload_n 3, 1) := by decide +kernel
theorem dX5_enter_6 : decode cX5_enter 6 = .ok (.iconst 1, 1) := by decide +kernel
theorem dX5_enter_7 : decode cX5_enter 7 = .ok (.if_icmp .lt 11, 3) := by decide +kernel
theorem dX5_enter_10 : decode cX5_enter 10 = .ok (.iload 5, 2) := by decide +kernel
theorem dX5_enter_12 : decode cX5_enter 12 = .ok (.sipush 3000, 3) := by decide +kernel
theorem dX5_enter_15 : decode cX5_enter 15 = .ok (.if_icmp .le 4, 3) := by decide +kernel
theorem dX5_enter_18 : decode cX5_enter 18 = .ok (.return_, 1) := by decide +kernel
theorem dX5_enter_19 : decode cX5_enter 19 = .ok (.iload 5, 2) := by decide +kernel
theorem dX5_enter_21 : decode cX5_enter 21 = .ok (.sipush 610, 3) := by decide +kernel
theorem dX5_enter_24 : decode cX5_enter 24 = .ok (.irem, 1) := by decide +kernel
theorem dX5_enter_25 : decode cX5_enter 25 = .ok (.bipush 32, 2) := by decide +kernel
theorem dX5_enter_27 : decode cX5_enter 27 = .ok (.imul, 1) := by decide +kernel
theorem dX5_enter_28 : decode cX5_enter 28 = .ok (.iload_n 1, 1) := by decide +kernel
theorem dX5_enter_29 : decode cX5_enter 29 = .ok (.iadd, 1) := by decide +kernel
theorem dX5_enter_30 : decode cX5_enter 30 = .ok (.istore 6, 2) := by decide +kernel
theorem dX5_enter_32 : decode cX5_enter 32 = .ok (.aload_n 0, 1) := by decide +kernel
theorem dX5_enter_33 : decode cX5_enter 33 = .ok (.getfield 13, 3) := by decide +kernel
theorem dX5_enter_36 : decode cX5_enter 36 = .ok (.iload 6, 2) := by decide +kernel
theorem dX5_enter_38 : decode cX5_enter 38 = .ok (.iaload, 1) := by decide +kernel
theorem dX5_enter_39 : decode cX5_enter 39 = .ok (.ifCond .ne 25, 3) := by decide +kernel
theorem dX5_enter_42 : decode cX5_enter 42 = .ok (.aload_n 0, 1) := by decide +kernel
theorem dX5_enter_43 : decode cX5_enter 43 = .ok (.getfield 13, 3) := by decide +kernel
theorem dX5_enter_46 : decode cX5_enter 46 = .ok (.iload 6, 2) := by decide +kernel
theorem dX5_enter_48 : decode cX5_enter 48 = .ok (.iload 4, 2) := by decide +kernel
theorem dX5_enter_50 : decode cX5_enter 50 = .ok (.iastore, 1) := by decide +kernel
theorem dX5_enter_51 : decode cX5_enter 51 = .ok (.aload_n 0, 1) := by decide +kernel
theorem dX5_enter_52 : decode cX5_enter 52 = .ok (.dup, 1) := by decide +kernel
theorem dX5_enter_53 : decode cX5_enter 53 = .ok (.getfield 17, 3) := by decide +kernel
theorem dX5_enter_56 : decode cX5_enter 56 = .ok (.iconst 1, 1) := by decide +kernel
theorem dX5_enter_57 : decode cX5_enter 57 = .ok (.iadd, 1) := by decide +kernel
theorem dX5_enter_58 : decode cX5_enter 58 = .ok (.putfield 17, 3) := by decide +kernel
theorem dX5_enter_61 : decode cX5_enter 61 = .ok (.goto 22, 3) := by decide +kernel
theorem dX5_enter_64 : decode cX5_enter 64 = .ok (.aload_n 0, 1) := by decide +kernel
theorem dX5_enter_65 : decode cX5_enter 65 = .ok (.getfield 13, 3) := by decide +kernel
theorem dX5_enter_68 : decode cX5_enter 68 = .ok (.iload 6, 2) := by decide +kernel
theorem dX5_enter_70 : decode cX5_enter 70 = .ok (.aload_n 0, 1) := by decide +kernel
theorem dX5_enter_71 : decode cX5_enter 71 = .ok (.getfield 13, 3) := by decide +kernel
theorem dX5_enter_74 : decode cX5_enter 74 = .ok (.iload 6, 2) := by decide +kernel
theorem dX5_enter_76 : decode cX5_enter 76 = .ok (.iaload, 1) := by decide +kernel
theorem dX5_enter_77 : decode cX5_enter 77 = .ok (.iload 4, 2) := by decide +kernel
theorem dX5_enter_79 : decode cX5_enter 79 = .ok (.invokestatic 126, 3) := by decide +kernel
theorem dX5_enter_82 : decode cX5_enter 82 = .ok (.iastore, 1) := by decide +kernel
theorem dX5_enter_83 : decode cX5_enter 83 = .ok (.return_, 1) := by decide +kernel
theorem dX5_goOn_0 : decode cX5_goOn 0 = .ok (.aload_n 0, 1) := by decide +kernel
theorem dX5_goOn_1 : decode cX5_goOn 1 = .ok (.getfield 59, 3) := by decide +kernel
theorem dX5_goOn_4 : decode cX5_goOn 4 = .ok (.aload_n 0, 1) := by decide +kernel
theorem dX5_goOn_5 : decode cX5_goOn 5 = .ok (.getfield 28, 3) := by decide +kernel
theorem dX5_goOn_8 : decode cX5_goOn 8 = .ok (.aload_n 0, 1) := by decide +kernel
theorem dX5_goOn_9 : decode cX5_goOn 9 = .ok (.getfield 37, 3) := by decide +kernel
theorem dX5_goOn_12 : decode cX5_goOn 12 = .ok (.iload_n 1, 1) := by decide +kernel
theorem dX5_goOn_13 : decode cX5_goOn 13 = .ok (.iadd, 1) := by decide +kernel
theorem dX5_goOn_14 : decode cX5_goOn 14 = .ok (.aload_n 0, 1) := by decide +kernel
theorem dX5_goOn_15 : decode cX5_goOn 15 = .ok (.getfield 46, 3) := by decide +kernel
theorem dX5_goOn_18 : decode cX5_goOn 18 = .ok (.iconst 1, 1) := by decide +kernel
theorem dX5_goOn_19 : decode cX5_goOn 19 = .ok (.invokevirtual 129, 3) := by decide +kernel
theorem dX5_goOn_22 : decode cX5_goOn 22 = .ok (.iadd, 1) := by decide +kernel
theorem dX5_goOn_23 : decode cX5_goOn 23 = .ok (.invokevirtual 108, 3) := by decide +kernel
theorem dX5_goOn_26 : decode cX5_goOn 26 = .ok (.aload_n 0, 1) := by decide +kernel
theorem dX5_goOn_27 : decode cX5_goOn 27 = .ok (.getfield 63, 3) := by decide +kernel
theorem dX5_goOn_30 : decode cX5_goOn 30 = .ok (.aload_n 0, 1) := by decide +kernel
theorem dX5_goOn_31 : decode cX5_goOn 31 = .ok (.getfield 28, 3) := by decide +kernel
theorem dX5_goOn_34 : decode cX5_goOn 34 = .ok (.aload_n 0, 1) := by decide +kernel
theorem dX5_goOn_35 : decode cX5_goOn 35 = .ok (.getfield 37, 3) := by decide +kernel
theorem dX5_goOn_38 : decode cX5_goOn 38 = .ok (.iload_n 1, 1) := by decide +kernel
theorem dX5_goOn_39 : decode cX5_goOn 39 = .ok (.iadd, 1) := by decide +kernel
theorem dX5_goOn_40 : decode cX5_goOn 40 = .ok (.aload_n 0, 1) := by decide +kernel
theorem dX5_goOn_41 : decode cX5_goOn 41 = .ok (.getfield 46, 3) := by decide +kernel
theorem dX5_goOn_44 : decode cX5_goOn 44 = .ok (.iconst 0, 1) := by decide +kernel
theorem dX5_goOn_45 : decode cX5_goOn 45 = .ok (.invokevirtual 129, 3) := by decide +kernel
theorem dX5_goOn_48 : decode cX5_goOn 48 = .ok (.iadd, 1) := by decide +kernel
theorem dX5_goOn_49 : decode cX5_goOn 49 = .ok (.invokevirtual 108, 3) := by decide +kernel
theorem dX5_goOn_52 : decode cX5_goOn 52 = .ok (.iload_n 1, 1) := by decide +kernel
theorem dX5_goOn_53 : decode cX5_goOn 53 = .ok (.sipush 610, 3) := by decide +kernel
theorem dX5_goOn_56 : decode cX5_goOn 56 = .ok (.irem, 1) := by decide +kernel
theorem dX5_goOn_57 : decode cX5_goOn 57 = .ok (.bipush 32, 2) := by decide +kernel
theorem dX5_goOn_59 : decode cX5_goOn 59 = .ok (.imul, 1) := by decide +kernel
theorem dX5_goOn_60 : decode cX5_goOn 60 = .ok (.istore_n 3, 1) := by decide +kernel
theorem dX5_goOn_61 : decode cX5_goOn 61 = .ok (.iconst 2, 1) := by decide +kernel
theorem dX5_goOn_62 : decode cX5_goOn 62 = .ok (.aload_n 0, 1) := by decide +kernel
theorem dX5_goOn_63 : decode cX5_goOn 63 = .ok (.getfield 46, 3) := by decide +kernel
theorem dX5_goOn_66 : decode cX5_goOn 66 = .ok (.invokevirtual 133, 3) := by decide +kernel
theorem dX5_goOn_69 : decode cX5_goOn 69 = .ok (.imul, 1) := by decide +kernel
theorem dX5_goOn_70 : decode cX5_goOn 70 = .ok (.istore 4, 2) := by decide +kernel
theorem dX5_goOn_72 : decode cX5_goOn 72 = .ok (.iconst 0, 1) := by decide +kernel
theorem dX5_goOn_73 : decode cX5_goOn 73 = .ok (.istore 5, 2) := by decide +kernel
theorem dX5_goOn_75 : decode cX5_goOn 75 = .ok (.iload 5, 2) := by decide +kernel
theorem dX5_goOn_77 : decode cX5_goOn 77 = .ok (.iload 4, 2) := by decide +kernel
theorem dX5_goOn_79 : decode cX5_goOn 79 = .ok (.if_icmp .ge 116, 3) := by decide +kernel
theorem dX5_goOn_82 : decode cX5_goOn 82 = .ok (.aload_n 0, 1) := by decide +kernel
theorem dX5_goOn_83 : decode cX5_goOn 83 = .ok (.getfield 13, 3) := by decide +kernel
theorem dX5_goOn_86 : decode cX5_goOn 86 = .ok (.iload_n 3, 1) := by decide +kernel
theorem dX5_goOn_87 : decode cX5_goOn 87 = .ok (.iload 5, 2) := by decide +kernel
theorem dX5_goOn_89 : decode cX5_goOn 89 = .ok (.iadd, 1) := by decide +kernel
theorem dX5_goOn_90 : decode cX5_goOn 90 = .ok (.iaload, 1) := by decide +kernel
theorem dX5_goOn_91 : decode cX5_goOn 91 = .ok (.istore 6, 2) := by decide +kernel
theorem dX5_goOn_93 : decode cX5_goOn 93 = .ok (.iload 6, 2) := by decide +kernel
theorem dX5_goOn_95 : decode cX5_goOn 95 = .ok (.ifCond .ne 6, 3) := by decide +kernel
theorem dX5_goOn_98 : decode cX5_goOn 98 = .ok (.goto 91, 3) := by decide +kernel
theorem dX5_goOn_101 : decode cX5_goOn 101 = .ok (.aload_n 0, 1) := by decide +kernel
theorem dX5_goOn_102 : decode cX5_goOn 102 = .ok (.getfield 13, 3) := by decide +kernel
theorem dX5_goOn_105 : decode cX5_goOn 105 = .ok (.iload_n 3, 1) := by decide +kernel
theorem dX5_goOn_106 : decode cX5_goOn 106 = .ok (.iload 5, 2) := by decide +kernel
theorem dX5_goOn_108 : decode cX5_goOn 108 = .ok (.iadd, 1) := by decide +kernel
theorem dX5_goOn_109 : decode cX5_goOn 109 = .ok (.iconst 0, 1) := by decide +kernel
theorem dX5_goOn_110 : decode cX5_goOn 110 = .ok (.iastore, 1) := by decide +kernel
theorem dX5_goOn_111 : decode cX5_goOn 111 = .ok (.aload_n 0, 1) := by decide +kernel
theorem dX5_goOn_112 : decode cX5_goOn 112 = .ok (.dup, 1) := by decide +kernel
theorem dX5_goOn_113 : decode cX5_goOn 113 = .ok (.getfield 17, 3) := by decide +kernel
theorem dX5_goOn_116 : decode cX5_goOn 116 = .ok (.iconst 1, 1) := by decide +kernel
theorem dX5_goOn_117 : decode cX5_goOn 117 = .ok (.isub, 1) := by decide +kernel
theorem dX5_goOn_118 : decode cX5_goOn 118 = .ok (.putfield 17, 3) := by decide +kernel
theorem dX5_goOn_121 : decode cX5_goOn 121 = .ok (.aload_n 0, 1) := by decide +kernel
theorem dX5_goOn_122 : decode cX5_goOn 122 = .ok (.getfield 46, 3) := by decide +kernel
theorem dX5_goOn_125 : decode cX5_goOn 125 = .ok (.iload 5, 2) := by decide +kernel
theorem dX5_goOn_127 : decode cX5_goOn 127 = .ok (.invokevirtual 135, 3) := by decide +kernel
theorem dX5_goOn_130 : decode cX5_goOn 130 = .ok (.aload_n 0, 1) := by decide +kernel
theorem dX5_goOn_131 : decode cX5_goOn 131 = .ok (.getfield 34, 3) := by decide +kernel
theorem dX5_goOn_134 : decode cX5_goOn 134 = .ok (.if_icmp .ne 13, 3) := by decide +kernel
theorem dX5_goOn_137 : decode cX5_goOn 137 = .ok (.aload_n 0, 1) := by decide +kernel
theorem dX5_goOn_138 : decode cX5_goOn 138 = .ok (.iload_n 1, 1) := by decide +kernel
theorem dX5_goOn_139 : decode cX5_goOn 139 = .ok (.iload 6, 2) := by decide +kernel
theorem dX5_goOn_141 : decode cX5_goOn 141 = .ok (.invokevirtual 138, 3) := by decide +kernel
theorem dX5_goOn_144 : decode cX5_goOn 144 = .ok (.goto 45, 3) := by decide +kernel
theorem dX5_goOn_147 : decode cX5_goOn 147 = .ok (.aload_n 0, 1) := by decide +kernel
theorem dX5_goOn_148 : decode cX5_goOn 148 = .ok (.getfield 21, 3) := by decide +kernel
theorem dX5_goOn_151 : decode cX5_goOn 151 = .ok (.iload 5, 2) := by decide +kernel
theorem dX5_goOn_153 : decode cX5_goOn 153 = .ok (.iushr, 1) := by decide +kernel
theorem dX5_goOn_154 : decode cX5_goOn 154 = .ok (.iconst 1, 1) := by decide +kernel
theorem dX5_goOn_155 : decode cX5_goOn 155 = .ok (.iand, 1) := by decide +kernel
theorem dX5_goOn_156 : decode cX5_goOn 156 = .ok (.ifCond .ne 33, 3) := by decide +kernel
theorem dX5_goOn_159 : decode cX5_goOn 159 = .ok (.aload_n 0, 1) := by decide +kernel
theorem dX5_goOn_160 : decode cX5_goOn 160 = .ok (.iload 5, 2) := by decide +kernel
theorem dX5_goOn_162 : decode cX5_goOn 162 = .ok (.iload_n 1, 1) := by decide +kernel
theorem dX5_goOn_163 : decode cX5_goOn 163 = .ok (.iload 6, 2) := by decide +kernel
theorem dX5_goOn_165 : decode cX5_goOn 165 = .ok (.invokevirtual 141, 3) := by decide +kernel
theorem dX5_goOn_168 : decode cX5_goOn 168 = .ok (.aload_n 0, 1) := by decide +kernel
theorem dX5_goOn_169 : decode cX5_goOn 169 = .ok (.dup, 1) := by decide +kernel
theorem dX5_goOn_170 : decode cX5_goOn 170 = .ok (.getfield 21, 3) := by decide +kernel
theorem dX5_goOn_173 : decode cX5_goOn 173 = .ok (.iload_n 2, 1) := by decide +kernel
theorem dX5_goOn_174 : decode cX5_goOn 174 = .ok (.ifCond .eq 10, 3) := by decide +kernel
theorem dX5_goOn_177 : decode cX5_goOn 177 = .ok (.iconst 1, 1) := by decide +kernel
theorem dX5_goOn_178 : decode cX5_goOn 178 = .ok (.iload 5, 2) := by decide +kernel
theorem dX5_goOn_180 : decode cX5_goOn 180 = .ok (.ishl, 1) := by decide +kernel
theorem dX5_goOn_181 : decode cX5_goOn 181 = .ok (.goto 4, 3) := by decide +kernel
theorem dX5_goOn_184 : decode cX5_goOn 184 = .ok (.iconst 0, 1) := by decide +kernel
theorem dX5_goOn_185 : decode cX5_goOn 185 = .ok (.ior, 1) := by decide +kernel
theorem dX5_goOn_186 : decode cX5_goOn 186 = .ok (.putfield 21, 3) := by decide +kernel
theorem dX5_goOn_189 : decode cX5_goOn 189 = .ok (.iinc 5 1, 3) := by decide +kernel
theorem dX5_goOn_192 : decode cX5_goOn 192 = .ok (.goto (-117), 3) := by decide +kernel
theorem dX5_goOn_195 : decode cX5_goOn 195 = .ok (.return_, 1) := by decide +kernel
theorem dX5_arrive_0 : decode cX5_arrive 0 = .ok (.aload_n 0, 1) := by decide +kernel
theorem dX5_arrive_1 : decode cX5_arrive 1 = .ok (.iload_n 1, 1) := by decide +kernel
theorem dX5_arrive_2 : decode cX5_arrive 2 = .ok (.putfield 40, 3) := by decide +kernel
theorem dX5_arrive_5 : decode cX5_arrive 5 = .ok (.aload_n 0, 1) := by decide +kernel
theorem dX5_arrive_6 : decode cX5_arrive 6 = .ok (.aload_n 0, 1) := by decide +kernel
theorem dX5_arrive_7 : decode cX5_arrive 7 = .ok (.getfield 43, 3) := by decide +kernel
theorem dX5_arrive_10 : decode cX5_arrive 10 = .ok (.iconst (-1), 1) := by decide +kernel
theorem dX5_arrive_11 : decode cX5_arrive 11 = .ok (.if_icmp .ne 7, 3) := by decide +kernel
theorem dX5_arrive_14 : decode cX5_arrive 14 = .ok (.iload_n 2, 1) := by decide +kernel
theorem dX5_arrive_15 : decode cX5_arrive 15 = .ok (.goto 11, 3) := by decide +kernel
theorem dX5_arrive_18 : decode cX5_arrive 18 = .ok (.aload_n 0, 1) := by decide +kernel
theorem dX5_arrive_19 : decode cX5_arrive 19 = .ok (.getfield 43, 3) := by decide +kernel
theorem dX5_arrive_22 : decode cX5_arrive 22 = .ok (.iload_n 2, 1) := by decide +kernel
theorem dX5_arrive_23 : decode cX5_arrive 23 = .ok (.invokestatic 126, 3) := by decide +kernel
theorem dX5_arrive_26 : decode cX5_arrive 26 = .ok (.putfield 43, 3) := by decide +kernel
theorem dX5_arrive_29 : decode cX5_arrive 29 = .ok (.return_, 1) := by decide +kernel
theorem dX5_leave_0 : decode cX5_leave 0 = .ok (.aload_n 0, 1) := by decide +kernel
theorem dX5_leave_1 : decode cX5_leave 1 = .ok (.getfield 46, 3) := by decide +kernel
theorem dX5_leave_4 : decode cX5_leave 4 = .ok (.iload_n 1, 1) := by decide +kernel
theorem dX5_leave_5 : decode cX5_leave 5 = .ok (.invokevirtual 135, 3) := by decide +kernel
theorem dX5_leave_8 : decode cX5_leave 8 = .ok (.istore 4, 2) := by decide +kernel
theorem dX5_leave_10 : decode cX5_leave 10 = .ok (.aload_n 0, 1) := by decide +kernel
theorem dX5_leave_11 : decode cX5_leave 11 = .ok (.getfield 46, 3) := by decide +kernel
theorem dX5_leave_14 : decode cX5_leave 14 = .ok (.iload 4, 2) := by decide +kernel
theorem dX5_leave_16 : decode cX5_leave 16 = .ok (.invokevirtual 112, 3) := by decide +kernel
theorem dX5_leave_19 : decode cX5_leave 19 = .ok (.istore 5, 2) := by decide +kernel
theorem dX5_leave_21 : decode cX5_leave 21 = .ok (.aload_n 0, 1) := by decide +kernel
theorem dX5_leave_22 : decode cX5_leave 22 = .ok (.getfield 46, 3) := by decide +kernel
theorem dX5_leave_25 : decode cX5_leave 25 = .ok (.iload 4, 2) := by decide +kernel
theorem dX5_leave_27 : decode cX5_leave 27 = .ok (.aload_n 0, 1) := by decide +kernel
theorem dX5_leave_28 : decode cX5_leave 28 = .ok (.getfield 37, 3) := by decide +kernel
theorem dX5_leave_31 : decode cX5_leave 31 = .ok (.iload_n 2, 1) := by decide +kernel
theorem dX5_leave_32 : decode cX5_leave 32 = .ok (.iadd, 1) := by decide +kernel
theorem dX5_leave_33 : decode cX5_leave 33 = .ok (.invokevirtual 145, 3) := by decide +kernel
theorem dX5_leave_36 : decode cX5_leave 36 = .ok (.istore 6, 2) := by decide +kernel
theorem dX5_leave_38 : decode cX5_leave 38 = .ok (.aload_n 0, 1) := by decide +kernel
theorem dX5_leave_39 : decode cX5_leave 39 = .ok (.getfield 46, 3) := by decide +kernel
theorem dX5_leave_42 : decode cX5_leave 42 = .ok (.iload 4, 2) := by decide +kernel
theorem dX5_leave_44 : decode cX5_leave 44 = .ok (.iload_n 1, 1) := by decide +kernel
theorem dX5_leave_45 : decode cX5_leave 45 = .ok (.iconst 2, 1) := by decide +kernel
theorem dX5_leave_46 : decode cX5_leave 46 = .ok (.idiv, 1) := by decide +kernel
theorem dX5_leave_47 : decode cX5_leave 47 = .ok (.invokevirtual 148, 3) := by decide +kernel
theorem dX5_leave_50 : decode cX5_leave 50 = .ok (.istore 7, 2) := by decide +kernel
theorem dX5_leave_52 : decode cX5_leave 52 = .ok (.iconst 1, 1) := by decide +kernel
theorem dX5_leave_53 : decode cX5_leave 53 = .ok (.istore 8, 2) := by decide +kernel
theorem dX5_leave_55 : decode cX5_leave 55 = .ok (.iload 8, 2) := by decide +kernel
theorem dX5_leave_57 : decode cX5_leave 57 = .ok (.iload 5, 2) := by decide +kernel
theorem dX5_leave_59 : decode cX5_leave 59 = .ok (.if_icmp .ge 105, 3) := by decide +kernel
theorem dX5_leave_62 : decode cX5_leave 62 = .ok (.iload 7, 2) := by decide +kernel
theorem dX5_leave_64 : decode cX5_leave 64 = .ok (.iconst 1, 1) := by decide +kernel
theorem dX5_leave_65 : decode cX5_leave 65 = .ok (.iadd, 1) := by decide +kernel
theorem dX5_leave_66 : decode cX5_leave 66 = .ok (.iload 5, 2) := by decide +kernel
theorem dX5_leave_68 : decode cX5_leave 68 = .ok (.if_icmp .ge 10, 3) := by decide +kernel
theorem dX5_leave_71 : decode cX5_leave 71 = .ok (.iload 7, 2) := by decide +kernel
theorem dX5_leave_73 : decode cX5_leave 73 = .ok (.iconst 1, 1) := by decide +kernel
theorem dX5_leave_74 : decode cX5_leave 74 = .ok (.iadd, 1) := by decide +kernel
theorem dX5_leave_75 : decode cX5_leave 75 = .ok (.goto 4, 3) := by decide +kernel
theorem dX5_leave_78 : decode cX5_leave 78 = .ok (.iconst 0, 1) := by decide +kernel
theorem dX5_leave_79 : decode cX5_leave 79 = .ok (.istore 7, 2) := by decide +kernel
theorem dX5_leave_81 : decode cX5_leave 81 = .ok (.iload 8, 2) := by decide +kernel
theorem dX5_leave_83 : decode cX5_leave 83 = .ok (.iload 6, 2) := by decide +kernel
theorem dX5_leave_85 : decode cX5_leave 85 = .ok (.if_icmp .ne 7, 3) := by decide +kernel
theorem dX5_leave_88 : decode cX5_leave 88 = .ok (.iconst 1, 1) := by decide +kernel
theorem dX5_leave_89 : decode cX5_leave 89 = .ok (.goto 4, 3) := by decide +kernel
theorem dX5_leave_92 : decode cX5_leave 92 = .ok (.iconst 0, 1) := by decide +kernel
theorem dX5_leave_93 : decode cX5_leave 93 = .ok (.istore 9, 2) := by decide +kernel
theorem dX5_leave_95 : decode cX5_leave 95 = .ok (.aload_n 0, 1) := by decide +kernel
theorem dX5_leave_96 : decode cX5_leave 96 = .ok (.getfield 46, 3) := by decide +kernel
theorem dX5_leave_99 : decode cX5_leave 99 = .ok (.iload 4, 2) := by decide +kernel
theorem dX5_leave_101 : decode cX5_leave 101 = .ok (.iload 7, 2) := by decide +kernel
theorem dX5_leave_103 : decode cX5_leave 103 = .ok (.invokevirtual 116, 3) := by decide +kernel
theorem dX5_leave_106 : decode cX5_leave 106 = .ok (.istore 10, 2) := by decide +kernel
theorem dX5_leave_108 : decode cX5_leave 108 = .ok (.iload 9, 2) := by decide +kernel
theorem dX5_leave_110 : decode cX5_leave 110 = .ok (.ifCond .eq 15, 3) := by decide +kernel
theorem dX5_leave_113 : decode cX5_leave 113 = .ok (.aload_n 0, 1) := by decide +kernel
theorem dX5_leave_114 : decode cX5_leave 114 = .ok (.getfield 59, 3) := by decide +kernel
theorem dX5_leave_117 : decode cX5_leave 117 = .ok (.iload 10, 2) := by decide +kernel
theorem dX5_leave_119 : decode cX5_leave 119 = .ok (.invokevirtual 119, 3) := by decide +kernel
theorem dX5_leave_122 : decode cX5_leave 122 = .ok (.goto 12, 3) := by decide +kernel
theorem dX5_leave_125 : decode cX5_leave 125 = .ok (.aload_n 0, 1) := by decide +kernel
theorem dX5_leave_126 : decode cX5_leave 126 = .ok (.getfield 63, 3) := by decide +kernel
theorem dX5_leave_129 : decode cX5_leave 129 = .ok (.iload 10, 2) := by decide +kernel
theorem dX5_leave_131 : decode cX5_leave 131 = .ok (.invokevirtual 119, 3) := by decide +kernel
theorem dX5_leave_134 : decode cX5_leave 134 = .ok (.istore 11, 2) := by decide +kernel
theorem dX5_leave_136 : decode cX5_leave 136 = .ok (.aload_n 0, 1) := by decide +kernel
theorem dX5_leave_137 : decode cX5_leave 137 = .ok (.iload 10, 2) := by decide +kernel
theorem dX5_leave_139 : decode cX5_leave 139 = .ok (.iload_n 2, 1) := by decide +kernel
theorem dX5_leave_140 : decode cX5_leave 140 = .ok (.aload_n 0, 1) := by decide +kernel
theorem dX5_leave_141 : decode cX5_leave 141 = .ok (.getfield 46, 3) := by decide +kernel
theorem dX5_leave_144 : decode cX5_leave 144 = .ok (.iload 9, 2) := by decide +kernel
theorem dX5_leave_146 : decode cX5_leave 146 = .ok (.invokevirtual 129, 3) := by decide +kernel
theorem dX5_leave_149 : decode cX5_leave 149 = .ok (.iadd, 1) := by decide +kernel
theorem dX5_leave_150 : decode cX5_leave 150 = .ok (.iload 11, 2) := by decide +kernel
theorem dX5_leave_152 : decode cX5_leave 152 = .ok (.iload_n 3, 1) := by decide +kernel
theorem dX5_leave_153 : decode cX5_leave 153 = .ok (.iconst 1, 1) := by decide +kernel
theorem dX5_leave_154 : decode cX5_leave 154 = .ok (.iadd, 1) := by decide +kernel
theorem dX5_leave_155 : decode cX5_leave 155 = .ok (.invokevirtual 122, 3) := by decide +kernel
theorem dX5_leave_158 : decode cX5_leave 158 = .ok (.iinc 8 1, 3) := by decide +kernel
theorem dX5_leave_161 : decode cX5_leave 161 = .ok (.goto (-106), 3) := by decide +kernel
theorem dX5_leave_164 : decode cX5_leave 164 = .ok (.return_, 1) := by decide +kernel
theorem dX6_init_0 : decode cX6_init 0 = .ok (.aload_n 0, 1) := by decide +kernel
theorem dX6_init_1 : decode cX6_init 1 = .ok (.invokespecial 3, 3) := by decide +kernel
theorem dX6_init_4 : decode cX6_init 4 = .ok (.aload_n 0, 1) := by decide +kernel
theorem dX6_init_5 : decode cX6_init 5 = .ok (.sipush 800, 3) := by decide +kernel
theorem dX6_init_8 : decode cX6_init 8 = .ok (.newarray .int, 2) := by decide +kernel
theorem dX6_init_10 : decode cX6_init 10 = .ok (.putfield 11, 3) := by decide +kernel
theorem dX6_init_13 : decode cX6_init 13 = .ok (.aload_n 0, 1) := by decide +kernel
theorem dX6_init_14 : decode cX6_init 14 = .ok (.iconst 0, 1) := by decide +kernel
theorem dX6_init_15 : decode cX6_init 15 = .ok (.putfield 15, 3) := by decide +kernel
theorem dX6_init_18 : decode cX6_init 18 = .ok (.return_, 1) := by decide +kernel
theorem dX6_length_0 : decode cX6_length 0 = .ok (.aload_n 0, 1) := by decide +kernel
theorem dX6_length_1 : decode cX6_length 1 = .ok (.getfield 15, 3) := by decide +kernel
theorem dX6_length_4 : decode cX6_length 4 = .ok (.ireturn, 1) := by decide +kernel
theorem dX6_hasRoomFor_0 : decode cX6_hasRoomFor 0 = .ok (.aload_n 0, 1) := by decide +kernel
theorem dX6_hasRoomFor_1 : decode cX6_hasRoomFor 1 = .ok (.getfield 15, 3) := by decide +kernel
theorem dX6_hasRoomFor_4 : decode cX6_hasRoomFor 4 = .ok (.iload_n 1, 1) := by decide +kernel
theorem dX6_hasRoomFor_5 : decode cX6_hasRoomFor 5 = .ok (.iadd, 1) := by decide +kernel
theorem dX6_hasRoomFor_6 : decode cX6_hasRoomFor 6 = .ok (.sipush 800, 3) := by decide +kernel
theorem dX6_hasRoomFor_9 : decode cX6_hasRoomFor 9 = .ok (.if_icmp .gt 7, 3) := by decide +kernel
theorem dX6_hasRoomFor_12 : decode cX6_hasRoomFor 12 = .ok (.iconst 1, 1) := by decide +kernel
theorem dX6_hasRoomFor_13 : decode cX6_hasRoomFor 13 = .ok (.goto 4, 3) := by decide +kernel
theorem dX6_hasRoomFor_16 : decode cX6_hasRoomFor 16 = .ok (.iconst 0, 1) := by decide +kernel
theorem dX6_hasRoomFor_17 : decode cX6_hasRoomFor 17 = .ok (.ireturn, 1) := by decide +kernel
theorem dX6_put_0 : decode cX6_put 0 = .ok (.bipush 24, 2) := by decide +kernel
theorem dX6_put_2 : decode cX6_put 2 = .ok (.istore_n 2, 1) := by decide +kernel
theorem dX6_put_3 : decode cX6_put 3 = .ok (.iload_n 2, 1) := by decide +kernel
theorem dX6_put_4 : decode cX6_put 4 = .ok (.ifCond .lt 45, 3) := by decide +kernel
theorem dX6_put_7 : decode cX6_put 7 = .ok (.aload_n 0, 1) := by decide +kernel
theorem dX6_put_8 : decode cX6_put 8 = .ok (.getfield 15, 3) := by decide +kernel
theorem dX6_put_11 : decode cX6_put 11 = .ok (.sipush 800, 3) := by decide +kernel
theorem dX6_put_14 : decode cX6_put 14 = .ok (.if_icmp .ge 35, 3) := by decide +kernel
theorem dX6_put_17 : decode cX6_put 17 = .ok (.aload_n 0, 1) := by decide +kernel
theorem dX6_put_18 : decode cX6_put 18 = .ok (.getfield 11, 3) := by decide +kernel
theorem dX6_put_21 : decode cX6_put 21 = .ok (.aload_n 0, 1) := by decide +kernel
theorem dX6_put_22 : decode cX6_put 22 = .ok (.getfield 15, 3) := by decide +kernel
theorem dX6_put_25 : decode cX6_put 25 = .ok (.iload_n 1, 1) := by decide +kernel
theorem dX6_put_26 : decode cX6_put 26 = .ok (.iload_n 2, 1) := by decide +kernel
theorem dX6_put_27 : decode cX6_put 27 = .ok (.iushr, 1) := by decide +kernel
theorem dX6_put_28 : decode cX6_put 28 = .ok (.sipush 255, 3) := by decide +kernel
theorem dX6_put_31 : decode cX6_put 31 = .ok (.iand, 1) := by decide +kernel
theorem dX6_put_32 : decode cX6_put 32 = .ok (.iastore, 1) := by decide +kernel
theorem dX6_put_33 : decode cX6_put 33 = .ok (.aload_n 0, 1) := by decide +kernel
theorem dX6_put_34 : decode cX6_put 34 = .ok (.dup, 1) := by decide +kernel
theorem dX6_put_35 : decode cX6_put 35 = .ok (.getfield 15, 3) := by decide +kernel
theorem dX6_put_38 : decode cX6_put 38 = .ok (.iconst 1, 1) := by decide +kernel
theorem dX6_put_39 : decode cX6_put 39 = .ok (.iadd, 1) := by decide +kernel
theorem dX6_put_40 : decode cX6_put 40 = .ok (.putfield 15, 3) := by decide +kernel
theorem dX6_put_43 : decode cX6_put 43 = .ok (.iinc 2 (-8), 3) := by decide +kernel
theorem dX6_put_46 : decode cX6_put 46 = .ok (.goto (-43), 3) := by decide +kernel
theorem dX6_put_49 : decode cX6_put 49 = .ok (.return_, 1) := by decide +kernel
theorem dX6_cutTo_0 : decode cX6_cutTo 0 = .ok (.aload_n 0, 1) := by decide +kernel
theorem dX6_cutTo_1 : decode cX6_cutTo 1 = .ok (.iload_n 1, 1) := by decide +kernel
theorem dX6_cutTo_2 : decode cX6_cutTo 2 = .ok (.putfield 15, 3) := by decide +kernel
theorem dX6_cutTo_5 : decode cX6_cutTo 5 = .ok (.return_, 1) := by decide +kernel
theorem dX6_at_0 : decode cX6_at 0 = .ok (.iload_n 1, 1) := by decide +kernel
theorem dX6_at_1 : decode cX6_at 1 = .ok (.ifCond .lt 20, 3) := by decide +kernel
theorem dX6_at_4 : decode cX6_at 4 = .ok (.iload_n 1, 1) := by decide +kernel
theorem dX6_at_5 : decode cX6_at 5 = .ok (.aload_n 0, 1) := by decide +kernel
theorem dX6_at_6 : decode cX6_at 6 = .ok (.getfield 15, 3) := by decide +kernel
theorem dX6_at_9 : decode cX6_at 9 = .ok (.if_icmp .ge 12, 3) := by decide +kernel
theorem dX6_at_12 : decode cX6_at 12 = .ok (.aload_n 0, 1) := by decide +kernel
theorem dX6_at_13 : decode cX6_at 13 = .ok (.getfield 11, 3) := by decide +kernel
theorem dX6_at_16 : decode cX6_at 16 = .ok (.iload_n 1, 1) := by decide +kernel
theorem dX6_at_17 : decode cX6_at 17 = .ok (.iaload, 1) := by decide +kernel
theorem dX6_at_18 : decode cX6_at 18 = .ok (.goto 4, 3) := by decide +kernel
theorem dX6_at_21 : decode cX6_at 21 = .ok (.iconst (-1), 1) := by decide +kernel
theorem dX6_at_22 : decode cX6_at 22 = .ok (.ireturn, 1) := by decide +kernel
theorem dX7_init_0 : decode cX7_init 0 = .ok (.aload_n 0, 1) := by decide +kernel
theorem dX7_init_1 : decode cX7_init 1 = .ok (.invokespecial 3, 3) := by decide +kernel
theorem dX7_init_4 : decode cX7_init 4 = .ok (.aload_n 0, 1) := by decide +kernel
theorem dX7_init_5 : decode cX7_init 5 = .ok (.bipush 32, 2) := by decide +kernel
theorem dX7_init_7 : decode cX7_init 7 = .ok (.newarray .int, 2) := by decide +kernel
theorem dX7_init_9 : decode cX7_init 9 = .ok (.putfield 11, 3) := by decide +kernel
theorem dX7_init_12 : decode cX7_init 12 = .ok (.aload_n 0, 1) := by decide +kernel
theorem dX7_init_13 : decode cX7_init 13 = .ok (.iconst 0, 1) := by decide +kernel
theorem dX7_init_14 : decode cX7_init 14 = .ok (.putfield 17, 3) := by decide +kernel
theorem dX7_init_17 : decode cX7_init 17 = .ok (.aload_n 0, 1) := by decide +kernel
theorem dX7_init_18 : decode cX7_init 18 = .ok (.aload_n 1, 1) := by decide +kernel
theorem dX7_init_19 : decode cX7_init 19 = .ok (.putfield 21, 3) := by decide +kernel
theorem dX7_init_22 : decode cX7_init 22 = .ok (.aload_n 0, 1) := by decide +kernel
theorem dX7_init_23 : decode cX7_init 23 = .ok (.aload_n 2, 1) := by decide +kernel
theorem dX7_init_24 : decode cX7_init 24 = .ok (.putfield 25, 3) := by decide +kernel
theorem dX7_init_27 : decode cX7_init 27 = .ok (.return_, 1) := by decide +kernel
theorem dX7_minutesOn_0 : decode cX7_minutesOn 0 = .ok (.aload_n 0, 1) := by decide +kernel
theorem dX7_minutesOn_1 : decode cX7_minutesOn 1 = .ok (.getfield 11, 3) := by decide +kernel
theorem dX7_minutesOn_4 : decode cX7_minutesOn 4 = .ok (.iload_n 1, 1) := by decide +kernel
theorem dX7_minutesOn_5 : decode cX7_minutesOn 5 = .ok (.iaload, 1) := by decide +kernel
theorem dX7_minutesOn_6 : decode cX7_minutesOn 6 = .ok (.ireturn, 1) := by decide +kernel
theorem dX7_begin_0 : decode cX7_begin 0 = .ok (.aload_n 0, 1) := by decide +kernel
theorem dX7_begin_1 : decode cX7_begin 1 = .ok (.iconst 0, 1) := by decide +kernel
theorem dX7_begin_2 : decode cX7_begin 2 = .ok (.putfield 17, 3) := by decide +kernel
theorem dX7_begin_5 : decode cX7_begin 5 = .ok (.return_, 1) := by decide +kernel
theorem dX7_moveTo_0 : decode cX7_moveTo 0 = .ok (.iload_n 2, 1) := by decide +kernel
theorem dX7_moveTo_1 : decode cX7_moveTo 1 = .ok (.sipush 1439, 3) := by decide +kernel
theorem dX7_moveTo_4 : decode cX7_moveTo 4 = .ok (.invokestatic 29, 3) := by decide +kernel
theorem dX7_moveTo_7 : decode cX7_moveTo 7 = .ok (.istore_n 3, 1) := by decide +kernel
theorem dX7_moveTo_8 : decode cX7_moveTo 8 = .ok (.iload_n 3, 1) := by decide +kernel
theorem dX7_moveTo_9 : decode cX7_moveTo 9 = .ok (.aload_n 0, 1) := by decide +kernel
theorem dX7_moveTo_10 : decode cX7_moveTo 10 = .ok (.getfield 17, 3) := by decide +kernel
theorem dX7_moveTo_13 : decode cX7_moveTo 13 = .ok (.if_icmp .ge 4, 3) := by decide +kernel
theorem dX7_moveTo_16 : decode cX7_moveTo 16 = .ok (.return_, 1) := by decide +kernel
theorem dX7_moveTo_17 : decode cX7_moveTo 17 = .ok (.iconst 0, 1) := by decide +kernel
theorem dX7_moveTo_18 : decode cX7_moveTo 18 = .ok (.istore 4, 2) := by decide +kernel
theorem dX7_moveTo_20 : decode cX7_moveTo 20 = .ok (.iload 4, 2) := by decide +kernel
theorem dX7_moveTo_22 : decode cX7_moveTo 22 = .ok (.iconst 2, 1) := by decide +kernel
theorem dX7_moveTo_23 : decode cX7_moveTo 23 = .ok (.aload_n 0, 1) := by decide +kernel
theorem dX7_moveTo_24 : decode cX7_moveTo 24 = .ok (.getfield 21, 3) := by decide +kernel
theorem dX7_moveTo_27 : decode cX7_moveTo 27 = .ok (.invokevirtual 35, 3) := by decide +kernel
theorem dX7_moveTo_30 : decode cX7_moveTo 30 = .ok (.imul, 1) := by decide +kernel
theorem dX7_moveTo_31 : decode cX7_moveTo 31 = .ok (.if_icmp .ge 103, 3) := by decide +kernel
theorem dX7_moveTo_34 : decode cX7_moveTo 34 = .ok (.aload_n 0, 1) := by decide +kernel
theorem dX7_moveTo_35 : decode cX7_moveTo 35 = .ok (.getfield 25, 3) := by decide +kernel
theorem dX7_moveTo_38 : decode cX7_moveTo 38 = .ok (.iload_n 1, 1) := by decide +kernel
theorem dX7_moveTo_39 : decode cX7_moveTo 39 = .ok (.iload 4, 2) := by decide +kernel
theorem dX7_moveTo_41 : decode cX7_moveTo 41 = .ok (.iconst 2, 1) := by decide +kernel
theorem dX7_moveTo_42 : decode cX7_moveTo 42 = .ok (.idiv, 1) := by decide +kernel
theorem dX7_moveTo_43 : decode cX7_moveTo 43 = .ok (.iload_n 3, 1) := by decide +kernel
theorem dX7_moveTo_44 : decode cX7_moveTo 44 = .ok (.invokevirtual 39, 3) := by decide +kernel
theorem dX7_moveTo_47 : decode cX7_moveTo 47 = .ok (.istore 5, 2) := by decide +kernel
theorem dX7_moveTo_49 : decode cX7_moveTo 49 = .ok (.aload_n 0, 1) := by decide +kernel
theorem dX7_moveTo_50 : decode cX7_moveTo 50 = .ok (.getfield 21, 3) := by decide +kernel
theorem dX7_moveTo_53 : decode cX7_moveTo 53 = .ok (.iload 4, 2) := by decide +kernel
theorem dX7_moveTo_55 : decode cX7_moveTo 55 = .ok (.iload_n 3, 1) := by decide +kernel
theorem dX7_moveTo_56 : decode cX7_moveTo 56 = .ok (.invokevirtual 45, 3) := by decide +kernel
theorem dX7_moveTo_59 : decode cX7_moveTo 59 = .ok (.ifCond .eq 23, 3) := by decide +kernel
theorem dX7_moveTo_62 : decode cX7_moveTo 62 = .ok (.aload_n 0, 1) := by decide +kernel
theorem dX7_moveTo_63 : decode cX7_moveTo 63 = .ok (.getfield 25, 3) := by decide +kernel
theorem dX7_moveTo_66 : decode cX7_moveTo 66 = .ok (.iload_n 1, 1) := by decide +kernel
theorem dX7_moveTo_67 : decode cX7_moveTo 67 = .ok (.iload 4, 2) := by decide +kernel
theorem dX7_moveTo_69 : decode cX7_moveTo 69 = .ok (.iconst 2, 1) := by decide +kernel
theorem dX7_moveTo_70 : decode cX7_moveTo 70 = .ok (.idiv, 1) := by decide +kernel
theorem dX7_moveTo_71 : decode cX7_moveTo 71 = .ok (.iload_n 3, 1) := by decide +kernel
theorem dX7_moveTo_72 : decode cX7_moveTo 72 = .ok (.invokevirtual 49, 3) := by decide +kernel
theorem dX7_moveTo_75 : decode cX7_moveTo 75 = .ok (.ifCond .eq 7, 3) := by decide +kernel
theorem dX7_moveTo_78 : decode cX7_moveTo 78 = .ok (.iconst 1, 1) := by decide +kernel
theorem dX7_moveTo_79 : decode cX7_moveTo 79 = .ok (.goto 4, 3) := by decide +kernel
theorem dX7_moveTo_82 : decode cX7_moveTo 82 = .ok (.iconst 0, 1) := by decide +kernel
theorem dX7_moveTo_83 : decode cX7_moveTo 83 = .ok (.istore 6, 2) := by decide +kernel
theorem dX7_moveTo_85 : decode cX7_moveTo 85 = .ok (.aload_n 0, 1) := by decide +kernel
theorem dX7_moveTo_86 : decode cX7_moveTo 86 = .ok (.getfield 11, 3) := by decide +kernel
theorem dX7_moveTo_89 : decode cX7_moveTo 89 = .ok (.iload 4, 2) := by decide +kernel
theorem dX7_moveTo_91 : decode cX7_moveTo 91 = .ok (.iload 6, 2) := by decide +kernel
theorem dX7_moveTo_93 : decode cX7_moveTo 93 = .ok (.ifCond .eq 33, 3) := by decide +kernel
theorem dX7_moveTo_96 : decode cX7_moveTo 96 = .ok (.iload 5, 2) := by decide +kernel
theorem dX7_moveTo_98 : decode cX7_moveTo 98 = .ok (.ifCond .le 28, 3) := by decide +kernel
theorem dX7_moveTo_101 : decode cX7_moveTo 101 = .ok (.aload_n 0, 1) := by decide +kernel
theorem dX7_moveTo_102 : decode cX7_moveTo 102 = .ok (.getfield 21, 3) := by decide +kernel
theorem dX7_moveTo_105 : decode cX7_moveTo 105 = .ok (.iload 4, 2) := by decide +kernel
theorem dX7_moveTo_107 : decode cX7_moveTo 107 = .ok (.iconst 2, 1) := by decide +kernel
theorem dX7_moveTo_108 : decode cX7_moveTo 108 = .ok (.idiv, 1) := by decide +kernel
theorem dX7_moveTo_109 : decode cX7_moveTo 109 = .ok (.invokevirtual 53, 3) := by decide +kernel
theorem dX7_moveTo_112 : decode cX7_moveTo 112 = .ok (.bipush 10, 2) := by decide +kernel
theorem dX7_moveTo_114 : decode cX7_moveTo 114 = .ok (.imul, 1) := by decide +kernel
theorem dX7_moveTo_115 : decode cX7_moveTo 115 = .ok (.iload 5, 2) := by decide +kernel
theorem dX7_moveTo_117 : decode cX7_moveTo 117 = .ok (.iadd, 1) := by decide +kernel
theorem dX7_moveTo_118 : decode cX7_moveTo 118 = .ok (.iconst 1, 1) := by decide +kernel
theorem dX7_moveTo_119 : decode cX7_moveTo 119 = .ok (.isub, 1) := by decide +kernel
theorem dX7_moveTo_120 : decode cX7_moveTo 120 = .ok (.iload 5, 2) := by decide +kernel
theorem dX7_moveTo_122 : decode cX7_moveTo 122 = .ok (.idiv, 1) := by decide +kernel
theorem dX7_moveTo_123 : decode cX7_moveTo 123 = .ok (.goto 4, 3) := by decide +kernel
theorem dX7_moveTo_126 : decode cX7_moveTo 126 = .ok (.iconst 0, 1) := by decide +kernel
theorem dX7_moveTo_127 : decode cX7_moveTo 127 = .ok (.iastore, 1) := by decide +kernel
theorem dX7_moveTo_128 : decode cX7_moveTo 128 = .ok (.iinc 4 1, 3) := by decide +kernel
theorem dX7_moveTo_131 : decode cX7_moveTo 131 = .ok (.goto (-111), 3) := by decide +kernel
theorem dX7_moveTo_134 : decode cX7_moveTo 134 = .ok (.aload_n 0, 1) := by decide +kernel
theorem dX7_moveTo_135 : decode cX7_moveTo 135 = .ok (.aload_n 0, 1) := by decide +kernel
theorem dX7_moveTo_136 : decode cX7_moveTo 136 = .ok (.getfield 25, 3) := by decide +kernel
theorem dX7_moveTo_139 : decode cX7_moveTo 139 = .ok (.iload_n 3, 1) := by decide +kernel
theorem dX7_moveTo_140 : decode cX7_moveTo 140 = .ok (.invokevirtual 57, 3) := by decide +kernel
theorem dX7_moveTo_143 : decode cX7_moveTo 143 = .ok (.putfield 17, 3) := by decide +kernel
theorem dX7_moveTo_146 : decode cX7_moveTo 146 = .ok (.aload_n 0, 1) := by decide +kernel
theorem dX7_moveTo_147 : decode cX7_moveTo 147 = .ok (.getfield 21, 3) := by decide +kernel
theorem dX7_moveTo_150 : decode cX7_moveTo 150 = .ok (.invokevirtual 60, 3) := by decide +kernel
theorem dX7_moveTo_153 : decode cX7_moveTo 153 = .ok (.iload_n 3, 1) := by decide +kernel
theorem dX7_moveTo_154 : decode cX7_moveTo 154 = .ok (.if_icmp .le 21, 3) := by decide +kernel
theorem dX7_moveTo_157 : decode cX7_moveTo 157 = .ok (.aload_n 0, 1) := by decide +kernel
theorem dX7_moveTo_158 : decode cX7_moveTo 158 = .ok (.aload_n 0, 1) := by decide +kernel
theorem dX7_moveTo_159 : decode cX7_moveTo 159 = .ok (.getfield 17, 3) := by decide +kernel
theorem dX7_moveTo_162 : decode cX7_moveTo 162 = .ok (.aload_n 0, 1) := by decide +kernel
theorem dX7_moveTo_163 : decode cX7_moveTo 163 = .ok (.getfield 21, 3) := by decide +kernel
theorem dX7_moveTo_166 : decode cX7_moveTo 166 = .ok (.invokevirtual 60, 3) := by decide +kernel
theorem dX7_moveTo_169 : decode cX7_moveTo 169 = .ok (.invokestatic 29, 3) := by decide +kernel
theorem dX7_moveTo_172 : decode cX7_moveTo 172 = .ok (.putfield 17, 3) := by decide +kernel
theorem dX7_moveTo_175 : decode cX7_moveTo 175 = .ok (.return_, 1) := by decide +kernel
theorem dX8_init_0 : decode cX8_init 0 = .ok (.aload_n 0, 1) := by decide +kernel
theorem dX8_init_1 : decode cX8_init 1 = .ok (.invokespecial 5, 3) := by decide +kernel
theorem dX8_init_4 : decode cX8_init 4 = .ok (.aload_n 0, 1) := by decide +kernel
theorem dX8_init_5 : decode cX8_init 5 = .ok (.bipush 16, 2) := by decide +kernel
theorem dX8_init_7 : decode cX8_init 7 = .ok (.newarray .int, 2) := by decide +kernel
theorem dX8_init_9 : decode cX8_init 9 = .ok (.putfield 11, 3) := by decide +kernel
theorem dX8_init_12 : decode cX8_init 12 = .ok (.aload_n 0, 1) := by decide +kernel
theorem dX8_init_13 : decode cX8_init 13 = .ok (.bipush 16, 2) := by decide +kernel
theorem dX8_init_15 : decode cX8_init 15 = .ok (.newarray .int, 2) := by decide +kernel
theorem dX8_init_17 : decode cX8_init 17 = .ok (.putfield 15, 3) := by decide +kernel
theorem dX8_init_20 : decode cX8_init 20 = .ok (.aload_n 0, 1) := by decide +kernel
theorem dX8_init_21 : decode cX8_init 21 = .ok (.bipush 16, 2) := by decide +kernel
theorem dX8_init_23 : decode cX8_init 23 = .ok (.newarray .int, 2) := by decide +kernel
theorem dX8_init_25 : decode cX8_init 25 = .ok (.putfield 18, 3) := by decide +kernel
theorem dX8_init_28 : decode cX8_init 28 = .ok (.aload_n 0, 1) := by decide +kernel
theorem dX8_init_29 : decode cX8_init 29 = .ok (.bipush 16, 2) := by decide +kernel
theorem dX8_init_31 : decode cX8_init 31 = .ok (.newarray .boolean, 2) := by decide +kernel
theorem dX8_init_33 : decode cX8_init 33 = .ok (.putfield 21, 3) := by decide +kernel
theorem dX8_init_36 : decode cX8_init 36 = .ok (.aload_n 0, 1) := by decide +kernel
theorem dX8_init_37 : decode cX8_init 37 = .ok (.bipush 16, 2) := by decide +kernel
theorem dX8_init_39 : decode cX8_init 39 = .ok (.newarray .int, 2) := by decide +kernel
theorem dX8_init_41 : decode cX8_init 41 = .ok (.putfield 25, 3) := by decide +kernel
theorem dX8_init_44 : decode cX8_init 44 = .ok (.aload_n 0, 1) := by decide +kernel
theorem dX8_init_45 : decode cX8_init 45 = .ok (.bipush 16, 2) := by decide +kernel
theorem dX8_init_47 : decode cX8_init 47 = .ok (.newarray .int, 2) := by decide +kernel
theorem dX8_init_49 : decode cX8_init 49 = .ok (.putfield 28, 3) := by decide +kernel
theorem dX8_init_52 : decode cX8_init 52 = .ok (.aload_n 0, 1) := by decide +kernel
theorem dX8_init_53 : decode cX8_init 53 = .ok (.bipush 8, 2) := by decide +kernel
theorem dX8_init_55 : decode cX8_init 55 = .ok (.newarray .int, 2) := by decide +kernel
theorem dX8_init_57 : decode cX8_init 57 = .ok (.putfield 31, 3) := by decide +kernel
theorem dX8_init_60 : decode cX8_init 60 = .ok (.aload_n 0, 1) := by decide +kernel
theorem dX8_init_61 : decode cX8_init 61 = .ok (.sipush 128, 3) := by decide +kernel
theorem dX8_init_64 : decode cX8_init 64 = .ok (.newarray .int, 2) := by decide +kernel
theorem dX8_init_66 : decode cX8_init 66 = .ok (.putfield 34, 3) := by decide +kernel
theorem dX8_init_69 : decode cX8_init 69 = .ok (.aload_n 0, 1) := by decide +kernel
theorem dX8_init_70 : decode cX8_init 70 = .ok (.bipush 64, 2) := by decide +kernel
theorem dX8_init_72 : decode cX8_init 72 = .ok (.newarray .int, 2) := by decide +kernel
theorem dX8_init_74 : decode cX8_init 74 = .ok (.putfield 37, 3) := by decide +kernel
theorem dX8_init_77 : decode cX8_init 77 = .ok (.aload_n 0, 1) := by decide +kernel
theorem dX8_init_78 : decode cX8_init 78 = .ok (.iconst 0, 1) := by decide +kernel
theorem dX8_init_79 : decode cX8_init 79 = .ok (.putfield 40, 3) := by decide +kernel
theorem dX8_init_82 : decode cX8_init 82 = .ok (.aload_n 0, 1) := by decide +kernel
theorem dX8_init_83 : decode cX8_init 83 = .ok (.iconst 0, 1) := by decide +kernel
theorem dX8_init_84 : decode cX8_init 84 = .ok (.putfield 44, 3) := by decide +kernel
theorem dX8_init_87 : decode cX8_init 87 = .ok (.aload_n 0, 1) := by decide +kernel
theorem dX8_init_88 : decode cX8_init 88 = .ok (.sipush 300, 3) := by decide +kernel
theorem dX8_init_91 : decode cX8_init 91 = .ok (.putfield 47, 3) := by decide +kernel
theorem dX8_init_94 : decode cX8_init 94 = .ok (.aload_n 0, 1) := by decide +kernel
theorem dX8_init_95 : decode cX8_init 95 = .ok (.iconst 0, 1) := by decide +kernel
theorem dX8_init_96 : decode cX8_init 96 = .ok (.putfield 50, 3) := by decide +kernel
theorem dX8_init_99 : decode cX8_init 99 = .ok (.aload_n 0, 1) := by decide +kernel
theorem dX8_init_100 : decode cX8_init 100 = .ok (.iconst 2, 1) := by decide +kernel
theorem dX8_init_101 : decode cX8_init 101 = .ok (.putfield 53, 3) := by decide +kernel
theorem dX8_init_104 : decode cX8_init 104 = .ok (.aload_n 0, 1) := by decide +kernel
theorem dX8_init_105 : decode cX8_init 105 = .ok (.getfield 37, 3) := by decide +kernel
theorem dX8_init_108 : decode cX8_init 108 = .ok (.ldc 56, 2) := by decide +kernel
theorem dX8_init_110 : decode cX8_init 110 = .ok (.invokestatic 57, 3) := by decide +kernel
theorem dX8_init_113 : decode cX8_init 113 = .ok (.iconst 0, 1) := by decide +kernel
theorem dX8_init_114 : decode cX8_init 114 = .ok (.istore_n 1, 1) := by decide +kernel
theorem dX8_init_115 : decode cX8_init 115 = .ok (.iload_n 1, 1) := by decide +kernel
theorem dX8_init_116 : decode cX8_init 116 = .ok (.bipush 8, 2) := by decide +kernel
theorem dX8_init_118 : decode cX8_init 118 = .ok (.if_icmp .ge 21, 3) := by decide +kernel
theorem dX8_init_121 : decode cX8_init 121 = .ok (.aload_n 0, 1) := by decide +kernel
theorem dX8_init_122 : decode cX8_init 122 = .ok (.getfield 37, 3) := by decide +kernel
theorem dX8_init_125 : decode cX8_init 125 = .ok (.iload_n 1, 1) := by decide +kernel
theorem dX8_init_126 : decode cX8_init 126 = .ok (.bipush 8, 2) := by decide +kernel
theorem dX8_init_128 : decode cX8_init 128 = .ok (.imul, 1) := by decide +kernel
theorem dX8_init_129 : decode cX8_init 129 = .ok (.iload_n 1, 1) := by decide +kernel
theorem dX8_init_130 : decode cX8_init 130 = .ok (.iadd, 1) := by decide +kernel
theorem dX8_init_131 : decode cX8_init 131 = .ok (.iconst 0, 1) := by decide +kernel
theorem dX8_init_132 : decode cX8_init 132 = .ok (.iastore, 1) := by decide +kernel
theorem dX8_init_133 : decode cX8_init 133 = .ok (.iinc 1 1, 3) := by decide +kernel
theorem dX8_init_136 : decode cX8_init 136 = .ok (.goto (-21), 3) := by decide +kernel
theorem dX8_init_139 : decode cX8_init 139 = .ok (.return_, 1) := by decide +kernel
theorem dX8_crossingCount_0 : decode cX8_crossingCount 0 = .ok (.aload_n 0, 1) := by decide +kernel
theorem dX8_crossingCount_1 : decode cX8_crossingCount 1 = .ok (.getfield 40, 3) := by decide +kernel
theorem dX8_crossingCount_4 : decode cX8_crossingCount 4 = .ok (.ireturn, 1) := by decide +kernel
theorem dX8_streetCount_0 : decode cX8_streetCount 0 = .ok (.aload_n 0, 1) := by decide +kernel
theorem dX8_streetCount_1 : decode cX8_streetCount 1 = .ok (.getfield 44, 3) := by decide +kernel
theorem dX8_streetCount_4 : decode cX8_streetCount 4 = .ok (.ireturn, 1) := by decide +kernel
theorem dX8_hourMinute_0 : decode cX8_hourMinute 0 = .ok (.aload_n 0, 1) := by decide +kernel
theorem dX8_hourMinute_1 : decode cX8_hourMinute 1 = .ok (.getfield 47, 3) := by decide +kernel
theorem dX8_hourMinute_4 : decode cX8_hourMinute 4 = .ok (.ireturn, 1) := by decide +kernel
theorem dX8_hasCrossing_0 : decode cX8_hasCrossing 0 = .ok (.iload_n 1, 1) := by decide +kernel
theorem dX8_hasCrossing_1 : decode cX8_hasCrossing 1 = .ok (.ifCond .lt 15, 3) := by decide +kernel
theorem dX8_hasCrossing_4 : decode cX8_hasCrossing 4 = .ok (.iload_n 1, 1) := by decide +kernel
theorem dX8_hasCrossing_5 : decode cX8_hasCrossing 5 = .ok (.aload_n 0, 1) := by decide +kernel
theorem dX8_hasCrossing_6 : decode cX8_hasCrossing 6 = .ok (.getfield 40, 3) := by decide +kernel
theorem dX8_hasCrossing_9 : decode cX8_hasCrossing 9 = .ok (.if_icmp .ge 7, 3) := by decide +kernel
theorem dX8_hasCrossing_12 : decode cX8_hasCrossing 12 = .ok (.iconst 1, 1) := by decide +kernel
theorem dX8_hasCrossing_13 : decode cX8_hasCrossing 13 = .ok (.goto 4, 3) := by decide +kernel
theorem dX8_hasCrossing_16 : decode cX8_hasCrossing 16 = .ok (.iconst 0, 1) := by decide +kernel
theorem dX8_hasCrossing_17 : decode cX8_hasCrossing 17 = .ok (.ireturn, 1) := by decide +kernel
theorem dX8_hasStreet_0 : decode cX8_hasStreet 0 = .ok (.iload_n 1, 1) := by decide +kernel
theorem dX8_hasStreet_1 : decode cX8_hasStreet 1 = .ok (.ifCond .lt 15, 3) := by decide +kernel
theorem dX8_hasStreet_4 : decode cX8_hasStreet 4 = .ok (.iload_n 1, 1) := by decide +kernel
theorem dX8_hasStreet_5 : decode cX8_hasStreet 5 = .ok (.aload_n 0, 1) := by decide +kernel
theorem dX8_hasStreet_6 : decode cX8_hasStreet 6 = .ok (.getfield 44, 3) := by decide +kernel
theorem dX8_hasStreet_9 : decode cX8_hasStreet 9 = .ok (.if_icmp .ge 7, 3) := by decide +kernel
theorem dX8_hasStreet_12 : decode cX8_hasStreet 12 = .ok (.iconst 1, 1) := by decide +kernel
theorem dX8_hasStreet_13 : decode cX8_hasStreet 13 = .ok (.goto 4, 3) := by decide +kernel
theorem dX8_hasStreet_16 : decode cX8_hasStreet 16 = .ok (.iconst 0, 1) := by decide +kernel
theorem dX8_hasStreet_17 : decode cX8_hasStreet 17 = .ok (.ireturn, 1) := by decide +kernel
theorem dX8_setHour_0 : decode cX8_setHour 0 = .ok (.aload_n 0, 1) := by decide +kernel
theorem dX8_setHour_1 : decode cX8_setHour 1 = .ok (.iload_n 1, 1) := by decide +kernel
theorem dX8_setHour_2 : decode cX8_setHour 2 = .ok (.putfield 47, 3) := by decide +kernel
theorem dX8_setHour_5 : decode cX8_setHour 5 = .ok (.return_, 1) := by decide +kernel
theorem dX8_setCorners_0 : decode cX8_setCorners 0 = .ok (.aload_n 0, 1) := by decide +kernel
theorem dX8_setCorners_1 : decode cX8_setCorners 1 = .ok (.iload_n 1, 1) := by decide +kernel
theorem dX8_setCorners_2 : decode cX8_setCorners 2 = .ok (.putfield 50, 3) := by decide +kernel
theorem dX8_setCorners_5 : decode cX8_setCorners 5 = .ok (.aload_n 0, 1) := by decide +kernel
theorem dX8_setCorners_6 : decode cX8_setCorners 6 = .ok (.iload_n 2, 1) := by decide +kernel
theorem dX8_setCorners_7 : decode cX8_setCorners 7 = .ok (.putfield 53, 3) := by decide +kernel
theorem dX8_setCorners_10 : decode cX8_setCorners 10 = .ok (.return_, 1) := by decide +kernel
theorem dX8_addCrossing_0 : decode cX8_addCrossing 0 = .ok (.aload_n 0, 1) := by decide +kernel
theorem dX8_addCrossing_1 : decode cX8_addCrossing 1 = .ok (.getfield 40, 3) := by decide +kernel
theorem dX8_addCrossing_4 : decode cX8_addCrossing 4 = .ok (.bipush 8, 2) := by decide +kernel
theorem dX8_addCrossing_6 : decode cX8_addCrossing 6 = .ok (.if_icmp .lt 5, 3) := by decide +kernel
theorem dX8_addCrossing_9 : decode cX8_addCrossing 9 = .ok (.iconst (-1), 1) := by decide +kernel
theorem dX8_addCrossing_10 : decode cX8_addCrossing 10 = .ok (.ireturn, 1) := by decide +kernel
theorem dX8_addCrossing_11 : decode cX8_addCrossing 11 = .ok (.aload_n 0, 1) := by decide +kernel
theorem dX8_addCrossing_12 : decode cX8_addCrossing 12 = .ok (.dup, 1) := by decide +kernel
theorem dX8_addCrossing_13 : decode cX8_addCrossing 13 = .ok (.getfield 40, 3) := by decide +kernel
theorem dX8_addCrossing_16 : decode cX8_addCrossing 16 = .ok (.iconst 1, 1) := by decide +kernel
theorem dX8_addCrossing_17 : decode cX8_addCrossing 17 = .ok (.iadd, 1) := by decide +kernel
theorem dX8_addCrossing_18 : decode cX8_addCrossing 18 = .ok (.putfield 40, 3) := by decide +kernel
theorem dX8_addCrossing_21 : decode cX8_addCrossing 21 = .ok (.aload_n 0, 1) := by decide +kernel
theorem dX8_addCrossing_22 : decode cX8_addCrossing 22 = .ok (.getfield 40, 3) := by decide +kernel
theorem dX8_addCrossing_25 : decode cX8_addCrossing 25 = .ok (.iconst 1, 1) := by decide +kernel
theorem dX8_addCrossing_26 : decode cX8_addCrossing 26 = .ok (.isub, 1) := by decide +kernel
theorem dX8_addCrossing_27 : decode cX8_addCrossing 27 = .ok (.ireturn, 1) := by decide +kernel
theorem dX8_addStreet_0 : decode cX8_addStreet 0 = .ok (.aload_n 0, 1) := by decide +kernel
theorem dX8_addStreet_1 : decode cX8_addStreet 1 = .ok (.getfield 44, 3) := by decide +kernel
theorem dX8_addStreet_4 : decode cX8_addStreet 4 = .ok (.bipush 16, 2) := by decide +kernel
theorem dX8_addStreet_6 : decode cX8_addStreet 6 = .ok (.if_icmp .ge 24, 3) := by decide +kernel
theorem dX8_addStreet_9 : decode cX8_addStreet 9 = .ok (.aload_n 0, 1) := by decide +kernel
theorem dX8_addStreet_10 : decode cX8_addStreet 10 = .ok (.iload_n 1, 1) := by decide +kernel
theorem dX8_addStreet_11 : decode cX8_addStreet 11 = .ok (.invokevirtual 63, 3) := by decide +kernel
theorem dX8_addStreet_14 : decode cX8_addStreet 14 = .ok (.ifCond .eq 16, 3) := by decide +kernel
theorem dX8_addStreet_17 : decode cX8_addStreet 17 = .ok (.aload_n 0, 1) := by decide +kernel
theorem dX8_addStreet_18 : decode cX8_addStreet 18 = .ok (.iload_n 2, 1) := by decide +kernel
theorem dX8_addStreet_19 : decode cX8_addStreet 19 = .ok (.invokevirtual 63, 3) := by decide +kernel
theorem dX8_addStreet_22 : decode cX8_addStreet 22 = .ok (.ifCond .eq 8, 3) := by decide +kernel
theorem dX8_addStreet_25 : decode cX8_addStreet 25 = .ok (.iload_n 1, 1) := by decide +kernel
theorem dX8_addStreet_26 : decode cX8_addStreet 26 = .ok (.iload_n 2, 1) := by decide +kernel
theorem dX8_addStreet_27 : decode cX8_addStreet 27 = .ok (.if_icmp .ne 5, 3) := by decide +kernel
theorem dX8_addStreet_30 : decode cX8_addStreet 30 = .ok (.iconst (-1), 1) := by decide +kernel
theorem dX8_addStreet_31 : decode cX8_addStreet 31 = .ok (.ireturn, 1) := by decide +kernel
theorem dX8_addStreet_32 : decode cX8_addStreet 32 = .ok (.iload_n 3, 1) := by decide +kernel
theorem dX8_addStreet_33 : decode cX8_addStreet 33 = .ok (.iconst 1, 1) := by decide +kernel
theorem dX8_addStreet_34 : decode cX8_addStreet 34 = .ok (.if_icmp .lt 9, 3) := by decide +kernel
theorem dX8_addStreet_37 : decode cX8_addStreet 37 = .ok (.iload_n 3, 1) := by decide +kernel
theorem dX8_addStreet_38 : decode cX8_addStreet 38 = .ok (.bipush 60, 2) := by decide +kernel
theorem dX8_addStreet_40 : decode cX8_addStreet 40 = .ok (.if_icmp .le 5, 3) := by decide +kernel
theorem dX8_addStreet_43 : decode cX8_addStreet 43 = .ok (.iconst (-1), 1) := by decide +kernel
theorem dX8_addStreet_44 : decode cX8_addStreet 44 = .ok (.ireturn, 1) := by decide +kernel
theorem dX8_addStreet_45 : decode cX8_addStreet 45 = .ok (.aload_n 0, 1) := by decide +kernel
theorem dX8_addStreet_46 : decode cX8_addStreet 46 = .ok (.getfield 44, 3) := by decide +kernel
theorem dX8_addStreet_49 : decode cX8_addStreet 49 = .ok (.istore 5, 2) := by decide +kernel
theorem dX8_addStreet_51 : decode cX8_addStreet 51 = .ok (.aload_n 0, 1) := by decide +kernel
theorem dX8_addStreet_52 : decode cX8_addStreet 52 = .ok (.dup, 1) := by decide +kernel
theorem dX8_addStreet_53 : decode cX8_addStreet 53 = .ok (.getfield 44, 3) := by decide +kernel
theorem dX8_addStreet_56 : decode cX8_addStreet 56 = .ok (.iconst 1, 1) := by decide +kernel
theorem dX8_addStreet_57 : decode cX8_addStreet 57 = .ok (.iadd, 1) := by decide +kernel
theorem dX8_addStreet_58 : decode cX8_addStreet 58 = .ok (.putfield 44, 3) := by decide +kernel
theorem dX8_addStreet_61 : decode cX8_addStreet 61 = .ok (.aload_n 0, 1) := by decide +kernel
theorem dX8_addStreet_62 : decode cX8_addStreet 62 = .ok (.getfield 11, 3) := by decide +kernel
theorem dX8_addStreet_65 : decode cX8_addStreet 65 = .ok (.iload 5, 2) := by decide +kernel
theorem dX8_addStreet_67 : decode cX8_addStreet 67 = .ok (.iload_n 1, 1) := by decide +kernel
theorem dX8_addStreet_68 : decode cX8_addStreet 68 = .ok (.iastore, 1) := by decide +kernel
theorem dX8_addStreet_69 : decode cX8_addStreet 69 = .ok (.aload_n 0, 1) := by decide +kernel
theorem dX8_addStreet_70 : decode cX8_addStreet 70 = .ok (.getfield 15, 3) := by decide +kernel
theorem dX8_addStreet_73 : decode cX8_addStreet 73 = .ok (.iload 5, 2) := by decide +kernel
theorem dX8_addStreet_75 : decode cX8_addStreet 75 = .ok (.iload_n 2, 1) := by decide +kernel
theorem dX8_addStreet_76 : decode cX8_addStreet 76 = .ok (.iastore, 1) := by decide +kernel
theorem dX8_addStreet_77 : decode cX8_addStreet 77 = .ok (.aload_n 0, 1) := by decide +kernel
theorem dX8_addStreet_78 : decode cX8_addStreet 78 = .ok (.getfield 18, 3) := by decide +kernel
theorem dX8_addStreet_81 : decode cX8_addStreet 81 = .ok (.iload 5, 2) := by decide +kernel
theorem dX8_addStreet_83 : decode cX8_addStreet 83 = .ok (.iload_n 3, 1) := by decide +kernel
theorem dX8_addStreet_84 : decode cX8_addStreet 84 = .ok (.iastore, 1) := by decide +kernel
theorem dX8_addStreet_85 : decode cX8_addStreet 85 = .ok (.aload_n 0, 1) := by decide +kernel
theorem dX8_addStreet_86 : decode cX8_addStreet 86 = .ok (.getfield 21, 3) := by decide +kernel
theorem dX8_addStreet_89 : decode cX8_addStreet 89 = .ok (.iload 5, 2) := by decide +kernel
theorem dX8_addStreet_91 : decode cX8_addStreet 91 = .ok (.iload 4, 2) := by decide +kernel
theorem dX8_addStreet_93 : decode cX8_addStreet 93 = .ok (.bastore, 1) := by decide +kernel
theorem dX8_addStreet_94 : decode cX8_addStreet 94 = .ok (.aload_n 0, 1) := by decide +kernel
theorem dX8_addStreet_95 : decode cX8_addStreet 95 = .ok (.getfield 25, 3) := by decide +kernel
theorem dX8_addStreet_98 : decode cX8_addStreet 98 = .ok (.iload 5, 2) := by decide +kernel
theorem dX8_addStreet_100 : decode cX8_addStreet 100 = .ok (.aload_n 0, 1) := by decide +kernel
theorem dX8_addStreet_101 : decode cX8_addStreet 101 = .ok (.iload_n 1, 1) := by decide +kernel
theorem dX8_addStreet_102 : decode cX8_addStreet 102 = .ok (.iconst 2, 1) := by decide +kernel
theorem dX8_addStreet_103 : decode cX8_addStreet 103 = .ok (.iload 5, 2) := by decide +kernel
theorem dX8_addStreet_105 : decode cX8_addStreet 105 = .ok (.imul, 1) := by decide +kernel
theorem dX8_addStreet_106 : decode cX8_addStreet 106 = .ok (.invokevirtual 67, 3) := by decide +kernel
theorem dX8_addStreet_109 : decode cX8_addStreet 109 = .ok (.iastore, 1) := by decide +kernel
theorem dX8_addStreet_110 : decode cX8_addStreet 110 = .ok (.aload_n 0, 1) := by decide +kernel
theorem dX8_addStreet_111 : decode cX8_addStreet 111 = .ok (.getfield 28, 3) := by decide +kernel
theorem dX8_addStreet_114 : decode cX8_addStreet 114 = .ok (.iload 5, 2) := by decide +kernel
theorem dX8_addStreet_116 : decode cX8_addStreet 116 = .ok (.aload_n 0, 1) := by decide +kernel
theorem dX8_addStreet_117 : decode cX8_addStreet 117 = .ok (.iload_n 2, 1) := by decide +kernel
theorem dX8_addStreet_118 : decode cX8_addStreet 118 = .ok (.iconst 2, 1) := by decide +kernel
theorem dX8_addStreet_119 : decode cX8_addStreet 119 = .ok (.iload 5, 2) := by decide +kernel
theorem dX8_addStreet_121 : decode cX8_addStreet 121 = .ok (.imul, 1) := by decide +kernel
theorem dX8_addStreet_122 : decode cX8_addStreet 122 = .ok (.iconst 1, 1) := by decide +kernel
theorem dX8_addStreet_123 : decode cX8_addStreet 123 = .ok (.iadd, 1) := by decide +kernel
theorem dX8_addStreet_124 : decode cX8_addStreet 124 = .ok (.invokevirtual 67, 3) := by decide +kernel
theorem dX8_addStreet_127 : decode cX8_addStreet 127 = .ok (.iastore, 1) := by decide +kernel
theorem dX8_addStreet_128 : decode cX8_addStreet 128 = .ok (.aload_n 0, 1) := by decide +kernel
theorem dX8_addStreet_129 : decode cX8_addStreet 129 = .ok (.iload_n 1, 1) := by decide +kernel
theorem dX8_addStreet_130 : decode cX8_addStreet 130 = .ok (.iload_n 2, 1) := by decide +kernel
theorem dX8_addStreet_131 : decode cX8_addStreet 131 = .ok (.iload_n 3, 1) := by decide +kernel
theorem dX8_addStreet_132 : decode cX8_addStreet 132 = .ok (.invokevirtual 71, 3) := by decide +kernel
theorem dX8_addStreet_135 : decode cX8_addStreet 135 = .ok (.iload 5, 2) := by decide +kernel
theorem dX8_addStreet_137 : decode cX8_addStreet 137 = .ok (.ireturn, 1) := by decide +kernel
theorem dX8_layAround_0 : decode cX8_layAround 0 = .ok (.aload_n 0, 1) := by decide +kernel
theorem dX8_layAround_1 : decode cX8_layAround 1 = .ok (.getfield 31, 3) := by decide +kernel
theorem dX8_layAround_4 : decode cX8_layAround 4 = .ok (.iload_n 1, 1) := by decide +kernel
theorem dX8_layAround_5 : decode cX8_layAround 5 = .ok (.iaload, 1) := by decide +kernel
theorem dX8_layAround_6 : decode cX8_layAround 6 = .ok (.istore_n 3, 1) := by decide +kernel
theorem dX8_layAround_7 : decode cX8_layAround 7 = .ok (.aload_n 0, 1) := by decide +kernel
theorem dX8_layAround_8 : decode cX8_layAround 8 = .ok (.getfield 34, 3) := by decide +kernel
theorem dX8_layAround_11 : decode cX8_layAround 11 = .ok (.iload_n 1, 1) := by decide +kernel
theorem dX8_layAround_12 : decode cX8_layAround 12 = .ok (.bipush 16, 2) := by decide +kernel
theorem dX8_layAround_14 : decode cX8_layAround 14 = .ok (.imul, 1) := by decide +kernel
theorem dX8_layAround_15 : decode cX8_layAround 15 = .ok (.iload_n 3, 1) := by decide +kernel
theorem dX8_layAround_16 : decode cX8_layAround 16 = .ok (.iadd, 1) := by decide +kernel
theorem dX8_layAround_17 : decode cX8_layAround 17 = .ok (.iload_n 2, 1) := by decide +kernel
theorem dX8_layAround_18 : decode cX8_layAround 18 = .ok (.iastore, 1) := by decide +kernel
theorem dX8_layAround_19 : decode cX8_layAround 19 = .ok (.aload_n 0, 1) := by decide +kernel
theorem dX8_layAround_20 : decode cX8_layAround 20 = .ok (.getfield 31, 3) := by decide +kernel
theorem dX8_layAround_23 : decode cX8_layAround 23 = .ok (.iload_n 1, 1) := by decide +kernel
theorem dX8_layAround_24 : decode cX8_layAround 24 = .ok (.iload_n 3, 1) := by decide +kernel
theorem dX8_layAround_25 : decode cX8_layAround 25 = .ok (.iconst 1, 1) := by decide +kernel
theorem dX8_layAround_26 : decode cX8_layAround 26 = .ok (.iadd, 1) := by decide +kernel
theorem dX8_layAround_27 : decode cX8_layAround 27 = .ok (.iastore, 1) := by decide +kernel
theorem dX8_layAround_28 : decode cX8_layAround 28 = .ok (.iload_n 3, 1) := by decide +kernel
theorem dX8_layAround_29 : decode cX8_layAround 29 = .ok (.ireturn, 1) := by decide +kernel
theorem dX8_shortenFootWays_0 : decode cX8_shortenFootWays 0 = .ok (.iconst 0, 1) := by decide +kernel
theorem dX8_shortenFootWays_1 : decode cX8_shortenFootWays 1 = .ok (.istore 4, 2) := by decide +kernel
theorem dX8_shortenFootWays_3 : decode cX8_shortenFootWays 3 = .ok (.iload 4, 2) := by decide +kernel
theorem dX8_shortenFootWays_5 : decode cX8_shortenFootWays 5 = .ok (.aload_n 0, 1) := by decide +kernel
theorem dX8_shortenFootWays_6 : decode cX8_shortenFootWays 6 = .ok (.getfield 40, 3) := by decide +kernel
theorem dX8_shortenFootWays_9 : decode cX8_shortenFootWays 9 = .ok (.if_icmp .ge 108, 3) := by decide +kernel
theorem dX8_shortenFootWays_12 : decode cX8_shortenFootWays 12 = .ok (.aload_n 0, 1) := by decide +kernel
theorem dX8_shortenFootWays_13 : decode cX8_shortenFootWays 13 = .ok (.iload 4, 2) := by decide +kernel
theorem dX8_shortenFootWays_15 : decode cX8_shortenFootWays 15 = .ok (.iload_n 1, 1) := by decide +kernel
theorem dX8_shortenFootWays_16 : decode cX8_shortenFootWays 16 = .ok (.invokevirtual 75, 3) := by decide +kernel
theorem dX8_shortenFootWays_19 : decode cX8_shortenFootWays 19 = .ok (.istore 5, 2) := by decide +kernel
theorem dX8_shortenFootWays_21 : decode cX8_shortenFootWays 21 = .ok (.aload_n 0, 1) := by decide +kernel
theorem dX8_shortenFootWays_22 : decode cX8_shortenFootWays 22 = .ok (.iload 4, 2) := by decide +kernel
theorem dX8_shortenFootWays_24 : decode cX8_shortenFootWays 24 = .ok (.iload_n 2, 1) := by decide +kernel
theorem dX8_shortenFootWays_25 : decode cX8_shortenFootWays 25 = .ok (.invokevirtual 75, 3) := by decide +kernel
theorem dX8_shortenFootWays_28 : decode cX8_shortenFootWays 28 = .ok (.istore 6, 2) := by decide +kernel
theorem dX8_shortenFootWays_30 : decode cX8_shortenFootWays 30 = .ok (.iconst 0, 1) := by decide +kernel
theorem dX8_shortenFootWays_31 : decode cX8_shortenFootWays 31 = .ok (.istore 7, 2) := by decide +kernel
theorem dX8_shortenFootWays_33 : decode cX8_shortenFootWays 33 = .ok (.iload 7, 2) := by decide +kernel
theorem dX8_shortenFootWays_35 : decode cX8_shortenFootWays 35 = .ok (.aload_n 0, 1) := by decide +kernel
theorem dX8_shortenFootWays_36 : decode cX8_shortenFootWays 36 = .ok (.getfield 40, 3) := by decide +kernel
theorem dX8_shortenFootWays_39 : decode cX8_shortenFootWays 39 = .ok (.if_icmp .ge 72, 3) := by decide +kernel
theorem dX8_shortenFootWays_42 : decode cX8_shortenFootWays 42 = .ok (.iload 5, 2) := by decide +kernel
theorem dX8_shortenFootWays_44 : decode cX8_shortenFootWays 44 = .ok (.iload_n 3, 1) := by decide +kernel
theorem dX8_shortenFootWays_45 : decode cX8_shortenFootWays 45 = .ok (.iadd, 1) := by decide +kernel
theorem dX8_shortenFootWays_46 : decode cX8_shortenFootWays 46 = .ok (.aload_n 0, 1) := by decide +kernel
theorem dX8_shortenFootWays_47 : decode cX8_shortenFootWays 47 = .ok (.iload_n 2, 1) := by decide +kernel
theorem dX8_shortenFootWays_48 : decode cX8_shortenFootWays 48 = .ok (.iload 7, 2) := by decide +kernel
theorem dX8_shortenFootWays_50 : decode cX8_shortenFootWays 50 = .ok (.invokevirtual 75, 3) := by decide +kernel
theorem dX8_shortenFootWays_53 : decode cX8_shortenFootWays 53 = .ok (.iadd, 1) := by decide +kernel
theorem dX8_shortenFootWays_54 : decode cX8_shortenFootWays 54 = .ok (.istore 8, 2) := by decide +kernel
theorem dX8_shortenFootWays_56 : decode cX8_shortenFootWays 56 = .ok (.iload 6, 2) := by decide +kernel
theorem dX8_shortenFootWays_58 : decode cX8_shortenFootWays 58 = .ok (.iload_n 3, 1) := by decide +kernel
theorem dX8_shortenFootWays_59 : decode cX8_shortenFootWays 59 = .ok (.iadd, 1) := by decide +kernel
theorem dX8_shortenFootWays_60 : decode cX8_shortenFootWays 60 = .ok (.aload_n 0, 1) := by decide +kernel
theorem dX8_shortenFootWays_61 : decode cX8_shortenFootWays 61 = .ok (.iload_n 1, 1) := by decide +kernel
theorem dX8_shortenFootWays_62 : decode cX8_shortenFootWays 62 = .ok (.iload 7, 2) := by decide +kernel
theorem dX8_shortenFootWays_64 : decode cX8_shortenFootWays 64 = .ok (.invokevirtual 75, 3) := by decide +kernel
theorem dX8_shortenFootWays_67 : decode cX8_shortenFootWays 67 = .ok (.iadd, 1) := by decide +kernel
theorem dX8_shortenFootWays_68 : decode cX8_shortenFootWays 68 = .ok (.istore 9, 2) := by decide +kernel
theorem dX8_shortenFootWays_70 : decode cX8_shortenFootWays 70 = .ok (.aload_n 0, 1) := by decide +kernel
theorem dX8_shortenFootWays_71 : decode cX8_shortenFootWays 71 = .ok (.iload 4, 2) := by decide +kernel
theorem dX8_shortenFootWays_73 : decode cX8_shortenFootWays 73 = .ok (.iload 7, 2) := by decide +kernel
theorem dX8_shortenFootWays_75 : decode cX8_shortenFootWays 75 = .ok (.invokevirtual 75, 3) := by decide +kernel
theorem dX8_shortenFootWays_78 : decode cX8_shortenFootWays 78 = .ok (.iload 8, 2) := by decide +kernel
theorem dX8_shortenFootWays_80 : decode cX8_shortenFootWays 80 = .ok (.iload 9, 2) := by decide +kernel
theorem dX8_shortenFootWays_82 : decode cX8_shortenFootWays 82 = .ok (.invokestatic 78, 3) := by decide +kernel
theorem dX8_shortenFootWays_85 : decode cX8_shortenFootWays 85 = .ok (.invokestatic 78, 3) := by decide +kernel
theorem dX8_shortenFootWays_88 : decode cX8_shortenFootWays 88 = .ok (.istore 10, 2) := by decide +kernel
theorem dX8_shortenFootWays_90 : decode cX8_shortenFootWays 90 = .ok (.aload_n 0, 1) := by decide +kernel
theorem dX8_shortenFootWays_91 : decode cX8_shortenFootWays 91 = .ok (.getfield 37, 3) := by decide +kernel
theorem dX8_shortenFootWays_94 : decode cX8_shortenFootWays 94 = .ok (.iload 4, 2) := by decide +kernel
theorem dX8_shortenFootWays_96 : decode cX8_shortenFootWays 96 = .ok (.bipush 8, 2) := by decide +kernel
theorem dX8_shortenFootWays_98 : decode cX8_shortenFootWays 98 = .ok (.imul, 1) := by decide +kernel
theorem dX8_shortenFootWays_99 : decode cX8_shortenFootWays 99 = .ok (.iload 7, 2) := by decide +kernel
theorem dX8_shortenFootWays_101 : decode cX8_shortenFootWays 101 = .ok (.iadd, 1) := by decide +kernel
theorem dX8_shortenFootWays_102 : decode cX8_shortenFootWays 102 = .ok (.iload 10, 2) := by decide +kernel
theorem dX8_shortenFootWays_104 : decode cX8_shortenFootWays 104 = .ok (.iastore, 1) := by decide +kernel
theorem dX8_shortenFootWays_105 : decode cX8_shortenFootWays 105 = .ok (.iinc 7 1, 3) := by decide +kernel
theorem dX8_shortenFootWays_108 : decode cX8_shortenFootWays 108 = .ok (.goto (-75), 3) := by decide +kernel
theorem dX8_shortenFootWays_111 : decode cX8_shortenFootWays 111 = .ok (.iinc 4 1, 3) := by decide +kernel
theorem dX8_shortenFootWays_114 : decode cX8_shortenFootWays 114 = .ok (.goto (-111), 3) := by decide +kernel
theorem dX8_shortenFootWays_117 : decode cX8_shortenFootWays 117 = .ok (.return_, 1) := by decide +kernel
theorem dX8_footMinutes_0 : decode cX8_footMinutes 0 = .ok (.aload_n 0, 1) := by decide +kernel
theorem dX8_footMinutes_1 : decode cX8_footMinutes 1 = .ok (.getfield 37, 3) := by decide +kernel
theorem dX8_footMinutes_4 : decode cX8_footMinutes 4 = .ok (.iload_n 1, 1) := by decide +kernel
theorem dX8_footMinutes_5 : decode cX8_footMinutes 5 = .ok (.bipush 8, 2) := by decide +kernel
theorem dX8_footMinutes_7 : decode cX8_footMinutes 7 = .ok (.imul, 1) := by decide +kernel
theorem dX8_footMinutes_8 : decode cX8_footMinutes 8 = .ok (.iload_n 2, 1) := by decide +kernel
theorem dX8_footMinutes_9 : decode cX8_footMinutes 9 = .ok (.iadd, 1) := by decide +kernel
theorem dX8_footMinutes_10 : decode cX8_footMinutes 10 = .ok (.iaload, 1) := by decide +kernel
theorem dX8_footMinutes_11 : decode cX8_footMinutes 11 = .ok (.ireturn, 1) := by decide +kernel
theorem dX8_touches_0 : decode cX8_touches 0 = .ok (.aload_n 0, 1) := by decide +kernel
theorem dX8_touches_1 : decode cX8_touches 1 = .ok (.iload_n 1, 1) := by decide +kernel
theorem dX8_touches_2 : decode cX8_touches 2 = .ok (.invokevirtual 83, 3) := by decide +kernel
theorem dX8_touches_5 : decode cX8_touches 5 = .ok (.ifCond .eq 27, 3) := by decide +kernel
theorem dX8_touches_8 : decode cX8_touches 8 = .ok (.aload_n 0, 1) := by decide +kernel
theorem dX8_touches_9 : decode cX8_touches 9 = .ok (.getfield 11, 3) := by decide +kernel
theorem dX8_touches_12 : decode cX8_touches 12 = .ok (.iload_n 1, 1) := by decide +kernel
theorem dX8_touches_13 : decode cX8_touches 13 = .ok (.iaload, 1) := by decide +kernel
theorem dX8_touches_14 : decode cX8_touches 14 = .ok (.iload_n 2, 1) := by decide +kernel
theorem dX8_touches_15 : decode cX8_touches 15 = .ok (.if_icmp .eq 13, 3) := by decide +kernel
theorem dX8_touches_18 : decode cX8_touches 18 = .ok (.aload_n 0, 1) := by decide +kernel
theorem dX8_touches_19 : decode cX8_touches 19 = .ok (.getfield 15, 3) := by decide +kernel
theorem dX8_touches_22 : decode cX8_touches 22 = .ok (.iload_n 1, 1) := by decide +kernel
theorem dX8_touches_23 : decode cX8_touches 23 = .ok (.iaload, 1) := by decide +kernel
theorem dX8_touches_24 : decode cX8_touches 24 = .ok (.iload_n 2, 1) := by decide +kernel
theorem dX8_touches_25 : decode cX8_touches 25 = .ok (.if_icmp .ne 7, 3) := by decide +kernel
theorem dX8_touches_28 : decode cX8_touches 28 = .ok (.iconst 1, 1) := by decide +kernel
theorem dX8_touches_29 : decode cX8_touches 29 = .ok (.goto 4, 3) := by decide +kernel
theorem dX8_touches_32 : decode cX8_touches 32 = .ok (.iconst 0, 1) := by decide +kernel
theorem dX8_touches_33 : decode cX8_touches 33 = .ok (.ireturn, 1) := by decide +kernel
theorem dX8_degree_0 : decode cX8_degree 0 = .ok (.aload_n 0, 1) := by decide +kernel
theorem dX8_degree_1 : decode cX8_degree 1 = .ok (.getfield 31, 3) := by decide +kernel
theorem dX8_degree_4 : decode cX8_degree 4 = .ok (.iload_n 1, 1) := by decide +kernel
theorem dX8_degree_5 : decode cX8_degree 5 = .ok (.iaload, 1) := by decide +kernel
theorem dX8_degree_6 : decode cX8_degree 6 = .ok (.ireturn, 1) := by decide +kernel
theorem dX8_laneAround_0 : decode cX8_laneAround 0 = .ok (.aload_n 0, 1) := by decide +kernel
theorem dX8_laneAround_1 : decode cX8_laneAround 1 = .ok (.getfield 34, 3) := by decide +kernel
theorem dX8_laneAround_4 : decode cX8_laneAround 4 = .ok (.iload_n 1, 1) := by decide +kernel
theorem dX8_laneAround_5 : decode cX8_laneAround 5 = .ok (.bipush 16, 2) := by decide +kernel
theorem dX8_laneAround_7 : decode cX8_laneAround 7 = .ok (.imul, 1) := by decide +kernel
theorem dX8_laneAround_8 : decode cX8_laneAround 8 = .ok (.iload_n 2, 1) := by decide +kernel
theorem dX8_laneAround_9 : decode cX8_laneAround 9 = .ok (.iadd, 1) := by decide +kernel
theorem dX8_laneAround_10 : decode cX8_laneAround 10 = .ok (.iaload, 1) := by decide +kernel
theorem dX8_laneAround_11 : decode cX8_laneAround 11 = .ok (.ireturn, 1) := by decide +kernel
theorem dX8_lengthOf_0 : decode cX8_lengthOf 0 = .ok (.aload_n 0, 1) := by decide +kernel
theorem dX8_lengthOf_1 : decode cX8_lengthOf 1 = .ok (.getfield 18, 3) := by decide +kernel
theorem dX8_lengthOf_4 : decode cX8_lengthOf 4 = .ok (.iload_n 1, 1) := by decide +kernel
theorem dX8_lengthOf_5 : decode cX8_lengthOf 5 = .ok (.iaload, 1) := by decide +kernel
theorem dX8_lengthOf_6 : decode cX8_lengthOf 6 = .ok (.ireturn, 1) := by decide +kernel
theorem dX8_laneEnd_0 : decode cX8_laneEnd 0 = .ok (.iload_n 1, 1) := by decide +kernel
theorem dX8_laneEnd_1 : decode cX8_laneEnd 1 = .ok (.iconst 2, 1) := by decide +kernel
theorem dX8_laneEnd_2 : decode cX8_laneEnd 2 = .ok (.irem, 1) := by decide +kernel
theorem dX8_laneEnd_3 : decode cX8_laneEnd 3 = .ok (.ifCond .ne 14, 3) := by decide +kernel
theorem dX8_laneEnd_6 : decode cX8_laneEnd 6 = .ok (.aload_n 0, 1) := by decide +kernel
theorem dX8_laneEnd_7 : decode cX8_laneEnd 7 = .ok (.getfield 15, 3) := by decide +kernel
theorem dX8_laneEnd_10 : decode cX8_laneEnd 10 = .ok (.iload_n 1, 1) := by decide +kernel
theorem dX8_laneEnd_11 : decode cX8_laneEnd 11 = .ok (.iconst 2, 1) := by decide +kernel
theorem dX8_laneEnd_12 : decode cX8_laneEnd 12 = .ok (.idiv, 1) := by decide +kernel
theorem dX8_laneEnd_13 : decode cX8_laneEnd 13 = .ok (.iaload, 1) := by decide +kernel
theorem dX8_laneEnd_14 : decode cX8_laneEnd 14 = .ok (.goto 11, 3) := by decide +kernel
theorem dX8_laneEnd_17 : decode cX8_laneEnd 17 = .ok (.aload_n 0, 1) := by decide +kernel
theorem dX8_laneEnd_18 : decode cX8_laneEnd 18 = .ok (.getfield 11, 3) := by decide +kernel
theorem dX8_laneEnd_21 : decode cX8_laneEnd 21 = .ok (.iload_n 1, 1) := by decide +kernel
theorem dX8_laneEnd_22 : decode cX8_laneEnd 22 = .ok (.iconst 2, 1) := by decide +kernel
theorem dX8_laneEnd_23 : decode cX8_laneEnd 23 = .ok (.idiv, 1) := by decide +kernel
theorem dX8_laneEnd_24 : decode cX8_laneEnd 24 = .ok (.iaload, 1) := by decide +kernel
theorem dX8_laneEnd_25 : decode cX8_laneEnd 25 = .ok (.ireturn, 1) := by decide +kernel
theorem dX8_isOpen_0 : decode cX8_isOpen 0 = .ok (.iload_n 1, 1) := by decide +kernel
theorem dX8_isOpen_1 : decode cX8_isOpen 1 = .ok (.iconst 2, 1) := by decide +kernel
theorem dX8_isOpen_2 : decode cX8_isOpen 2 = .ok (.irem, 1) := by decide +kernel
theorem dX8_isOpen_3 : decode cX8_isOpen 3 = .ok (.iconst 1, 1) := by decide +kernel
theorem dX8_isOpen_4 : decode cX8_isOpen 4 = .ok (.if_icmp .ne 7, 3) := by decide +kernel
theorem dX8_isOpen_7 : decode cX8_isOpen 7 = .ok (.iconst 1, 1) := by decide +kernel
theorem dX8_isOpen_8 : decode cX8_isOpen 8 = .ok (.goto 4, 3) := by decide +kernel
theorem dX8_isOpen_11 : decode cX8_isOpen 11 = .ok (.iconst 0, 1) := by decide +kernel
theorem dX8_isOpen_12 : decode cX8_isOpen 12 = .ok (.istore_n 3, 1) := by decide +kernel
theorem dX8_isOpen_13 : decode cX8_isOpen 13 = .ok (.aload_n 0, 1) := by decide +kernel
theorem dX8_isOpen_14 : decode cX8_isOpen 14 = .ok (.getfield 21, 3) := by decide +kernel
theorem dX8_isOpen_17 : decode cX8_isOpen 17 = .ok (.iload_n 1, 1) := by decide +kernel
theorem dX8_isOpen_18 : decode cX8_isOpen 18 = .ok (.iconst 2, 1) := by decide +kernel
theorem dX8_isOpen_19 : decode cX8_isOpen 19 = .ok (.idiv, 1) := by decide +kernel
theorem dX8_isOpen_20 : decode cX8_isOpen 20 = .ok (.baload, 1) := by decide +kernel
theorem dX8_isOpen_21 : decode cX8_isOpen 21 = .ok (.ifCond .ne 12, 3) := by decide +kernel
theorem dX8_isOpen_24 : decode cX8_isOpen 24 = .ok (.iload_n 3, 1) := by decide +kernel
theorem dX8_isOpen_25 : decode cX8_isOpen 25 = .ok (.aload_n 0, 1) := by decide +kernel
theorem dX8_isOpen_26 : decode cX8_isOpen 26 = .ok (.iload_n 2, 1) := by decide +kernel
theorem dX8_isOpen_27 : decode cX8_isOpen 27 = .ok (.invokevirtual 86, 3) := by decide +kernel
theorem dX8_isOpen_30 : decode cX8_isOpen 30 = .ok (.if_icmp .ne 7, 3) := by decide +kernel
theorem dX8_isOpen_33 : decode cX8_isOpen 33 = .ok (.iconst 1, 1) := by decide +kernel
theorem dX8_isOpen_34 : decode cX8_isOpen 34 = .ok (.goto 4, 3) := by decide +kernel
theorem dX8_isOpen_37 : decode cX8_isOpen 37 = .ok (.iconst 0, 1) := by decide +kernel
theorem dX8_isOpen_38 : decode cX8_isOpen 38 = .ok (.ireturn, 1) := by decide +kernel
theorem dX8_isOnRight_0 : decode cX8_isOnRight 0 = .ok (.iload_n 1, 1) := by decide +kernel
theorem dX8_isOnRight_1 : decode cX8_isOnRight 1 = .ok (.aload_n 0, 1) := by decide +kernel
theorem dX8_isOnRight_2 : decode cX8_isOnRight 2 = .ok (.getfield 47, 3) := by decide +kernel
theorem dX8_isOnRight_5 : decode cX8_isOnRight 5 = .ok (.if_icmp .lt 7, 3) := by decide +kernel
theorem dX8_isOnRight_8 : decode cX8_isOnRight 8 = .ok (.iconst 1, 1) := by decide +kernel
theorem dX8_isOnRight_9 : decode cX8_isOnRight 9 = .ok (.goto 4, 3) := by decide +kernel
theorem dX8_isOnRight_12 : decode cX8_isOnRight 12 = .ok (.iconst 0, 1) := by decide +kernel
theorem dX8_isOnRight_13 : decode cX8_isOnRight 13 = .ok (.ireturn, 1) := by decide +kernel
theorem dX8_nearStep_0 : decode cX8_nearStep 0 = .ok (.aload_n 0, 1) := by decide +kernel
theorem dX8_nearStep_1 : decode cX8_nearStep 1 = .ok (.iload_n 2, 1) := by decide +kernel
theorem dX8_nearStep_2 : decode cX8_nearStep 2 = .ok (.invokevirtual 86, 3) := by decide +kernel
theorem dX8_nearStep_5 : decode cX8_nearStep 5 = .ok (.ifCond .eq 14, 3) := by decide +kernel
theorem dX8_nearStep_8 : decode cX8_nearStep 8 = .ok (.aload_n 0, 1) := by decide +kernel
theorem dX8_nearStep_9 : decode cX8_nearStep 9 = .ok (.getfield 31, 3) := by decide +kernel
theorem dX8_nearStep_12 : decode cX8_nearStep 12 = .ok (.iload_n 1, 1) := by decide +kernel
theorem dX8_nearStep_13 : decode cX8_nearStep 13 = .ok (.iaload, 1) := by decide +kernel
theorem dX8_nearStep_14 : decode cX8_nearStep 14 = .ok (.iconst 1, 1) := by decide +kernel
theorem dX8_nearStep_15 : decode cX8_nearStep 15 = .ok (.isub, 1) := by decide +kernel
theorem dX8_nearStep_16 : decode cX8_nearStep 16 = .ok (.goto 4, 3) := by decide +kernel
theorem dX8_nearStep_19 : decode cX8_nearStep 19 = .ok (.iconst 1, 1) := by decide +kernel
theorem dX8_nearStep_20 : decode cX8_nearStep 20 = .ok (.ireturn, 1) := by decide +kernel
theorem dX8_isNear_0 : decode cX8_isNear 0 = .ok (.aload_n 0, 1) := by decide +kernel
theorem dX8_isNear_1 : decode cX8_isNear 1 = .ok (.iload_n 1, 1) := by decide +kernel
theorem dX8_isNear_2 : decode cX8_isNear 2 = .ok (.iload_n 3, 1) := by decide +kernel
theorem dX8_isNear_3 : decode cX8_isNear 3 = .ok (.invokevirtual 89, 3) := by decide +kernel
theorem dX8_isNear_6 : decode cX8_isNear 6 = .ok (.aload_n 0, 1) := by decide +kernel
theorem dX8_isNear_7 : decode cX8_isNear 7 = .ok (.iload_n 1, 1) := by decide +kernel
theorem dX8_isNear_8 : decode cX8_isNear 8 = .ok (.iload_n 2, 1) := by decide +kernel
theorem dX8_isNear_9 : decode cX8_isNear 9 = .ok (.invokevirtual 89, 3) := by decide +kernel
theorem dX8_isNear_12 : decode cX8_isNear 12 = .ok (.isub, 1) := by decide +kernel
theorem dX8_isNear_13 : decode cX8_isNear 13 = .ok (.istore 5, 2) := by decide +kernel
theorem dX8_isNear_15 : decode cX8_isNear 15 = .ok (.iload 5, 2) := by decide +kernel
theorem dX8_isNear_17 : decode cX8_isNear 17 = .ok (.ifCond .ge 14, 3) := by decide +kernel
theorem dX8_isNear_20 : decode cX8_isNear 20 = .ok (.iload 5, 2) := by decide +kernel
theorem dX8_isNear_22 : decode cX8_isNear 22 = .ok (.aload_n 0, 1) := by decide +kernel
theorem dX8_isNear_23 : decode cX8_isNear 23 = .ok (.getfield 31, 3) := by decide +kernel
theorem dX8_isNear_26 : decode cX8_isNear 26 = .ok (.iload_n 1, 1) := by decide +kernel
theorem dX8_isNear_27 : decode cX8_isNear 27 = .ok (.iaload, 1) := by decide +kernel
theorem dX8_isNear_28 : decode cX8_isNear 28 = .ok (.iadd, 1) := by decide +kernel
theorem dX8_isNear_29 : decode cX8_isNear 29 = .ok (.istore 5, 2) := by decide +kernel
theorem dX8_isNear_31 : decode cX8_isNear 31 = .ok (.iload 5, 2) := by decide +kernel
theorem dX8_isNear_33 : decode cX8_isNear 33 = .ok (.aload_n 0, 1) := by decide +kernel
theorem dX8_isNear_34 : decode cX8_isNear 34 = .ok (.iload_n 1, 1) := by decide +kernel
theorem dX8_isNear_35 : decode cX8_isNear 35 = .ok (.iload 4, 2) := by decide +kernel
theorem dX8_isNear_37 : decode cX8_isNear 37 = .ok (.invokevirtual 92, 3) := by decide +kernel
theorem dX8_isNear_40 : decode cX8_isNear 40 = .ok (.if_icmp .ne 7, 3) := by decide +kernel
theorem dX8_isNear_43 : decode cX8_isNear 43 = .ok (.iconst 1, 1) := by decide +kernel
theorem dX8_isNear_44 : decode cX8_isNear 44 = .ok (.goto 4, 3) := by decide +kernel
theorem dX8_isNear_47 : decode cX8_isNear 47 = .ok (.iconst 0, 1) := by decide +kernel
theorem dX8_isNear_48 : decode cX8_isNear 48 = .ok (.ireturn, 1) := by decide +kernel
theorem dX8_placeAt_0 : decode cX8_placeAt 0 = .ok (.aload_n 0, 1) := by decide +kernel
theorem dX8_placeAt_1 : decode cX8_placeAt 1 = .ok (.getfield 11, 3) := by decide +kernel
theorem dX8_placeAt_4 : decode cX8_placeAt 4 = .ok (.iload_n 2, 1) := by decide +kernel
theorem dX8_placeAt_5 : decode cX8_placeAt 5 = .ok (.iaload, 1) := by decide +kernel
theorem dX8_placeAt_6 : decode cX8_placeAt 6 = .ok (.iload_n 1, 1) := by decide +kernel
theorem dX8_placeAt_7 : decode cX8_placeAt 7 = .ok (.if_icmp .ne 12, 3) := by decide +kernel
theorem dX8_placeAt_10 : decode cX8_placeAt 10 = .ok (.aload_n 0, 1) := by decide +kernel
theorem dX8_placeAt_11 : decode cX8_placeAt 11 = .ok (.getfield 25, 3) := by decide +kernel
theorem dX8_placeAt_14 : decode cX8_placeAt 14 = .ok (.iload_n 2, 1) := by decide +kernel
theorem dX8_placeAt_15 : decode cX8_placeAt 15 = .ok (.iaload, 1) := by decide +kernel
theorem dX8_placeAt_16 : decode cX8_placeAt 16 = .ok (.goto 9, 3) := by decide +kernel
theorem dX8_placeAt_19 : decode cX8_placeAt 19 = .ok (.aload_n 0, 1) := by decide +kernel
theorem dX8_placeAt_20 : decode cX8_placeAt 20 = .ok (.getfield 28, 3) := by decide +kernel
theorem dX8_placeAt_23 : decode cX8_placeAt 23 = .ok (.iload_n 2, 1) := by decide +kernel
theorem dX8_placeAt_24 : decode cX8_placeAt 24 = .ok (.iaload, 1) := by decide +kernel
theorem dX8_placeAt_25 : decode cX8_placeAt 25 = .ok (.ireturn, 1) := by decide +kernel
theorem dX8_turnMinutes_0 : decode cX8_turnMinutes 0 = .ok (.iload_n 1, 1) := by decide +kernel
theorem dX8_turnMinutes_1 : decode cX8_turnMinutes 1 = .ok (.ifCond .eq 10, 3) := by decide +kernel
theorem dX8_turnMinutes_4 : decode cX8_turnMinutes 4 = .ok (.aload_n 0, 1) := by decide +kernel
theorem dX8_turnMinutes_5 : decode cX8_turnMinutes 5 = .ok (.getfield 50, 3) := by decide +kernel
theorem dX8_turnMinutes_8 : decode cX8_turnMinutes 8 = .ok (.goto 7, 3) := by decide +kernel
theorem dX8_turnMinutes_11 : decode cX8_turnMinutes 11 = .ok (.aload_n 0, 1) := by decide +kernel
theorem dX8_turnMinutes_12 : decode cX8_turnMinutes 12 = .ok (.getfield 53, 3) := by decide +kernel
theorem dX8_turnMinutes_15 : decode cX8_turnMinutes 15 = .ok (.ireturn, 1) := by decide +kernel
theorem dX9_init_0 : decode cX9_init 0 = .ok (.aload_n 0, 1) := by decide +kernel
theorem dX9_init_1 : decode cX9_init 1 = .ok (.invokespecial 1, 3) := by decide +kernel
theorem dX9_init_4 : decode cX9_init 4 = .ok (.aload_n 0, 1) := by decide +kernel
theorem dX9_init_5 : decode cX9_init 5 = .ok (.new 7, 3) := by decide +kernel
theorem dX9_init_8 : decode cX9_init 8 = .ok (.dup, 1) := by decide +kernel
theorem dX9_init_9 : decode cX9_init 9 = .ok (.invokespecial 9, 3) := by decide +kernel
theorem dX9_init_12 : decode cX9_init 12 = .ok (.putfield 10, 3) := by decide +kernel
theorem dX9_init_15 : decode cX9_init 15 = .ok (.aload_n 0, 1) := by decide +kernel
theorem dX9_init_16 : decode cX9_init 16 = .ok (.new 16, 3) := by decide +kernel
theorem dX9_init_19 : decode cX9_init 19 = .ok (.dup, 1) := by decide +kernel
theorem dX9_init_20 : decode cX9_init 20 = .ok (.invokespecial 18, 3) := by decide +kernel
theorem dX9_init_23 : decode cX9_init 23 = .ok (.putfield 19, 3) := by decide +kernel
theorem dX9_init_26 : decode cX9_init 26 = .ok (.aload_n 0, 1) := by decide +kernel
theorem dX9_init_27 : decode cX9_init 27 = .ok (.new 23, 3) := by decide +kernel
theorem dX9_init_30 : decode cX9_init 30 = .ok (.dup, 1) := by decide +kernel
theorem dX9_init_31 : decode cX9_init 31 = .ok (.invokespecial 25, 3) := by decide +kernel
theorem dX9_init_34 : decode cX9_init 34 = .ok (.putfield 26, 3) := by decide +kernel
theorem dX9_init_37 : decode cX9_init 37 = .ok (.aload_n 0, 1) := by decide +kernel
theorem dX9_init_38 : decode cX9_init 38 = .ok (.new 30, 3) := by decide +kernel
theorem dX9_init_41 : decode cX9_init 41 = .ok (.dup, 1) := by decide +kernel
theorem dX9_init_42 : decode cX9_init 42 = .ok (.aload_n 0, 1) := by decide +kernel
theorem dX9_init_43 : decode cX9_init 43 = .ok (.getfield 19, 3) := by decide +kernel
theorem dX9_init_46 : decode cX9_init 46 = .ok (.invokespecial 32, 3) := by decide +kernel
theorem dX9_init_49 : decode cX9_init 49 = .ok (.putfield 35, 3) := by decide +kernel
theorem dX9_init_52 : decode cX9_init 52 = .ok (.aload_n 0, 1) := by decide +kernel
theorem dX9_init_53 : decode cX9_init 53 = .ok (.new 39, 3) := by decide +kernel
theorem dX9_init_56 : decode cX9_init 56 = .ok (.dup, 1) := by decide +kernel
theorem dX9_init_57 : decode cX9_init 57 = .ok (.aload_n 0, 1) := by decide +kernel
theorem dX9_init_58 : decode cX9_init 58 = .ok (.getfield 10, 3) := by decide +kernel
theorem dX9_init_61 : decode cX9_init 61 = .ok (.aload_n 0, 1) := by decide +kernel
theorem dX9_init_62 : decode cX9_init 62 = .ok (.getfield 26, 3) := by decide +kernel
theorem dX9_init_65 : decode cX9_init 65 = .ok (.invokespecial 41, 3) := by decide +kernel
theorem dX9_init_68 : decode cX9_init 68 = .ok (.putfield 44, 3) := by decide +kernel
theorem dX9_init_71 : decode cX9_init 71 = .ok (.aload_n 0, 1) := by decide +kernel
theorem dX9_init_72 : decode cX9_init 72 = .ok (.new 48, 3) := by decide +kernel
theorem dX9_init_75 : decode cX9_init 75 = .ok (.dup, 1) := by decide +kernel
theorem dX9_init_76 : decode cX9_init 76 = .ok (.aload_n 0, 1) := by decide +kernel
theorem dX9_init_77 : decode cX9_init 77 = .ok (.getfield 10, 3) := by decide +kernel
theorem dX9_init_80 : decode cX9_init 80 = .ok (.invokespecial 50, 3) := by decide +kernel
theorem dX9_init_83 : decode cX9_init 83 = .ok (.putfield 53, 3) := by decide +kernel
theorem dX9_init_86 : decode cX9_init 86 = .ok (.aload_n 0, 1) := by decide +kernel
theorem dX9_init_87 : decode cX9_init 87 = .ok (.new 57, 3) := by decide +kernel
theorem dX9_init_90 : decode cX9_init 90 = .ok (.dup, 1) := by decide +kernel
theorem dX9_init_91 : decode cX9_init 91 = .ok (.invokespecial 59, 3) := by decide +kernel
theorem dX9_init_94 : decode cX9_init 94 = .ok (.putfield 60, 3) := by decide +kernel
theorem dX9_init_97 : decode cX9_init 97 = .ok (.return_, 1) := by decide +kernel
theorem dX9_crossing_0 : decode cX9_crossing 0 = .ok (.aload_n 0, 1) := by decide +kernel
theorem dX9_crossing_1 : decode cX9_crossing 1 = .ok (.getfield 10, 3) := by decide +kernel
theorem dX9_crossing_4 : decode cX9_crossing 4 = .ok (.invokevirtual 64, 3) := by decide +kernel
theorem dX9_crossing_7 : decode cX9_crossing 7 = .ok (.ireturn, 1) := by decide +kernel
theorem dX9_street_0 : decode cX9_street 0 = .ok (.aload_n 0, 1) := by decide +kernel
theorem dX9_street_1 : decode cX9_street 1 = .ok (.getfield 10, 3) := by decide +kernel
theorem dX9_street_4 : decode cX9_street 4 = .ok (.iload_n 1, 1) := by decide +kernel
theorem dX9_street_5 : decode cX9_street 5 = .ok (.iload_n 2, 1) := by decide +kernel
theorem dX9_street_6 : decode cX9_street 6 = .ok (.iload_n 3, 1) := by decide +kernel
theorem dX9_street_7 : decode cX9_street 7 = .ok (.iload 4, 2) := by decide +kernel
theorem dX9_street_9 : decode cX9_street 9 = .ok (.invokevirtual 68, 3) := by decide +kernel
theorem dX9_street_12 : decode cX9_street 12 = .ok (.istore 5, 2) := by decide +kernel
theorem dX9_street_14 : decode cX9_street 14 = .ok (.iload 5, 2) := by decide +kernel
theorem dX9_street_16 : decode cX9_street 16 = .ok (.iconst (-1), 1) := by decide +kernel
theorem dX9_street_17 : decode cX9_street 17 = .ok (.if_icmp .eq 17, 3) := by decide +kernel
theorem dX9_street_20 : decode cX9_street 20 = .ok (.aload_n 0, 1) := by decide +kernel
theorem dX9_street_21 : decode cX9_street 21 = .ok (.getfield 44, 3) := by decide +kernel
theorem dX9_street_24 : decode cX9_street 24 = .ok (.invokevirtual 72, 3) := by decide +kernel
theorem dX9_street_27 : decode cX9_street 27 = .ok (.aload_n 0, 1) := by decide +kernel
theorem dX9_street_28 : decode cX9_street 28 = .ok (.getfield 53, 3) := by decide +kernel
theorem dX9_street_31 : decode cX9_street 31 = .ok (.invokevirtual 75, 3) := by decide +kernel
theorem dX9_street_34 : decode cX9_street 34 = .ok (.iload 5, 2) := by decide +kernel
theorem dX9_street_36 : decode cX9_street 36 = .ok (.ireturn, 1) := by decide +kernel
theorem dX9_hour_0 : decode cX9_hour 0 = .ok (.iload_n 1, 1) := by decide +kernel
theorem dX9_hour_1 : decode cX9_hour 1 = .ok (.invokestatic 76, 3) := by decide +kernel
theorem dX9_hour_4 : decode cX9_hour 4 = .ok (.ifCond .ne 5, 3) := by decide +kernel
theorem dX9_hour_7 : decode cX9_hour 7 = .ok (.iconst 0, 1) := by decide +kernel
theorem dX9_hour_8 : decode cX9_hour 8 = .ok (.ireturn, 1) := by decide +kernel
theorem dX9_hour_9 : decode cX9_hour 9 = .ok (.aload_n 0, 1) := by decide +kernel
theorem dX9_hour_10 : decode cX9_hour 10 = .ok (.getfield 10, 3) := by decide +kernel
theorem dX9_hour_13 : decode cX9_hour 13 = .ok (.iload_n 1, 1) := by decide +kernel
theorem dX9_hour_14 : decode cX9_hour 14 = .ok (.invokevirtual 80, 3) := by decide +kernel
theorem dX9_hour_17 : decode cX9_hour 17 = .ok (.aload_n 0, 1) := by decide +kernel
theorem dX9_hour_18 : decode cX9_hour 18 = .ok (.getfield 44, 3) := by decide +kernel
theorem dX9_hour_21 : decode cX9_hour 21 = .ok (.invokevirtual 72, 3) := by decide +kernel
theorem dX9_hour_24 : decode cX9_hour 24 = .ok (.iconst 1, 1) := by decide +kernel
theorem dX9_hour_25 : decode cX9_hour 25 = .ok (.ireturn, 1) := by decide +kernel
theorem dX9_corners_0 : decode cX9_corners 0 = .ok (.iload_n 1, 1) := by decide +kernel
theorem dX9_corners_1 : decode cX9_corners 1 = .ok (.iconst 0, 1) := by decide +kernel
theorem dX9_corners_2 : decode cX9_corners 2 = .ok (.bipush 9, 2) := by decide +kernel
theorem dX9_corners_4 : decode cX9_corners 4 = .ok (.invokestatic 84, 3) := by decide +kernel
theorem dX9_corners_7 : decode cX9_corners 7 = .ok (.ifCond .eq 13, 3) := by decide +kernel
theorem dX9_corners_10 : decode cX9_corners 10 = .ok (.iload_n 2, 1) := by decide +kernel
theorem dX9_corners_11 : decode cX9_corners 11 = .ok (.iconst 0, 1) := by decide +kernel
theorem dX9_corners_12 : decode cX9_corners 12 = .ok (.bipush 9, 2) := by decide +kernel
theorem dX9_corners_14 : decode cX9_corners 14 = .ok (.invokestatic 84, 3) := by decide +kernel
theorem dX9_corners_17 : decode cX9_corners 17 = .ok (.ifCond .ne 5, 3) := by decide +kernel
theorem dX9_corners_20 : decode cX9_corners 20 = .ok (.iconst 0, 1) := by decide +kernel
theorem dX9_corners_21 : decode cX9_corners 21 = .ok (.ireturn, 1) := by decide +kernel
theorem dX9_corners_22 : decode cX9_corners 22 = .ok (.aload_n 0, 1) := by decide +kernel
theorem dX9_corners_23 : decode cX9_corners 23 = .ok (.getfield 10, 3) := by decide +kernel
theorem dX9_corners_26 : decode cX9_corners 26 = .ok (.iload_n 1, 1) := by decide +kernel
theorem dX9_corners_27 : decode cX9_corners 27 = .ok (.iload_n 2, 1) := by decide +kernel
theorem dX9_corners_28 : decode cX9_corners 28 = .ok (.invokevirtual 88, 3) := by decide +kernel
theorem dX9_corners_31 : decode cX9_corners 31 = .ok (.aload_n 0, 1) := by decide +kernel
theorem dX9_corners_32 : decode cX9_corners 32 = .ok (.getfield 44, 3) := by decide +kernel
theorem dX9_corners_35 : decode cX9_corners 35 = .ok (.invokevirtual 72, 3) := by decide +kernel
theorem dX9_corners_38 : decode cX9_corners 38 = .ok (.iconst 1, 1) := by decide +kernel
theorem dX9_corners_39 : decode cX9_corners 39 = .ok (.ireturn, 1) := by decide +kernel
theorem dX9_turn_0 : decode cX9_turn 0 = .ok (.iload 4, 2) := by decide +kernel
theorem dX9_turn_2 : decode cX9_turn 2 = .ok (.ifCond .lt 8, 3) := by decide +kernel
theorem dX9_turn_5 : decode cX9_turn 5 = .ok (.iload_n 2, 1) := by decide +kernel
theorem dX9_turn_6 : decode cX9_turn 6 = .ok (.iload_n 3, 1) := by decide +kernel
theorem dX9_turn_7 : decode cX9_turn 7 = .ok (.if_icmp .ne 5, 3) := by decide +kernel
theorem dX9_turn_10 : decode cX9_turn 10 = .ok (.iconst (-1), 1) := by decide +kernel
theorem dX9_turn_11 : decode cX9_turn 11 = .ok (.ireturn, 1) := by decide +kernel
theorem dX9_turn_12 : decode cX9_turn 12 = .ok (.aload_n 0, 1) := by decide +kernel
theorem dX9_turn_13 : decode cX9_turn 13 = .ok (.getfield 10, 3) := by decide +kernel
theorem dX9_turn_16 : decode cX9_turn 16 = .ok (.iload_n 2, 1) := by decide +kernel
theorem dX9_turn_17 : decode cX9_turn 17 = .ok (.iload_n 1, 1) := by decide +kernel
theorem dX9_turn_18 : decode cX9_turn 18 = .ok (.invokevirtual 92, 3) := by decide +kernel
theorem dX9_turn_21 : decode cX9_turn 21 = .ok (.ifCond .eq 15, 3) := by decide +kernel
theorem dX9_turn_24 : decode cX9_turn 24 = .ok (.aload_n 0, 1) := by decide +kernel
theorem dX9_turn_25 : decode cX9_turn 25 = .ok (.getfield 10, 3) := by decide +kernel
theorem dX9_turn_28 : decode cX9_turn 28 = .ok (.iload_n 3, 1) := by decide +kernel
theorem dX9_turn_29 : decode cX9_turn 29 = .ok (.iload_n 1, 1) := by decide +kernel
theorem dX9_turn_30 : decode cX9_turn 30 = .ok (.invokevirtual 92, 3) := by decide +kernel
theorem dX9_turn_33 : decode cX9_turn 33 = .ok (.ifCond .ne 5, 3) := by decide +kernel
theorem dX9_turn_36 : decode cX9_turn 36 = .ok (.iconst (-1), 1) := by decide +kernel
theorem dX9_turn_37 : decode cX9_turn 37 = .ok (.ireturn, 1) := by decide +kernel
theorem dX9_turn_38 : decode cX9_turn 38 = .ok (.aload_n 0, 1) := by decide +kernel
theorem dX9_turn_39 : decode cX9_turn 39 = .ok (.getfield 10, 3) := by decide +kernel
theorem dX9_turn_42 : decode cX9_turn 42 = .ok (.aload_n 0, 1) := by decide +kernel
theorem dX9_turn_43 : decode cX9_turn 43 = .ok (.getfield 10, 3) := by decide +kernel
theorem dX9_turn_46 : decode cX9_turn 46 = .ok (.iload_n 1, 1) := by decide +kernel
theorem dX9_turn_47 : decode cX9_turn 47 = .ok (.iload_n 2, 1) := by decide +kernel
theorem dX9_turn_48 : decode cX9_turn 48 = .ok (.iload_n 3, 1) := by decide +kernel
theorem dX9_turn_49 : decode cX9_turn 49 = .ok (.iload 4, 2) := by decide +kernel
theorem dX9_turn_51 : decode cX9_turn 51 = .ok (.invokevirtual 96, 3) := by decide +kernel
theorem dX9_turn_54 : decode cX9_turn 54 = .ok (.invokevirtual 100, 3) := by decide +kernel
theorem dX9_turn_57 : decode cX9_turn 57 = .ok (.ireturn, 1) := by decide +kernel
theorem dX9_feed_0 : decode cX9_feed 0 = .ok (.aload_n 0, 1) := by decide +kernel
theorem dX9_feed_1 : decode cX9_feed 1 = .ok (.getfield 19, 3) := by decide +kernel
theorem dX9_feed_4 : decode cX9_feed 4 = .ok (.bipush 20, 2) := by decide +kernel
theorem dX9_feed_6 : decode cX9_feed 6 = .ok (.invokevirtual 104, 3) := by decide +kernel
theorem dX9_feed_9 : decode cX9_feed 9 = .ok (.ifCond .ne 5, 3) := by decide +kernel
theorem dX9_feed_12 : decode cX9_feed 12 = .ok (.iconst (-1), 1) := by decide +kernel
theorem dX9_feed_13 : decode cX9_feed 13 = .ok (.ireturn, 1) := by decide +kernel
theorem dX9_feed_14 : decode cX9_feed 14 = .ok (.aload_n 0, 1) := by decide +kernel
theorem dX9_feed_15 : decode cX9_feed 15 = .ok (.getfield 19, 3) := by decide +kernel
theorem dX9_feed_18 : decode cX9_feed 18 = .ok (.iload_n 1, 1) := by decide +kernel
theorem dX9_feed_19 : decode cX9_feed 19 = .ok (.invokevirtual 107, 3) := by decide +kernel
theorem dX9_feed_22 : decode cX9_feed 22 = .ok (.aload_n 0, 1) := by decide +kernel
theorem dX9_feed_23 : decode cX9_feed 23 = .ok (.getfield 19, 3) := by decide +kernel
theorem dX9_feed_26 : decode cX9_feed 26 = .ok (.iload_n 2, 1) := by decide +kernel
theorem dX9_feed_27 : decode cX9_feed 27 = .ok (.invokevirtual 107, 3) := by decide +kernel
theorem dX9_feed_30 : decode cX9_feed 30 = .ok (.aload_n 0, 1) := by decide +kernel
theorem dX9_feed_31 : decode cX9_feed 31 = .ok (.getfield 19, 3) := by decide +kernel
theorem dX9_feed_34 : decode cX9_feed 34 = .ok (.iload_n 3, 1) := by decide +kernel
theorem dX9_feed_35 : decode cX9_feed 35 = .ok (.invokevirtual 107, 3) := by decide +kernel
theorem dX9_feed_38 : decode cX9_feed 38 = .ok (.aload_n 0, 1) := by decide +kernel
theorem dX9_feed_39 : decode cX9_feed 39 = .ok (.getfield 19, 3) := by decide +kernel
theorem dX9_feed_42 : decode cX9_feed 42 = .ok (.iload 4, 2) := by decide +kernel
theorem dX9_feed_44 : decode cX9_feed 44 = .ok (.invokevirtual 107, 3) := by decide +kernel
theorem dX9_feed_47 : decode cX9_feed 47 = .ok (.aload_n 0, 1) := by decide +kernel
theorem dX9_feed_48 : decode cX9_feed 48 = .ok (.getfield 19, 3) := by decide +kernel
theorem dX9_feed_51 : decode cX9_feed 51 = .ok (.iload 5, 2) := by decide +kernel
theorem dX9_feed_53 : decode cX9_feed 53 = .ok (.invokevirtual 107, 3) := by decide +kernel
theorem dX9_feed_56 : decode cX9_feed 56 = .ok (.aload_n 0, 1) := by decide +kernel
theorem dX9_feed_57 : decode cX9_feed 57 = .ok (.getfield 19, 3) := by decide +kernel
theorem dX9_feed_60 : decode cX9_feed 60 = .ok (.invokevirtual 110, 3) := by decide +kernel
theorem dX9_feed_63 : decode cX9_feed 63 = .ok (.ireturn, 1) := by decide +kernel
theorem dX9_end_0 : decode cX9_end 0 = .ok (.iload_n 1, 1) := by decide +kernel
theorem dX9_end_1 : decode cX9_end 1 = .ok (.ifCond .lt 14, 3) := by decide +kernel
theorem dX9_end_4 : decode cX9_end 4 = .ok (.iload_n 1, 1) := by decide +kernel
theorem dX9_end_5 : decode cX9_end 5 = .ok (.aload_n 0, 1) := by decide +kernel
theorem dX9_end_6 : decode cX9_end 6 = .ok (.getfield 19, 3) := by decide +kernel
theorem dX9_end_9 : decode cX9_end 9 = .ok (.invokevirtual 110, 3) := by decide +kernel
theorem dX9_end_12 : decode cX9_end 12 = .ok (.if_icmp .le 5, 3) := by decide +kernel
theorem dX9_end_15 : decode cX9_end 15 = .ok (.iconst (-1), 1) := by decide +kernel
theorem dX9_end_16 : decode cX9_end 16 = .ok (.ireturn, 1) := by decide +kernel
theorem dX9_end_17 : decode cX9_end 17 = .ok (.aload_n 0, 1) := by decide +kernel
theorem dX9_end_18 : decode cX9_end 18 = .ok (.getfield 19, 3) := by decide +kernel
theorem dX9_end_21 : decode cX9_end 21 = .ok (.iload_n 1, 1) := by decide +kernel
theorem dX9_end_22 : decode cX9_end 22 = .ok (.invokevirtual 113, 3) := by decide +kernel
theorem dX9_end_25 : decode cX9_end 25 = .ok (.iload_n 1, 1) := by decide +kernel
theorem dX9_end_26 : decode cX9_end 26 = .ok (.ireturn, 1) := by decide +kernel
theorem dX9_acts_0 : decode cX9_acts 0 = .ok (.aload_n 0, 1) := by decide +kernel
theorem dX9_acts_1 : decode cX9_acts 1 = .ok (.getfield 35, 3) := by decide +kernel
theorem dX9_acts_4 : decode cX9_acts 4 = .ok (.invokevirtual 116, 3) := by decide +kernel
theorem dX9_acts_7 : decode cX9_acts 7 = .ok (.istore_n 1, 1) := by decide +kernel
theorem dX9_acts_8 : decode cX9_acts 8 = .ok (.aload_n 0, 1) := by decide +kernel
theorem dX9_acts_9 : decode cX9_acts 9 = .ok (.getfield 19, 3) := by decide +kernel
theorem dX9_acts_12 : decode cX9_acts 12 = .ok (.iconst 0, 1) := by decide +kernel
theorem dX9_acts_13 : decode cX9_acts 13 = .ok (.invokevirtual 113, 3) := by decide +kernel
theorem dX9_acts_16 : decode cX9_acts 16 = .ok (.iload_n 1, 1) := by decide +kernel
theorem dX9_acts_17 : decode cX9_acts 17 = .ok (.ifCond .ne 5, 3) := by decide +kernel
theorem dX9_acts_20 : decode cX9_acts 20 = .ok (.iconst (-1), 1) := by decide +kernel
theorem dX9_acts_21 : decode cX9_acts 21 = .ok (.ireturn, 1) := by decide +kernel
theorem dX9_acts_22 : decode cX9_acts 22 = .ok (.aload_n 0, 1) := by decide +kernel
theorem dX9_acts_23 : decode cX9_acts 23 = .ok (.getfield 26, 3) := by decide +kernel
theorem dX9_acts_26 : decode cX9_acts 26 = .ok (.aload_n 0, 1) := by decide +kernel
theorem dX9_acts_27 : decode cX9_acts 27 = .ok (.getfield 35, 3) := by decide +kernel
theorem dX9_acts_30 : decode cX9_acts 30 = .ok (.invokevirtual 120, 3) := by decide +kernel
theorem dX9_acts_33 : decode cX9_acts 33 = .ok (.invokevirtual 124, 3) := by decide +kernel
theorem dX9_acts_36 : decode cX9_acts 36 = .ok (.aload_n 0, 1) := by decide +kernel
theorem dX9_acts_37 : decode cX9_acts 37 = .ok (.getfield 44, 3) := by decide +kernel
theorem dX9_acts_40 : decode cX9_acts 40 = .ok (.invokevirtual 72, 3) := by decide +kernel
theorem dX9_acts_43 : decode cX9_acts 43 = .ok (.aload_n 0, 1) := by decide +kernel
theorem dX9_acts_44 : decode cX9_acts 44 = .ok (.getfield 26, 3) := by decide +kernel
theorem dX9_acts_47 : decode cX9_acts 47 = .ok (.invokevirtual 128, 3) := by decide +kernel
theorem dX9_acts_50 : decode cX9_acts 50 = .ok (.ireturn, 1) := by decide +kernel
theorem dX9_fault_0 : decode cX9_fault 0 = .ok (.iload_n 1, 1) := by decide +kernel
theorem dX9_fault_1 : decode cX9_fault 1 = .ok (.lookupswitch 43 #[(0, 27), (1, 35)], 27) := by decide +kernel
theorem dX9_fault_28 : decode cX9_fault 28 = .ok (.aload_n 0, 1) := by decide +kernel
theorem dX9_fault_29 : decode cX9_fault 29 = .ok (.getfield 35, 3) := by decide +kernel
theorem dX9_fault_32 : decode cX9_fault 32 = .ok (.invokevirtual 131, 3) := by decide +kernel
theorem dX9_fault_35 : decode cX9_fault 35 = .ok (.ireturn, 1) := by decide +kernel
theorem dX9_fault_36 : decode cX9_fault 36 = .ok (.aload_n 0, 1) := by decide +kernel
theorem dX9_fault_37 : decode cX9_fault 37 = .ok (.getfield 35, 3) := by decide +kernel
theorem dX9_fault_40 : decode cX9_fault 40 = .ok (.invokevirtual 134, 3) := by decide +kernel
theorem dX9_fault_43 : decode cX9_fault 43 = .ok (.ireturn, 1) := by decide +kernel
theorem dX9_fault_44 : decode cX9_fault 44 = .ok (.iconst (-1), 1) := by decide +kernel
theorem dX9_fault_45 : decode cX9_fault 45 = .ok (.ireturn, 1) := by decide +kernel
theorem dX9_may_0 : decode cX9_may 0 = .ok (.iload_n 1, 1) := by decide +kernel
theorem dX9_may_1 : decode cX9_may 1 = .ok (.invokestatic 137, 3) := by decide +kernel
theorem dX9_may_4 : decode cX9_may 4 = .ok (.ifCond .eq 21, 3) := by decide +kernel
theorem dX9_may_7 : decode cX9_may 7 = .ok (.aload_n 0, 1) := by decide +kernel
theorem dX9_may_8 : decode cX9_may 8 = .ok (.getfield 10, 3) := by decide +kernel
theorem dX9_may_11 : decode cX9_may 11 = .ok (.iload_n 2, 1) := by decide +kernel
theorem dX9_may_12 : decode cX9_may 12 = .ok (.invokevirtual 140, 3) := by decide +kernel
theorem dX9_may_15 : decode cX9_may 15 = .ok (.ifCond .eq 10, 3) := by decide +kernel
theorem dX9_may_18 : decode cX9_may 18 = .ok (.iload_n 3, 1) := by decide +kernel
theorem dX9_may_19 : decode cX9_may 19 = .ok (.invokestatic 76, 3) := by decide +kernel
theorem dX9_may_22 : decode cX9_may 22 = .ok (.ifCond .ne 5, 3) := by decide +kernel
theorem dX9_may_25 : decode cX9_may 25 = .ok (.iconst (-1), 1) := by decide +kernel
theorem dX9_may_26 : decode cX9_may 26 = .ok (.ireturn, 1) := by decide +kernel
theorem dX9_may_27 : decode cX9_may 27 = .ok (.aload_n 0, 1) := by decide +kernel
theorem dX9_may_28 : decode cX9_may 28 = .ok (.getfield 26, 3) := by decide +kernel
theorem dX9_may_31 : decode cX9_may 31 = .ok (.iload_n 1, 1) := by decide +kernel
theorem dX9_may_32 : decode cX9_may 32 = .ok (.iload_n 2, 1) := by decide +kernel
theorem dX9_may_33 : decode cX9_may 33 = .ok (.iload_n 3, 1) := by decide +kernel
theorem dX9_may_34 : decode cX9_may 34 = .ok (.invokevirtual 143, 3) := by decide +kernel
theorem dX9_may_37 : decode cX9_may 37 = .ok (.ifCond .eq 7, 3) := by decide +kernel
theorem dX9_may_40 : decode cX9_may 40 = .ok (.iconst 1, 1) := by decide +kernel
theorem dX9_may_41 : decode cX9_may 41 = .ok (.goto 4, 3) := by decide +kernel
theorem dX9_may_44 : decode cX9_may 44 = .ok (.iconst 0, 1) := by decide +kernel
theorem dX9_may_45 : decode cX9_may 45 = .ok (.ireturn, 1) := by decide +kernel
theorem dX9_speed_0 : decode cX9_speed 0 = .ok (.iload_n 1, 1) := by decide +kernel
theorem dX9_speed_1 : decode cX9_speed 1 = .ok (.invokestatic 137, 3) := by decide +kernel
theorem dX9_speed_4 : decode cX9_speed 4 = .ok (.ifCond .eq 21, 3) := by decide +kernel
theorem dX9_speed_7 : decode cX9_speed 7 = .ok (.aload_n 0, 1) := by decide +kernel
theorem dX9_speed_8 : decode cX9_speed 8 = .ok (.getfield 10, 3) := by decide +kernel
theorem dX9_speed_11 : decode cX9_speed 11 = .ok (.iload_n 2, 1) := by decide +kernel
theorem dX9_speed_12 : decode cX9_speed 12 = .ok (.invokevirtual 140, 3) := by decide +kernel
theorem dX9_speed_15 : decode cX9_speed 15 = .ok (.ifCond .eq 10, 3) := by decide +kernel
theorem dX9_speed_18 : decode cX9_speed 18 = .ok (.iload_n 3, 1) := by decide +kernel
theorem dX9_speed_19 : decode cX9_speed 19 = .ok (.invokestatic 76, 3) := by decide +kernel
theorem dX9_speed_22 : decode cX9_speed 22 = .ok (.ifCond .ne 5, 3) := by decide +kernel
theorem dX9_speed_25 : decode cX9_speed 25 = .ok (.iconst (-1), 1) := by decide +kernel
theorem dX9_speed_26 : decode cX9_speed 26 = .ok (.ireturn, 1) := by decide +kernel
theorem dX9_speed_27 : decode cX9_speed 27 = .ok (.aload_n 0, 1) := by decide +kernel
theorem dX9_speed_28 : decode cX9_speed 28 = .ok (.getfield 26, 3) := by decide +kernel
theorem dX9_speed_31 : decode cX9_speed 31 = .ok (.iload_n 1, 1) := by decide +kernel
theorem dX9_speed_32 : decode cX9_speed 32 = .ok (.iload_n 2, 1) := by decide +kernel
theorem dX9_speed_33 : decode cX9_speed 33 = .ok (.iload_n 3, 1) := by decide +kernel
theorem dX9_speed_34 : decode cX9_speed 34 = .ok (.invokevirtual 146, 3) := by decide +kernel
theorem dX9_speed_37 : decode cX9_speed 37 = .ok (.ireturn, 1) := by decide +kernel
theorem dX9_fastest_0 : decode cX9_fastest 0 = .ok (.aload_n 0, 1) := by decide +kernel
theorem dX9_fastest_1 : decode cX9_fastest 1 = .ok (.iload_n 1, 1) := by decide +kernel
theorem dX9_fastest_2 : decode cX9_fastest 2 = .ok (.iload_n 2, 1) := by decide +kernel
theorem dX9_fastest_3 : decode cX9_fastest 3 = .ok (.iload_n 3, 1) := by decide +kernel
theorem dX9_fastest_4 : decode cX9_fastest 4 = .ok (.iload 4, 2) := by decide +kernel
theorem dX9_fastest_6 : decode cX9_fastest 6 = .ok (.invokevirtual 150, 3) := by decide +kernel
theorem dX9_fastest_9 : decode cX9_fastest 9 = .ok (.ifCond .ne 5, 3) := by decide +kernel
theorem dX9_fastest_12 : decode cX9_fastest 12 = .ok (.iconst (-1), 1) := by decide +kernel
theorem dX9_fastest_13 : decode cX9_fastest 13 = .ok (.ireturn, 1) := by decide +kernel
theorem dX9_fastest_14 : decode cX9_fastest 14 = .ok (.aload_n 0, 1) := by decide +kernel
theorem dX9_fastest_15 : decode cX9_fastest 15 = .ok (.getfield 44, 3) := by decide +kernel
theorem dX9_fastest_18 : decode cX9_fastest 18 = .ok (.iload_n 1, 1) := by decide +kernel
theorem dX9_fastest_19 : decode cX9_fastest 19 = .ok (.iload_n 2, 1) := by decide +kernel
theorem dX9_fastest_20 : decode cX9_fastest 20 = .ok (.iload_n 3, 1) := by decide +kernel
theorem dX9_fastest_21 : decode cX9_fastest 21 = .ok (.iload 4, 2) := by decide +kernel
theorem dX9_fastest_23 : decode cX9_fastest 23 = .ok (.invokevirtual 153, 3) := by decide +kernel
theorem dX9_fastest_26 : decode cX9_fastest 26 = .ok (.aload_n 0, 1) := by decide +kernel
theorem dX9_fastest_27 : decode cX9_fastest 27 = .ok (.getfield 44, 3) := by decide +kernel
theorem dX9_fastest_30 : decode cX9_fastest 30 = .ok (.invokevirtual 157, 3) := by decide +kernel
theorem dX9_fastest_33 : decode cX9_fastest 33 = .ok (.ireturn, 1) := by decide +kernel
theorem dX9_streets_0 : decode cX9_streets 0 = .ok (.aload_n 0, 1) := by decide +kernel
theorem dX9_streets_1 : decode cX9_streets 1 = .ok (.iload_n 1, 1) := by decide +kernel
theorem dX9_streets_2 : decode cX9_streets 2 = .ok (.iload_n 2, 1) := by decide +kernel
theorem dX9_streets_3 : decode cX9_streets 3 = .ok (.iload_n 3, 1) := by decide +kernel
theorem dX9_streets_4 : decode cX9_streets 4 = .ok (.iload 4, 2) := by decide +kernel
theorem dX9_streets_6 : decode cX9_streets 6 = .ok (.invokevirtual 150, 3) := by decide +kernel
theorem dX9_streets_9 : decode cX9_streets 9 = .ok (.ifCond .ne 5, 3) := by decide +kernel
theorem dX9_streets_12 : decode cX9_streets 12 = .ok (.iconst (-1), 1) := by decide +kernel
theorem dX9_streets_13 : decode cX9_streets 13 = .ok (.ireturn, 1) := by decide +kernel
theorem dX9_streets_14 : decode cX9_streets 14 = .ok (.aload_n 0, 1) := by decide +kernel
theorem dX9_streets_15 : decode cX9_streets 15 = .ok (.getfield 44, 3) := by decide +kernel
theorem dX9_streets_18 : decode cX9_streets 18 = .ok (.iload_n 1, 1) := by decide +kernel
theorem dX9_streets_19 : decode cX9_streets 19 = .ok (.iload_n 2, 1) := by decide +kernel
theorem dX9_streets_20 : decode cX9_streets 20 = .ok (.iload_n 3, 1) := by decide +kernel
theorem dX9_streets_21 : decode cX9_streets 21 = .ok (.iload 4, 2) := by decide +kernel
theorem dX9_streets_23 : decode cX9_streets 23 = .ok (.invokevirtual 153, 3) := by decide +kernel
theorem dX9_streets_26 : decode cX9_streets 26 = .ok (.aload_n 0, 1) := by decide +kernel
theorem dX9_streets_27 : decode cX9_streets 27 = .ok (.getfield 44, 3) := by decide +kernel
theorem dX9_streets_30 : decode cX9_streets 30 = .ok (.invokevirtual 160, 3) := by decide +kernel
theorem dX9_streets_33 : decode cX9_streets 33 = .ok (.ireturn, 1) := by decide +kernel
theorem dX9_sign_0 : decode cX9_sign 0 = .ok (.aload_n 0, 1) := by decide +kernel
theorem dX9_sign_1 : decode cX9_sign 1 = .ok (.getfield 10, 3) := by decide +kernel
theorem dX9_sign_4 : decode cX9_sign 4 = .ok (.iload_n 1, 1) := by decide +kernel
theorem dX9_sign_5 : decode cX9_sign 5 = .ok (.invokevirtual 163, 3) := by decide +kernel
theorem dX9_sign_8 : decode cX9_sign 8 = .ok (.ifCond .eq 13, 3) := by decide +kernel
theorem dX9_sign_11 : decode cX9_sign 11 = .ok (.iload_n 2, 1) := by decide +kernel
theorem dX9_sign_12 : decode cX9_sign 12 = .ok (.iconst 1, 1) := by decide +kernel
theorem dX9_sign_13 : decode cX9_sign 13 = .ok (.bipush 60, 2) := by decide +kernel
theorem dX9_sign_15 : decode cX9_sign 15 = .ok (.invokestatic 84, 3) := by decide +kernel
theorem dX9_sign_18 : decode cX9_sign 18 = .ok (.ifCond .ne 5, 3) := by decide +kernel
theorem dX9_sign_21 : decode cX9_sign 21 = .ok (.iconst (-1), 1) := by decide +kernel
theorem dX9_sign_22 : decode cX9_sign 22 = .ok (.ireturn, 1) := by decide +kernel
theorem dX9_sign_23 : decode cX9_sign 23 = .ok (.aload_n 0, 1) := by decide +kernel
theorem dX9_sign_24 : decode cX9_sign 24 = .ok (.getfield 53, 3) := by decide +kernel
theorem dX9_sign_27 : decode cX9_sign 27 = .ok (.iload_n 1, 1) := by decide +kernel
theorem dX9_sign_28 : decode cX9_sign 28 = .ok (.iload_n 2, 1) := by decide +kernel
theorem dX9_sign_29 : decode cX9_sign 29 = .ok (.invokevirtual 166, 3) := by decide +kernel
theorem dX9_sign_32 : decode cX9_sign 32 = .ok (.ireturn, 1) := by decide +kernel
theorem dX9_crew_0 : decode cX9_crew 0 = .ok (.aload_n 0, 1) := by decide +kernel
theorem dX9_crew_1 : decode cX9_crew 1 = .ok (.getfield 10, 3) := by decide +kernel
theorem dX9_crew_4 : decode cX9_crew 4 = .ok (.iload_n 1, 1) := by decide +kernel
theorem dX9_crew_5 : decode cX9_crew 5 = .ok (.invokevirtual 163, 3) := by decide +kernel
theorem dX9_crew_8 : decode cX9_crew 8 = .ok (.ifCond .ne 5, 3) := by decide +kernel
theorem dX9_crew_11 : decode cX9_crew 11 = .ok (.iconst (-1), 1) := by decide +kernel
theorem dX9_crew_12 : decode cX9_crew 12 = .ok (.ireturn, 1) := by decide +kernel
theorem dX9_crew_13 : decode cX9_crew 13 = .ok (.aload_n 0, 1) := by decide +kernel
theorem dX9_crew_14 : decode cX9_crew 14 = .ok (.getfield 53, 3) := by decide +kernel
theorem dX9_crew_17 : decode cX9_crew 17 = .ok (.iload_n 1, 1) := by decide +kernel
theorem dX9_crew_18 : decode cX9_crew 18 = .ok (.invokevirtual 170, 3) := by decide +kernel
theorem dX9_crew_21 : decode cX9_crew 21 = .ok (.ireturn, 1) := by decide +kernel
theorem dX9_walk_0 : decode cX9_walk 0 = .ok (.aload_n 0, 1) := by decide +kernel
theorem dX9_walk_1 : decode cX9_walk 1 = .ok (.getfield 10, 3) := by decide +kernel
theorem dX9_walk_4 : decode cX9_walk 4 = .ok (.iload_n 1, 1) := by decide +kernel
theorem dX9_walk_5 : decode cX9_walk 5 = .ok (.invokevirtual 163, 3) := by decide +kernel
theorem dX9_walk_8 : decode cX9_walk 8 = .ok (.ifCond .eq 14, 3) := by decide +kernel
theorem dX9_walk_11 : decode cX9_walk 11 = .ok (.aload_n 0, 1) := by decide +kernel
theorem dX9_walk_12 : decode cX9_walk 12 = .ok (.getfield 10, 3) := by decide +kernel
theorem dX9_walk_15 : decode cX9_walk 15 = .ok (.iload_n 2, 1) := by decide +kernel
theorem dX9_walk_16 : decode cX9_walk 16 = .ok (.invokevirtual 163, 3) := by decide +kernel
theorem dX9_walk_19 : decode cX9_walk 19 = .ok (.ifCond .ne 5, 3) := by decide +kernel
theorem dX9_walk_22 : decode cX9_walk 22 = .ok (.iconst (-1), 1) := by decide +kernel
theorem dX9_walk_23 : decode cX9_walk 23 = .ok (.ireturn, 1) := by decide +kernel
theorem dX9_walk_24 : decode cX9_walk 24 = .ok (.aload_n 0, 1) := by decide +kernel
theorem dX9_walk_25 : decode cX9_walk 25 = .ok (.getfield 10, 3) := by decide +kernel
theorem dX9_walk_28 : decode cX9_walk 28 = .ok (.iload_n 1, 1) := by decide +kernel
theorem dX9_walk_29 : decode cX9_walk 29 = .ok (.iload_n 2, 1) := by decide +kernel
theorem dX9_walk_30 : decode cX9_walk 30 = .ok (.invokevirtual 174, 3) := by decide +kernel
theorem dX9_walk_33 : decode cX9_walk 33 = .ok (.istore_n 3, 1) := by decide +kernel
theorem dX9_walk_34 : decode cX9_walk 34 = .ok (.iload_n 3, 1) := by decide +kernel
theorem dX9_walk_35 : decode cX9_walk 35 = .ok (.ldc 177, 2) := by decide +kernel
theorem dX9_walk_37 : decode cX9_walk 37 = .ok (.if_icmp .lt 7, 3) := by decide +kernel
theorem dX9_walk_40 : decode cX9_walk 40 = .ok (.iconst (-1), 1) := by decide +kernel
theorem dX9_walk_41 : decode cX9_walk 41 = .ok (.goto 4, 3) := by decide +kernel
theorem dX9_walk_44 : decode cX9_walk 44 = .ok (.iload_n 3, 1) := by decide +kernel
theorem dX9_walk_45 : decode cX9_walk 45 = .ok (.ireturn, 1) := by decide +kernel
theorem dX9_done_0 : decode cX9_done 0 = .ok (.aload_n 0, 1) := by decide +kernel
theorem dX9_done_1 : decode cX9_done 1 = .ok (.getfield 53, 3) := by decide +kernel
theorem dX9_done_4 : decode cX9_done 4 = .ok (.invokevirtual 178, 3) := by decide +kernel
theorem dX9_done_7 : decode cX9_done 7 = .ok (.ireturn, 1) := by decide +kernel
theorem dX9_order_0 : decode cX9_order 0 = .ok (.aload_n 0, 1) := by decide +kernel
theorem dX9_order_1 : decode cX9_order 1 = .ok (.getfield 53, 3) := by decide +kernel
theorem dX9_order_4 : decode cX9_order 4 = .ok (.iload_n 1, 1) := by decide +kernel
theorem dX9_order_5 : decode cX9_order 5 = .ok (.invokevirtual 181, 3) := by decide +kernel
theorem dX9_order_8 : decode cX9_order 8 = .ok (.ifCond .eq 14, 3) := by decide +kernel
theorem dX9_order_11 : decode cX9_order 11 = .ok (.aload_n 0, 1) := by decide +kernel
theorem dX9_order_12 : decode cX9_order 12 = .ok (.getfield 53, 3) := by decide +kernel
theorem dX9_order_15 : decode cX9_order 15 = .ok (.invokevirtual 178, 3) := by decide +kernel
theorem dX9_order_18 : decode cX9_order 18 = .ok (.iconst (-1), 1) := by decide +kernel
theorem dX9_order_19 : decode cX9_order 19 = .ok (.if_icmp .ne 5, 3) := by decide +kernel
theorem dX9_order_22 : decode cX9_order 22 = .ok (.iconst (-1), 1) := by decide +kernel
theorem dX9_order_23 : decode cX9_order 23 = .ok (.ireturn, 1) := by decide +kernel
theorem dX9_order_24 : decode cX9_order 24 = .ok (.iload_n 2, 1) := by decide +kernel
theorem dX9_order_25 : decode cX9_order 25 = .ok (.tableswitch 54 0 2 #[27, 36, 45], 27) := by decide +kernel
theorem dX9_order_52 : decode cX9_order 52 = .ok (.aload_n 0, 1) := by decide +kernel
theorem dX9_order_53 : decode cX9_order 53 = .ok (.getfield 53, 3) := by decide +kernel
theorem dX9_order_56 : decode cX9_order 56 = .ok (.iload_n 1, 1) := by decide +kernel
theorem dX9_order_57 : decode cX9_order 57 = .ok (.invokevirtual 184, 3) := by decide +kernel
theorem dX9_order_60 : decode cX9_order 60 = .ok (.ireturn, 1) := by decide +kernel
theorem dX9_order_61 : decode cX9_order 61 = .ok (.aload_n 0, 1) := by decide +kernel
theorem dX9_order_62 : decode cX9_order 62 = .ok (.getfield 53, 3) := by decide +kernel
theorem dX9_order_65 : decode cX9_order 65 = .ok (.iload_n 1, 1) := by decide +kernel
theorem dX9_order_66 : decode cX9_order 66 = .ok (.invokevirtual 187, 3) := by decide +kernel
theorem dX9_order_69 : decode cX9_order 69 = .ok (.ireturn, 1) := by decide +kernel
theorem dX9_order_70 : decode cX9_order 70 = .ok (.aload_n 0, 1) := by decide +kernel
theorem dX9_order_71 : decode cX9_order 71 = .ok (.getfield 53, 3) := by decide +kernel
theorem dX9_order_74 : decode cX9_order 74 = .ok (.iload_n 1, 1) := by decide +kernel
theorem dX9_order_75 : decode cX9_order 75 = .ok (.invokevirtual 190, 3) := by decide +kernel
theorem dX9_order_78 : decode cX9_order 78 = .ok (.ireturn, 1) := by decide +kernel
theorem dX9_order_79 : decode cX9_order 79 = .ok (.iconst (-1), 1) := by decide +kernel
theorem dX9_order_80 : decode cX9_order 80 = .ok (.ireturn, 1) := by decide +kernel
theorem dX9_later_0 : decode cX9_later 0 = .ok (.iload_n 1, 1) := by decide +kernel
theorem dX9_later_1 : decode cX9_later 1 = .ok (.iconst 0, 1) := by decide +kernel
theorem dX9_later_2 : decode cX9_later 2 = .ok (.sipush 1000, 3) := by decide +kernel
theorem dX9_later_5 : decode cX9_later 5 = .ok (.invokestatic 84, 3) := by decide +kernel
theorem dX9_later_8 : decode cX9_later 8 = .ok (.ifCond .eq 14, 3) := by decide +kernel
theorem dX9_later_11 : decode cX9_later 11 = .ok (.aload_n 0, 1) := by decide +kernel
theorem dX9_later_12 : decode cX9_later 12 = .ok (.getfield 60, 3) := by decide +kernel
theorem dX9_later_15 : decode cX9_later 15 = .ok (.iload_n 1, 1) := by decide +kernel
theorem dX9_later_16 : decode cX9_later 16 = .ok (.invokevirtual 193, 3) := by decide +kernel
theorem dX9_later_19 : decode cX9_later 19 = .ok (.goto 4, 3) := by decide +kernel
theorem dX9_later_22 : decode cX9_later 22 = .ok (.iconst (-1), 1) := by decide +kernel
theorem dX9_later_23 : decode cX9_later 23 = .ok (.ireturn, 1) := by decide +kernel
theorem dX9_tell_0 : decode cX9_tell 0 = .ok (.iload_n 1, 1) := by decide +kernel
theorem dX9_tell_1 : decode cX9_tell 1 = .ok (.invokestatic 137, 3) := by decide +kernel
theorem dX9_tell_4 : decode cX9_tell 4 = .ok (.ifCond .eq 21, 3) := by decide +kernel
theorem dX9_tell_7 : decode cX9_tell 7 = .ok (.iload_n 2, 1) := by decide +kernel
theorem dX9_tell_8 : decode cX9_tell 8 = .ok (.invokestatic 196, 3) := by decide +kernel
theorem dX9_tell_11 : decode cX9_tell 11 = .ok (.ifCond .eq 14, 3) := by decide +kernel
theorem dX9_tell_14 : decode cX9_tell 14 = .ok (.iload_n 3, 1) := by decide +kernel
theorem dX9_tell_15 : decode cX9_tell 15 = .ok (.iconst 0, 1) := by decide +kernel
theorem dX9_tell_16 : decode cX9_tell 16 = .ok (.sipush 1000, 3) := by decide +kernel
theorem dX9_tell_19 : decode cX9_tell 19 = .ok (.invokestatic 84, 3) := by decide +kernel
theorem dX9_tell_22 : decode cX9_tell 22 = .ok (.ifCond .ne 5, 3) := by decide +kernel
theorem dX9_tell_25 : decode cX9_tell 25 = .ok (.iconst (-1), 1) := by decide +kernel
theorem dX9_tell_26 : decode cX9_tell 26 = .ok (.ireturn, 1) := by decide +kernel
theorem dX9_tell_27 : decode cX9_tell 27 = .ok (.aload_n 0, 1) := by decide +kernel
theorem dX9_tell_28 : decode cX9_tell 28 = .ok (.getfield 60, 3) := by decide +kernel
theorem dX9_tell_31 : decode cX9_tell 31 = .ok (.iload_n 1, 1) := by decide +kernel
theorem dX9_tell_32 : decode cX9_tell 32 = .ok (.iload_n 2, 1) := by decide +kernel
theorem dX9_tell_33 : decode cX9_tell 33 = .ok (.iload_n 3, 1) := by decide +kernel
theorem dX9_tell_34 : decode cX9_tell 34 = .ok (.invokevirtual 199, 3) := by decide +kernel
theorem dX9_tell_37 : decode cX9_tell 37 = .ok (.ireturn, 1) := by decide +kernel
theorem dX9_untell_0 : decode cX9_untell 0 = .ok (.aload_n 0, 1) := by decide +kernel
theorem dX9_untell_1 : decode cX9_untell 1 = .ok (.getfield 60, 3) := by decide +kernel
theorem dX9_untell_4 : decode cX9_untell 4 = .ok (.iload_n 1, 1) := by decide +kernel
theorem dX9_untell_5 : decode cX9_untell 5 = .ok (.invokevirtual 202, 3) := by decide +kernel
theorem dX9_untell_8 : decode cX9_untell 8 = .ok (.ireturn, 1) := by decide +kernel
theorem dX9_harms_0 : decode cX9_harms 0 = .ok (.iload_n 1, 1) := by decide +kernel
theorem dX9_harms_1 : decode cX9_harms 1 = .ok (.invokestatic 137, 3) := by decide +kernel
theorem dX9_harms_4 : decode cX9_harms 4 = .ok (.ifCond .eq 22, 3) := by decide +kernel
theorem dX9_harms_7 : decode cX9_harms 7 = .ok (.iload_n 2, 1) := by decide +kernel
theorem dX9_harms_8 : decode cX9_harms 8 = .ok (.invokestatic 196, 3) := by decide +kernel
theorem dX9_harms_11 : decode cX9_harms 11 = .ok (.ifCond .eq 15, 3) := by decide +kernel
theorem dX9_harms_14 : decode cX9_harms 14 = .ok (.iload_n 3, 1) := by decide +kernel
theorem dX9_harms_15 : decode cX9_harms 15 = .ok (.invokestatic 196, 3) := by decide +kernel
theorem dX9_harms_18 : decode cX9_harms 18 = .ok (.ifCond .eq 8, 3) := by decide +kernel
theorem dX9_harms_21 : decode cX9_harms 21 = .ok (.iload_n 2, 1) := by decide +kernel
theorem dX9_harms_22 : decode cX9_harms 22 = .ok (.iload_n 3, 1) := by decide +kernel
theorem dX9_harms_23 : decode cX9_harms 23 = .ok (.if_icmp .le 5, 3) := by decide +kernel
theorem dX9_harms_26 : decode cX9_harms 26 = .ok (.iconst (-1), 1) := by decide +kernel
theorem dX9_harms_27 : decode cX9_harms 27 = .ok (.ireturn, 1) := by decide +kernel
theorem dX9_harms_28 : decode cX9_harms 28 = .ok (.aload_n 0, 1) := by decide +kernel
theorem dX9_harms_29 : decode cX9_harms 29 = .ok (.getfield 60, 3) := by decide +kernel
theorem dX9_harms_32 : decode cX9_harms 32 = .ok (.iload_n 1, 1) := by decide +kernel
theorem dX9_harms_33 : decode cX9_harms 33 = .ok (.iload_n 2, 1) := by decide +kernel
theorem dX9_harms_34 : decode cX9_harms 34 = .ok (.iload_n 3, 1) := by decide +kernel
theorem dX9_harms_35 : decode cX9_harms 35 = .ok (.iload 4, 2) := by decide +kernel
theorem dX9_harms_37 : decode cX9_harms 37 = .ok (.invokevirtual 205, 3) := by decide +kernel
theorem dX9_harms_40 : decode cX9_harms 40 = .ok (.ireturn, 1) := by decide +kernel
theorem dX9_differ_0 : decode cX9_differ 0 = .ok (.iload_n 1, 1) := by decide +kernel
theorem dX9_differ_1 : decode cX9_differ 1 = .ok (.invokestatic 137, 3) := by decide +kernel
theorem dX9_differ_4 : decode cX9_differ 4 = .ok (.ifCond .eq 13, 3) := by decide +kernel
theorem dX9_differ_7 : decode cX9_differ 7 = .ok (.iload_n 2, 1) := by decide +kernel
theorem dX9_differ_8 : decode cX9_differ 8 = .ok (.iconst 1, 1) := by decide +kernel
theorem dX9_differ_9 : decode cX9_differ 9 = .ok (.bipush 50, 2) := by decide +kernel
theorem dX9_differ_11 : decode cX9_differ 11 = .ok (.invokestatic 84, 3) := by decide +kernel
theorem dX9_differ_14 : decode cX9_differ 14 = .ok (.ifCond .ne 5, 3) := by decide +kernel
theorem dX9_differ_17 : decode cX9_differ 17 = .ok (.iconst (-1), 1) := by decide +kernel
theorem dX9_differ_18 : decode cX9_differ 18 = .ok (.ireturn, 1) := by decide +kernel
theorem dX9_differ_19 : decode cX9_differ 19 = .ok (.aload_n 0, 1) := by decide +kernel
theorem dX9_differ_20 : decode cX9_differ 20 = .ok (.getfield 60, 3) := by decide +kernel
theorem dX9_differ_23 : decode cX9_differ 23 = .ok (.iload_n 1, 1) := by decide +kernel
theorem dX9_differ_24 : decode cX9_differ 24 = .ok (.iload_n 2, 1) := by decide +kernel
theorem dX9_differ_25 : decode cX9_differ 25 = .ok (.iload_n 3, 1) := by decide +kernel
theorem dX9_differ_26 : decode cX9_differ 26 = .ok (.invokevirtual 209, 3) := by decide +kernel
theorem dX9_differ_29 : decode cX9_differ 29 = .ok (.ireturn, 1) := by decide +kernel
theorem dX9_about_0 : decode cX9_about 0 = .ok (.iload_n 1, 1) := by decide +kernel
theorem dX9_about_1 : decode cX9_about 1 = .ok (.tableswitch 123 0 8 #[51, 59, 67, 75, 83, 91, 99, 107, 115], 51) := by decide +kernel
theorem dX9_about_52 : decode cX9_about 52 = .ok (.aload_n 0, 1) := by decide +kernel
theorem dX9_about_53 : decode cX9_about 53 = .ok (.getfield 10, 3) := by decide +kernel
theorem dX9_about_56 : decode cX9_about 56 = .ok (.invokevirtual 212, 3) := by decide +kernel
theorem dX9_about_59 : decode cX9_about 59 = .ok (.ireturn, 1) := by decide +kernel
theorem dX9_about_60 : decode cX9_about 60 = .ok (.aload_n 0, 1) := by decide +kernel
theorem dX9_about_61 : decode cX9_about 61 = .ok (.getfield 10, 3) := by decide +kernel
theorem dX9_about_64 : decode cX9_about 64 = .ok (.invokevirtual 215, 3) := by decide +kernel
theorem dX9_about_67 : decode cX9_about 67 = .ok (.ireturn, 1) := by decide +kernel
theorem dX9_about_68 : decode cX9_about 68 = .ok (.aload_n 0, 1) := by decide +kernel
theorem dX9_about_69 : decode cX9_about 69 = .ok (.getfield 10, 3) := by decide +kernel
theorem dX9_about_72 : decode cX9_about 72 = .ok (.invokevirtual 216, 3) := by decide +kernel
theorem dX9_about_75 : decode cX9_about 75 = .ok (.ireturn, 1) := by decide +kernel
theorem dX9_about_76 : decode cX9_about 76 = .ok (.aload_n 0, 1) := by decide +kernel
theorem dX9_about_77 : decode cX9_about 77 = .ok (.getfield 26, 3) := by decide +kernel
theorem dX9_about_80 : decode cX9_about 80 = .ok (.invokevirtual 128, 3) := by decide +kernel
theorem dX9_about_83 : decode cX9_about 83 = .ok (.ireturn, 1) := by decide +kernel
theorem dX9_about_84 : decode cX9_about 84 = .ok (.aload_n 0, 1) := by decide +kernel
theorem dX9_about_85 : decode cX9_about 85 = .ok (.getfield 53, 3) := by decide +kernel
theorem dX9_about_88 : decode cX9_about 88 = .ok (.invokevirtual 219, 3) := by decide +kernel
theorem dX9_about_91 : decode cX9_about 91 = .ok (.ireturn, 1) := by decide +kernel
theorem dX9_about_92 : decode cX9_about 92 = .ok (.aload_n 0, 1) := by decide +kernel
theorem dX9_about_93 : decode cX9_about 93 = .ok (.getfield 53, 3) := by decide +kernel
theorem dX9_about_96 : decode cX9_about 96 = .ok (.invokevirtual 222, 3) := by decide +kernel
theorem dX9_about_99 : decode cX9_about 99 = .ok (.ireturn, 1) := by decide +kernel
theorem dX9_about_100 : decode cX9_about 100 = .ok (.aload_n 0, 1) := by decide +kernel
theorem dX9_about_101 : decode cX9_about 101 = .ok (.getfield 60, 3) := by decide +kernel
theorem dX9_about_104 : decode cX9_about 104 = .ok (.invokevirtual 225, 3) := by decide +kernel
theorem dX9_about_107 : decode cX9_about 107 = .ok (.ireturn, 1) := by decide +kernel
theorem dX9_about_108 : decode cX9_about 108 = .ok (.aload_n 0, 1) := by decide +kernel
theorem dX9_about_109 : decode cX9_about 109 = .ok (.getfield 60, 3) := by decide +kernel
theorem dX9_about_112 : decode cX9_about 112 = .ok (.invokevirtual 228, 3) := by decide +kernel
theorem dX9_about_115 : decode cX9_about 115 = .ok (.ireturn, 1) := by decide +kernel
theorem dX9_about_116 : decode cX9_about 116 = .ok (.aload_n 0, 1) := by decide +kernel
theorem dX9_about_117 : decode cX9_about 117 = .ok (.getfield 19, 3) := by decide +kernel
theorem dX9_about_120 : decode cX9_about 120 = .ok (.invokevirtual 110, 3) := by decide +kernel
theorem dX9_about_123 : decode cX9_about 123 = .ok (.ireturn, 1) := by decide +kernel
theorem dX9_about_124 : decode cX9_about 124 = .ok (.iconst (-1), 1) := by decide +kernel
theorem dX9_about_125 : decode cX9_about 125 = .ok (.ireturn, 1) := by decide +kernel
theorem dX9_isQuestion_0 : decode cX9_isQuestion 0 = .ok (.iload_n 1, 1) := by decide +kernel
theorem dX9_isQuestion_1 : decode cX9_isQuestion 1 = .ok (.invokestatic 137, 3) := by decide +kernel
theorem dX9_isQuestion_4 : decode cX9_isQuestion 4 = .ok (.ifCond .eq 37, 3) := by decide +kernel
theorem dX9_isQuestion_7 : decode cX9_isQuestion 7 = .ok (.aload_n 0, 1) := by decide +kernel
theorem dX9_isQuestion_8 : decode cX9_isQuestion 8 = .ok (.getfield 10, 3) := by decide +kernel
theorem dX9_isQuestion_11 : decode cX9_isQuestion 11 = .ok (.iload_n 2, 1) := by decide +kernel
theorem dX9_isQuestion_12 : decode cX9_isQuestion 12 = .ok (.invokevirtual 163, 3) := by decide +kernel
theorem dX9_isQuestion_15 : decode cX9_isQuestion 15 = .ok (.ifCond .eq 26, 3) := by decide +kernel
theorem dX9_isQuestion_18 : decode cX9_isQuestion 18 = .ok (.aload_n 0, 1) := by decide +kernel
theorem dX9_isQuestion_19 : decode cX9_isQuestion 19 = .ok (.getfield 10, 3) := by decide +kernel
theorem dX9_isQuestion_22 : decode cX9_isQuestion 22 = .ok (.iload_n 3, 1) := by decide +kernel
theorem dX9_isQuestion_23 : decode cX9_isQuestion 23 = .ok (.invokevirtual 163, 3) := by decide +kernel
theorem dX9_isQuestion_26 : decode cX9_isQuestion 26 = .ok (.ifCond .eq 15, 3) := by decide +kernel
theorem dX9_isQuestion_29 : decode cX9_isQuestion 29 = .ok (.iload 4, 2) := by decide +kernel
theorem dX9_isQuestion_31 : decode cX9_isQuestion 31 = .ok (.invokestatic 76, 3) := by decide +kernel
theorem dX9_isQuestion_34 : decode cX9_isQuestion 34 = .ok (.ifCond .eq 7, 3) := by decide +kernel
theorem dX9_isQuestion_37 : decode cX9_isQuestion 37 = .ok (.iconst 1, 1) := by decide +kernel
theorem dX9_isQuestion_38 : decode cX9_isQuestion 38 = .ok (.goto 4, 3) := by decide +kernel
theorem dX9_isQuestion_41 : decode cX9_isQuestion 41 = .ok (.iconst 0, 1) := by decide +kernel
theorem dX9_isQuestion_42 : decode cX9_isQuestion 42 = .ok (.ireturn, 1) := by decide +kernel
theorem dX9_isKind_0 : decode cX9_isKind 0 = .ok (.iload_n 0, 1) := by decide +kernel
theorem dX9_isKind_1 : decode cX9_isKind 1 = .ok (.iconst 0, 1) := by decide +kernel
theorem dX9_isKind_2 : decode cX9_isKind 2 = .ok (.iconst 3, 1) := by decide +kernel
theorem dX9_isKind_3 : decode cX9_isKind 3 = .ok (.invokestatic 84, 3) := by decide +kernel
theorem dX9_isKind_6 : decode cX9_isKind 6 = .ok (.ireturn, 1) := by decide +kernel
theorem dX9_isMinute_0 : decode cX9_isMinute 0 = .ok (.iload_n 0, 1) := by decide +kernel
theorem dX9_isMinute_1 : decode cX9_isMinute 1 = .ok (.iconst 0, 1) := by decide +kernel
theorem dX9_isMinute_2 : decode cX9_isMinute 2 = .ok (.sipush 1439, 3) := by decide +kernel
theorem dX9_isMinute_5 : decode cX9_isMinute 5 = .ok (.invokestatic 84, 3) := by decide +kernel
theorem dX9_isMinute_8 : decode cX9_isMinute 8 = .ok (.ireturn, 1) := by decide +kernel
theorem dX9_isWeek_0 : decode cX9_isWeek 0 = .ok (.iload_n 0, 1) := by decide +kernel
theorem dX9_isWeek_1 : decode cX9_isWeek 1 = .ok (.bipush (-50), 2) := by decide +kernel
theorem dX9_isWeek_3 : decode cX9_isWeek 3 = .ok (.bipush 50, 2) := by decide +kernel
theorem dX9_isWeek_5 : decode cX9_isWeek 5 = .ok (.invokestatic 84, 3) := by decide +kernel
theorem dX9_isWeek_8 : decode cX9_isWeek 8 = .ok (.ireturn, 1) := by decide +kernel
theorem dX9_isWithin_0 : decode cX9_isWithin 0 = .ok (.iload_n 0, 1) := by decide +kernel
theorem dX9_isWithin_1 : decode cX9_isWithin 1 = .ok (.iload_n 1, 1) := by decide +kernel
theorem dX9_isWithin_2 : decode cX9_isWithin 2 = .ok (.if_icmp .lt 12, 3) := by decide +kernel
theorem dX9_isWithin_5 : decode cX9_isWithin 5 = .ok (.iload_n 0, 1) := by decide +kernel
theorem dX9_isWithin_6 : decode cX9_isWithin 6 = .ok (.iload_n 2, 1) := by decide +kernel
theorem dX9_isWithin_7 : decode cX9_isWithin 7 = .ok (.if_icmp .gt 7, 3) := by decide +kernel
theorem dX9_isWithin_10 : decode cX9_isWithin 10 = .ok (.iconst 1, 1) := by decide +kernel
theorem dX9_isWithin_11 : decode cX9_isWithin 11 = .ok (.goto 4, 3) := by decide +kernel
theorem dX9_isWithin_14 : decode cX9_isWithin 14 = .ok (.iconst 0, 1) := by decide +kernel
theorem dX9_isWithin_15 : decode cX9_isWithin 15 = .ok (.ireturn, 1) := by decide +kernel
